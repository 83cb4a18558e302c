/-! THE LAW -/
theorem gd_inv {α : Type} {b : Bool} {X : Option α} {v : α} (h : gd b X = some v) : b = true := by
  cases b with
  | true => rfl
  | false => cases h
theorem lgs (x : Int64) : (lg_cmp x x = 0) = True := eq_true ((lg_cmp_eq x x).mpr rfl)
theorem okS_t {L j : Nat} (h : j < L) (hL : L ≤ 3072) : okS L (nI j) = true := by
  refine decide_eq_true (fun q => ?_)
  rcases q with q | q
  · exact nI_pos (by omega) q
  · rw [nI_clamp (by omega)] at q; omega
set_option maxRecDepth 100000 in
theorem law_s {xs : Nat → Int32} {L n k : Nat} (hL : L ≤ 3072) (hk : 6 * k + 6 ≤ L) {u : Mm} (hI : Inv u) (next : ∀ u2, Inv u2 → L_law xs L 0 33 n (nI (6 * k) + (6 : Int32)) u2 = some 1) : L_law xs L 0 33 (n + 1) (nI (6 * k)) u = some 1 := by
  have h60 : 60 ≤ u.1 := by
    obtain ⟨A, -, -, hM⟩ := hI
    exact hM.2.1
  have o7 : okO u 0 7 = true := oO0 h60
  have o8 : okO u 33 8 = true := oO33 h60
  have g0 : okS L (nI (6 * k)) = true := okS_t (by omega) hL
  have g1 : okS L (nI (6 * k) + (1 : Int32)) = true := by
    rw [show (1 : Int32) = nI 1 from rfl, nI_add]
    exact okS_t (by omega) hL
  have g2 : okS L (nI (6 * k) + (2 : Int32)) = true := by
    rw [show (2 : Int32) = nI 2 from rfl, nI_add]
    exact okS_t (by omega) hL
  have g3 : okS L (nI (6 * k) + (3 : Int32)) = true := by
    rw [show (3 : Int32) = nI 3 from rfl, nI_add]
    exact okS_t (by omega) hL
  have g4 : okS L (nI (6 * k) + (4 : Int32)) = true := by
    rw [show (4 : Int32) = nI 4 from rfl, nI_add]
    exact okS_t (by omega) hL
  have g5 : okS L (nI (6 * k) + (5 : Int32)) = true := by
    rw [show (5 : Int32) = nI 5 from rfl, nI_add]
    exact okS_t (by omega) hL
  have hn : ¬ Int32.ofNat L - (6 : Int32) < nI (6 * k) := by
    have e : (nI L - 6).toInt = (L : Int) - 6 := by rw [i_sub (by rw [nI_toInt (by omega), li_6]; omega), nI_toInt (by omega), li_6]
    show ¬ nI L - 6 < nI (6 * k)
    rw [i_lt, e, nI_toInt (by omega)]
    omega
  rw [L_law]
  refine (if_neg hn).trans ?_
  refine (gd_of g0 _).trans ?_
  refine (bb_e _ _).trans ?_
  generalize (xs (Int32.toNatClampNeg (nI (6 * k))) &&& (31 : Int32)) = v
  by_cases c0 : v = 0
  · refine (if_pos c0).trans ?_
    obtain ⟨r, u2, e1, e2, hI2⟩ := P_status hI
    simp only [↓gd_of o7, ↓gd_of o8, ↓bd_of e1, ↓bd_of e2, ↓bb_e, ↓reduceIte, i0eq, lgs]
    exact next u2 hI2
  refine (if_neg c0).trans ?_
  by_cases c1 : v = 1
  · refine (if_pos c1).trans ?_
    obtain ⟨r, u1, u2, e1, e2, hI2⟩ := P_tray hI (xs (Int32.toNatClampNeg (nI (6 * k) + (1 : Int32)))) (xs (Int32.toNatClampNeg (nI (6 * k) + (2 : Int32)))) (xs (Int32.toNatClampNeg (nI (6 * k) + (3 : Int32))))
    have o1 : okO u1 33 8 = true := gd_inv (by rw [f_X8_tray] at e2; exact e2)
    simp only [↓gd_of g1, ↓gd_of g2, ↓gd_of g3, ↓gd_of g4, ↓gd_of g5, ↓gd_of o7, ↓gd_of o1, ↓bd_of e1, ↓bd_of e2, ↓bb_e, ↓reduceIte, i0eq, lgs]
    exact next u2 hI2
  refine (if_neg c1).trans ?_
  by_cases c2 : v = 2
  · refine (if_pos c2).trans ?_
    obtain ⟨r, u1, u2, e1, e2, hI2⟩ := P_write hI (xs (Int32.toNatClampNeg (nI (6 * k) + (1 : Int32)))) (xs (Int32.toNatClampNeg (nI (6 * k) + (2 : Int32)))) (((Int32.toInt64 (xs (Int32.toNatClampNeg (nI (6 * k) + (3 : Int32))))) <<< (Int32.toInt64 (32 : Int32) &&& 63)) ||| ((Int32.toInt64 (xs (Int32.toNatClampNeg (nI (6 * k) + (4 : Int32))))) &&& (4294967295 : Int64)))
    have o1 : okO u1 33 8 = true := gd_inv (by rw [f_X8_write] at e2; exact e2)
    simp only [↓gd_of g1, ↓gd_of g2, ↓gd_of g3, ↓gd_of g4, ↓gd_of g5, ↓gd_of o7, ↓gd_of o1, ↓bd_of e1, ↓bd_of e2, ↓bb_e, ↓reduceIte, i0eq, lgs]
    exact next u2 hI2
  refine (if_neg c2).trans ?_
  by_cases c3 : v = 3
  · refine (if_pos c3).trans ?_
    obtain ⟨r, u1, u2, e1, e2, hI2⟩ := P_read hI (xs (Int32.toNatClampNeg (nI (6 * k) + (1 : Int32)))) (xs (Int32.toNatClampNeg (nI (6 * k) + (2 : Int32))))
    have o1 : okO u1 33 8 = true := gd_inv (by rw [f_X8_read] at e2; exact e2)
    simp only [↓gd_of g1, ↓gd_of g2, ↓gd_of g3, ↓gd_of g4, ↓gd_of g5, ↓gd_of o7, ↓gd_of o1, ↓bd_of e1, ↓bd_of e2, ↓bb_e, ↓reduceIte, i0eq, lgs]
    exact next u2 hI2
  refine (if_neg c3).trans ?_
  by_cases c4 : v = 4
  · refine (if_pos c4).trans ?_
    obtain ⟨r, u1, u2, e1, e2, hI2⟩ := P_pour hI (xs (Int32.toNatClampNeg (nI (6 * k) + (1 : Int32)))) (xs (Int32.toNatClampNeg (nI (6 * k) + (2 : Int32)))) (xs (Int32.toNatClampNeg (nI (6 * k) + (3 : Int32)))) (xs (Int32.toNatClampNeg (nI (6 * k) + (4 : Int32)))) (xs (Int32.toNatClampNeg (nI (6 * k) + (5 : Int32))))
    have o1 : okO u1 33 8 = true := gd_inv (by rw [f_X8_pour] at e2; exact e2)
    simp only [↓gd_of g1, ↓gd_of g2, ↓gd_of g3, ↓gd_of g4, ↓gd_of g5, ↓gd_of o7, ↓gd_of o1, ↓bd_of e1, ↓bd_of e2, ↓bb_e, ↓reduceIte, i0eq, lgs]
    exact next u2 hI2
  refine (if_neg c4).trans ?_
  by_cases c5 : v = 5
  · refine (if_pos c5).trans ?_
    obtain ⟨r, u1, u2, e1, e2, hI2⟩ := P_thing hI (xs (Int32.toNatClampNeg (nI (6 * k) + (1 : Int32)))) (xs (Int32.toNatClampNeg (nI (6 * k) + (2 : Int32))))
    have o1 : okO u1 33 8 = true := gd_inv (by rw [f_X8_thing] at e2; exact e2)
    simp only [↓gd_of g1, ↓gd_of g2, ↓gd_of g3, ↓gd_of g4, ↓gd_of g5, ↓gd_of o7, ↓gd_of o1, ↓bd_of e1, ↓bd_of e2, ↓bb_e, ↓reduceIte, i0eq, lgs]
    exact next u2 hI2
  refine (if_neg c5).trans ?_
  by_cases c6 : v = 6
  · refine (if_pos c6).trans ?_
    obtain ⟨r, u1, u2, e1, e2, hI2⟩ := P_told hI (xs (Int32.toNatClampNeg (nI (6 * k) + (1 : Int32)))) (xs (Int32.toNatClampNeg (nI (6 * k) + (2 : Int32))))
    have o1 : okO u1 33 8 = true := gd_inv (by rw [f_X8_told] at e2; exact e2)
    simp only [↓gd_of g1, ↓gd_of g2, ↓gd_of g3, ↓gd_of g4, ↓gd_of g5, ↓gd_of o7, ↓gd_of o1, ↓bd_of e1, ↓bd_of e2, ↓bb_e, ↓reduceIte, i0eq, lgs]
    exact next u2 hI2
  refine (if_neg c6).trans ?_
  by_cases c7 : v = 7
  · refine (if_pos c7).trans ?_
    obtain ⟨r, u1, u2, e1, e2, hI2⟩ := P_say hI (xs (Int32.toNatClampNeg (nI (6 * k) + (1 : Int32)))) (xs (Int32.toNatClampNeg (nI (6 * k) + (2 : Int32)))) (xs (Int32.toNatClampNeg (nI (6 * k) + (3 : Int32))))
    have o1 : okO u1 33 8 = true := gd_inv (by rw [f_X8_say] at e2; exact e2)
    simp only [↓gd_of g1, ↓gd_of g2, ↓gd_of g3, ↓gd_of g4, ↓gd_of g5, ↓gd_of o7, ↓gd_of o1, ↓bd_of e1, ↓bd_of e2, ↓bb_e, ↓reduceIte, i0eq, lgs]
    exact next u2 hI2
  refine (if_neg c7).trans ?_
  by_cases c8 : v = 8
  · refine (if_pos c8).trans ?_
    obtain ⟨r, u1, u2, e1, e2, hI2⟩ := P_has hI (xs (Int32.toNatClampNeg (nI (6 * k) + (1 : Int32)))) (xs (Int32.toNatClampNeg (nI (6 * k) + (2 : Int32))))
    have o1 : okO u1 33 8 = true := gd_inv (by rw [f_X8_has] at e2; exact e2)
    simp only [↓gd_of g1, ↓gd_of g2, ↓gd_of g3, ↓gd_of g4, ↓gd_of g5, ↓gd_of o7, ↓gd_of o1, ↓bd_of e1, ↓bd_of e2, ↓bb_e, ↓reduceIte, i0eq, lgs]
    exact next u2 hI2
  refine (if_neg c8).trans ?_
  by_cases c9 : v = 9
  · refine (if_pos c9).trans ?_
    obtain ⟨r, u1, u2, e1, e2, hI2⟩ := P_span hI (xs (Int32.toNatClampNeg (nI (6 * k) + (1 : Int32)))) (xs (Int32.toNatClampNeg (nI (6 * k) + (2 : Int32)))) (xs (Int32.toNatClampNeg (nI (6 * k) + (3 : Int32))))
    have o1 : okO u1 33 8 = true := gd_inv (by rw [f_X8_span] at e2; exact e2)
    simp only [↓gd_of g1, ↓gd_of g2, ↓gd_of g3, ↓gd_of g4, ↓gd_of g5, ↓gd_of o7, ↓gd_of o1, ↓bd_of e1, ↓bd_of e2, ↓bb_e, ↓reduceIte, i0eq, lgs]
    exact next u2 hI2
  refine (if_neg c9).trans ?_
  by_cases c10 : v = 10
  · refine (if_pos c10).trans ?_
    obtain ⟨r, u1, u2, e1, e2, hI2⟩ := P_noSpan hI (xs (Int32.toNatClampNeg (nI (6 * k) + (1 : Int32))))
    have o1 : okO u1 33 8 = true := gd_inv (by rw [f_X8_noSpan] at e2; exact e2)
    simp only [↓gd_of g1, ↓gd_of g2, ↓gd_of g3, ↓gd_of g4, ↓gd_of g5, ↓gd_of o7, ↓gd_of o1, ↓bd_of e1, ↓bd_of e2, ↓bb_e, ↓reduceIte, i0eq, lgs]
    exact next u2 hI2
  refine (if_neg c10).trans ?_
  by_cases c11 : v = 11
  · refine (if_pos c11).trans ?_
    by_cases z : (xs (Int32.toNatClampNeg (nI (6 * k) + (2 : Int32)))) = 0
    · obtain ⟨r, u1, u2, e1, e2, hI2⟩ := P_held hI (xs (Int32.toNatClampNeg (nI (6 * k) + (1 : Int32)))) 0
      have o1 : okO u1 33 8 = true := gd_inv (by rw [f_X8_held] at e2; exact e2)
      simp only [↓gd_of g1, ↓gd_of g2, ↓gd_of g3, ↓gd_of g4, ↓gd_of g5, eq_true z, ↓gd_of o7, ↓gd_of o1, ↓bd_of e1, ↓bd_of e2, ↓bb_e, ↓reduceIte, i0eq, lgs]
      exact next u2 hI2
    · obtain ⟨r, u1, u2, e1, e2, hI2⟩ := P_held hI (xs (Int32.toNatClampNeg (nI (6 * k) + (1 : Int32)))) 1
      have o1 : okO u1 33 8 = true := gd_inv (by rw [f_X8_held] at e2; exact e2)
      simp only [↓gd_of g1, ↓gd_of g2, ↓gd_of g3, ↓gd_of g4, ↓gd_of g5, eq_false z, ↓gd_of o7, ↓gd_of o1, ↓bd_of e1, ↓bd_of e2, ↓bb_e, ↓reduceIte, i0eq, lgs]
      exact next u2 hI2
  refine (if_neg c11).trans ?_
  by_cases c12 : v = 12
  · refine (if_pos c12).trans ?_
    obtain ⟨r, u1, u2, e1, e2, hI2⟩ := P_quarrel hI (xs (Int32.toNatClampNeg (nI (6 * k) + (1 : Int32))))
    have o1 : okO u1 33 8 = true := gd_inv (by rw [f_X8_quarrel] at e2; exact e2)
    simp only [↓gd_of g1, ↓gd_of g2, ↓gd_of g3, ↓gd_of g4, ↓gd_of g5, ↓gd_of o7, ↓gd_of o1, ↓bd_of e1, ↓bd_of e2, ↓bb_e, ↓reduceIte, i0eq, lgs]
    exact next u2 hI2
  refine (if_neg c12).trans ?_
  by_cases c13 : v = 13
  · refine (if_pos c13).trans ?_
    obtain ⟨r, u1, u2, e1, e2, hI2⟩ := P_count hI (xs (Int32.toNatClampNeg (nI (6 * k) + (1 : Int32)))) (xs (Int32.toNatClampNeg (nI (6 * k) + (2 : Int32))))
    have o1 : okO u1 33 8 = true := gd_inv (by rw [f_X8_count] at e2; exact e2)
    simp only [↓gd_of g1, ↓gd_of g2, ↓gd_of g3, ↓gd_of g4, ↓gd_of g5, ↓gd_of o7, ↓gd_of o1, ↓bd_of e1, ↓bd_of e2, ↓bb_e, ↓reduceIte, i0eq, lgs]
    exact next u2 hI2
  refine (if_neg c13).trans ?_
  by_cases c14 : v = 14
  · refine (if_pos c14).trans ?_
    obtain ⟨r, u1, u2, e1, e2, hI2⟩ := P_join hI (xs (Int32.toNatClampNeg (nI (6 * k) + (1 : Int32)))) (xs (Int32.toNatClampNeg (nI (6 * k) + (2 : Int32))))
    have o1 : okO u1 33 8 = true := gd_inv (by rw [f_X8_join] at e2; exact e2)
    simp only [↓gd_of g1, ↓gd_of g2, ↓gd_of g3, ↓gd_of g4, ↓gd_of g5, ↓gd_of o7, ↓gd_of o1, ↓bd_of e1, ↓bd_of e2, ↓bb_e, ↓reduceIte, i0eq, lgs]
    exact next u2 hI2
  refine (if_neg c14).trans ?_
  by_cases c15 : v = 15
  · refine (if_pos c15).trans ?_
    obtain ⟨r, u1, u2, e1, e2, hI2⟩ := P_close hI (xs (Int32.toNatClampNeg (nI (6 * k) + (1 : Int32)))) (xs (Int32.toNatClampNeg (nI (6 * k) + (2 : Int32)))) (xs (Int32.toNatClampNeg (nI (6 * k) + (3 : Int32))))
    have o1 : okO u1 33 8 = true := gd_inv (by rw [f_X8_close] at e2; exact e2)
    simp only [↓gd_of g1, ↓gd_of g2, ↓gd_of g3, ↓gd_of g4, ↓gd_of g5, ↓gd_of o7, ↓gd_of o1, ↓bd_of e1, ↓bd_of e2, ↓bb_e, ↓reduceIte, i0eq, lgs]
    exact next u2 hI2
  refine (if_neg c15).trans ?_
  by_cases c16 : v = 16
  · refine (if_pos c16).trans ?_
    obtain ⟨r, u1, u2, e1, e2, hI2⟩ := P_sees hI (xs (Int32.toNatClampNeg (nI (6 * k) + (1 : Int32)))) (xs (Int32.toNatClampNeg (nI (6 * k) + (2 : Int32)))) (xs (Int32.toNatClampNeg (nI (6 * k) + (3 : Int32))))
    have o1 : okO u1 33 8 = true := gd_inv (by rw [f_X8_sees] at e2; exact e2)
    simp only [↓gd_of g1, ↓gd_of g2, ↓gd_of g3, ↓gd_of g4, ↓gd_of g5, ↓gd_of o7, ↓gd_of o1, ↓bd_of e1, ↓bd_of e2, ↓bb_e, ↓reduceIte, i0eq, lgs]
    exact next u2 hI2
  refine (if_neg c16).trans ?_
  by_cases c17 : v = 17
  · refine (if_pos c17).trans ?_
    obtain ⟨r, u1, u2, e1, e2, hI2⟩ := P_number hI (xs (Int32.toNatClampNeg (nI (6 * k) + (1 : Int32)))) (xs (Int32.toNatClampNeg (nI (6 * k) + (2 : Int32)))) (xs (Int32.toNatClampNeg (nI (6 * k) + (3 : Int32)))) (xs (Int32.toNatClampNeg (nI (6 * k) + (4 : Int32))))
    have o1 : okO u1 33 8 = true := gd_inv (by rw [f_X8_number] at e2; exact e2)
    simp only [↓gd_of g1, ↓gd_of g2, ↓gd_of g3, ↓gd_of g4, ↓gd_of g5, ↓gd_of o7, ↓gd_of o1, ↓bd_of e1, ↓bd_of e2, ↓bb_e, ↓reduceIte, i0eq, lgs]
    exact next u2 hI2
  refine (if_neg c17).trans ?_
  by_cases c18 : v = 18
  · refine (if_pos c18).trans ?_
    obtain ⟨r, u1, u2, e1, e2, hI2⟩ := P_find hI (xs (Int32.toNatClampNeg (nI (6 * k) + (1 : Int32)))) (xs (Int32.toNatClampNeg (nI (6 * k) + (2 : Int32)))) (xs (Int32.toNatClampNeg (nI (6 * k) + (3 : Int32)))) (xs (Int32.toNatClampNeg (nI (6 * k) + (4 : Int32)))) (xs (Int32.toNatClampNeg (nI (6 * k) + (5 : Int32))))
    have o1 : okO u1 33 8 = true := gd_inv (by rw [f_X8_find] at e2; exact e2)
    simp only [↓gd_of g1, ↓gd_of g2, ↓gd_of g3, ↓gd_of g4, ↓gd_of g5, ↓gd_of o7, ↓gd_of o1, ↓bd_of e1, ↓bd_of e2, ↓bb_e, ↓reduceIte, i0eq, lgs]
    exact next u2 hI2
  refine (if_neg c18).trans ?_
  by_cases c19 : v = 19
  · refine (if_pos c19).trans ?_
    obtain ⟨r, u1, u2, e1, e2, hI2⟩ := P_mark hI (xs (Int32.toNatClampNeg (nI (6 * k) + (1 : Int32)))) (xs (Int32.toNatClampNeg (nI (6 * k) + (2 : Int32))))
    have o1 : okO u1 33 8 = true := gd_inv (by rw [f_X8_mark] at e2; exact e2)
    simp only [↓gd_of g1, ↓gd_of g2, ↓gd_of g3, ↓gd_of g4, ↓gd_of g5, ↓gd_of o7, ↓gd_of o1, ↓bd_of e1, ↓bd_of e2, ↓bb_e, ↓reduceIte, i0eq, lgs]
    exact next u2 hI2
  refine (if_neg c19).trans ?_
  by_cases c20 : v = 20
  · refine (if_pos c20).trans ?_
    obtain ⟨r, u1, u2, e1, e2, hI2⟩ := P_walk hI (xs (Int32.toNatClampNeg (nI (6 * k) + (1 : Int32)))) (xs (Int32.toNatClampNeg (nI (6 * k) + (2 : Int32)))) (xs (Int32.toNatClampNeg (nI (6 * k) + (3 : Int32))))
    have o1 : okO u1 33 8 = true := gd_inv (by rw [f_X8_walk] at e2; exact e2)
    simp only [↓gd_of g1, ↓gd_of g2, ↓gd_of g3, ↓gd_of g4, ↓gd_of g5, ↓gd_of o7, ↓gd_of o1, ↓bd_of e1, ↓bd_of e2, ↓bb_e, ↓reduceIte, i0eq, lgs]
    exact next u2 hI2
  refine (if_neg c20).trans ?_
  by_cases c21 : v = 21
  · refine (if_pos c21).trans ?_
    obtain ⟨r, u1, u2, e1, e2, hI2⟩ := P_fetch hI (xs (Int32.toNatClampNeg (nI (6 * k) + (1 : Int32)))) (xs (Int32.toNatClampNeg (nI (6 * k) + (2 : Int32)))) (xs (Int32.toNatClampNeg (nI (6 * k) + (3 : Int32))))
    have o1 : okO u1 33 8 = true := gd_inv (by rw [f_X8_fetch] at e2; exact e2)
    simp only [↓gd_of g1, ↓gd_of g2, ↓gd_of g3, ↓gd_of g4, ↓gd_of g5, ↓gd_of o7, ↓gd_of o1, ↓bd_of e1, ↓bd_of e2, ↓bb_e, ↓reduceIte, i0eq, lgs]
    exact next u2 hI2
  refine (if_neg c21).trans ?_
  by_cases c22 : v = 22
  · refine (if_pos c22).trans ?_
    obtain ⟨r, u1, u2, e1, e2, hI2⟩ := P_back hI (xs (Int32.toNatClampNeg (nI (6 * k) + (1 : Int32)))) (xs (Int32.toNatClampNeg (nI (6 * k) + (2 : Int32))))
    have o1 : okO u1 33 8 = true := gd_inv (by rw [f_X8_back] at e2; exact e2)
    simp only [↓gd_of g1, ↓gd_of g2, ↓gd_of g3, ↓gd_of g4, ↓gd_of g5, ↓gd_of o7, ↓gd_of o1, ↓bd_of e1, ↓bd_of e2, ↓bb_e, ↓reduceIte, i0eq, lgs]
    exact next u2 hI2
  refine (if_neg c22).trans ?_
  by_cases c23 : v = 23
  · refine (if_pos c23).trans ?_
    obtain ⟨r, u1, u2, e1, e2, hI2⟩ := P_where hI (xs (Int32.toNatClampNeg (nI (6 * k) + (1 : Int32)))) (xs (Int32.toNatClampNeg (nI (6 * k) + (2 : Int32))))
    have o1 : okO u1 33 8 = true := gd_inv (by rw [f_X8_where] at e2; exact e2)
    simp only [↓gd_of g1, ↓gd_of g2, ↓gd_of g3, ↓gd_of g4, ↓gd_of g5, ↓gd_of o7, ↓gd_of o1, ↓bd_of e1, ↓bd_of e2, ↓bb_e, ↓reduceIte, i0eq, lgs]
    exact next u2 hI2
  refine (if_neg c23).trans ?_
  by_cases c24 : v = 24
  · refine (if_pos c24).trans ?_
    obtain ⟨r, u1, u2, e1, e2, hI2⟩ := P_stand hI (xs (Int32.toNatClampNeg (nI (6 * k) + (1 : Int32)))) (xs (Int32.toNatClampNeg (nI (6 * k) + (2 : Int32))))
    have o1 : okO u1 33 8 = true := gd_inv (by rw [f_X8_stand] at e2; exact e2)
    simp only [↓gd_of g1, ↓gd_of g2, ↓gd_of g3, ↓gd_of g4, ↓gd_of g5, ↓gd_of o7, ↓gd_of o1, ↓bd_of e1, ↓bd_of e2, ↓bb_e, ↓reduceIte, i0eq, lgs]
    exact next u2 hI2
  refine (if_neg c24).trans ?_
  by_cases c25 : v = 25
  · refine (if_pos c25).trans ?_
    obtain ⟨r, u1, u2, e1, e2, hI2⟩ := P_goal hI (xs (Int32.toNatClampNeg (nI (6 * k) + (1 : Int32)))) (xs (Int32.toNatClampNeg (nI (6 * k) + (2 : Int32))))
    have o1 : okO u1 33 8 = true := gd_inv (by rw [f_X8_goal] at e2; exact e2)
    simp only [↓gd_of g1, ↓gd_of g2, ↓gd_of g3, ↓gd_of g4, ↓gd_of g5, ↓gd_of o7, ↓gd_of o1, ↓bd_of e1, ↓bd_of e2, ↓bb_e, ↓reduceIte, i0eq, lgs]
    exact next u2 hI2
  refine (if_neg c25).trans ?_
  by_cases c26 : v = 26
  · refine (if_pos c26).trans ?_
    obtain ⟨r, u1, u2, e1, e2, hI2⟩ := P_plan hI 
    have o1 : okO u1 33 8 = true := gd_inv (by rw [f_X8_plan] at e2; exact e2)
    simp only [↓gd_of g1, ↓gd_of g2, ↓gd_of g3, ↓gd_of g4, ↓gd_of g5, ↓gd_of o7, ↓gd_of o1, ↓bd_of e1, ↓bd_of e2, ↓bb_e, ↓reduceIte, i0eq, lgs]
    exact next u2 hI2
  refine (if_neg c26).trans ?_
  by_cases c27 : v = 27
  · refine (if_pos c27).trans ?_
    obtain ⟨r, u1, u2, e1, e2, hI2⟩ := P_carry hI (xs (Int32.toNatClampNeg (nI (6 * k) + (1 : Int32)))) (xs (Int32.toNatClampNeg (nI (6 * k) + (2 : Int32))))
    have o1 : okO u1 33 8 = true := gd_inv (by rw [f_X8_carry] at e2; exact e2)
    simp only [↓gd_of g1, ↓gd_of g2, ↓gd_of g3, ↓gd_of g4, ↓gd_of g5, ↓gd_of o7, ↓gd_of o1, ↓bd_of e1, ↓bd_of e2, ↓bb_e, ↓reduceIte, i0eq, lgs]
    exact next u2 hI2
  refine (if_neg c27).trans ?_
  by_cases c28 : v = 28
  · refine (if_pos c28).trans ?_
    obtain ⟨r, u1, u2, e1, e2, hI2⟩ := P_carried hI 
    have o1 : okO u1 33 8 = true := gd_inv (by rw [f_X8_carried] at e2; exact e2)
    simp only [↓gd_of g1, ↓gd_of g2, ↓gd_of g3, ↓gd_of g4, ↓gd_of g5, ↓gd_of o7, ↓gd_of o1, ↓bd_of e1, ↓bd_of e2, ↓bb_e, ↓reduceIte, i0eq, lgs]
    exact next u2 hI2
  refine (if_neg c28).trans ?_
  by_cases c29 : v = 29
  · refine (if_pos c29).trans ?_
    obtain ⟨r, u1, u2, e1, e2, hI2⟩ := P_search hI (xs (Int32.toNatClampNeg (nI (6 * k) + (1 : Int32)))) (xs (Int32.toNatClampNeg (nI (6 * k) + (2 : Int32)))) (xs (Int32.toNatClampNeg (nI (6 * k) + (3 : Int32))))
    have o1 : okO u1 33 8 = true := gd_inv (by rw [f_X8_search] at e2; exact e2)
    simp only [↓gd_of g1, ↓gd_of g2, ↓gd_of g3, ↓gd_of g4, ↓gd_of g5, ↓gd_of o7, ↓gd_of o1, ↓bd_of e1, ↓bd_of e2, ↓bb_e, ↓reduceIte, i0eq, lgs]
    exact next u2 hI2
  refine (if_neg c29).trans ?_
  by_cases c30 : v = 30
  · refine (if_pos c30).trans ?_
    obtain ⟨r, u2, e1, e2, hI2⟩ := P_upper hI
    simp only [↓gd_of o7, ↓gd_of o8, ↓bd_of e1, ↓bd_of e2, ↓bb_e, ↓reduceIte, i0eq, lgs]
    exact next u2 hI2
  refine (if_neg c30).trans ?_
  by_cases c31 : v = 31
  · refine (if_pos c31).trans ?_
    obtain ⟨r, u2, e1, e2, hI2⟩ := P_lower hI
    simp only [↓gd_of o7, ↓gd_of o8, ↓bd_of e1, ↓bd_of e2, ↓bb_e, ↓reduceIte, i0eq, lgs]
    exact next u2 hI2
  refine (if_neg c31).trans ?_
  refine (bb_e _ _).trans ?_
  exact next u hI
theorem law_l {xs : Nat → Int32} {L : Nat} (hL : L ≤ 3072) : ∀ (n k : Nat) (u : Mm), 1 ≤ n → L < 6 * k + 6 * n → 6 * k ≤ 4000 → Inv u → L_law xs L 0 33 n (nI (6 * k)) u = some 1 := by
  intro n
  induction n with
  | zero => intro k u h; omega
  | succ n ih =>
    intro k u h1 h2 h3 hI
    by_cases c : 6 * k + 6 ≤ L
    · refine law_s hL c hI (fun u2 hI2 => ?_)
      rw [show (6 : Int32) = nI 6 from rfl, nI_add]
      exact ih (k + 1) u2 (by omega) (by omega) (by omega) hI2
    · have e : (nI L - 6).toInt = (L : Int) - 6 := by rw [i_sub (by rw [nI_toInt (by omega), li_6]; omega), nI_toInt (by omega), li_6]
      have hp : Int32.ofNat L - (6 : Int32) < nI (6 * k) := by
        show nI L - 6 < nI (6 * k)
        rw [i_lt, e, nI_toInt (by omega)]
        omega
      rw [L_law]
      exact if_pos hp
theorem law_ok (xs : Nat → Int32) (L : Nat) (hL : L ≤ 3072) : f_law xs L u_0 = some 1 := by
  rw [law_0]
  exact law_l hL 1000 0 w6 (by omega) (by omega) (by omega) Inv_0
