/-! PLAN, CARRY, CARRIED -/
theorem cf_cut {P : Nat → Bool} {n : Nat} (h : ∀ i, n ≤ i → P i = false) : ∀ m, cf P 0 (n + m) = cf P 0 n
  | 0 => rfl
  | m + 1 => by
    rw [← Nat.add_assoc, cf_snoc, Nat.zero_add, h (n + m) (by omega), if_neg (by decide), Nat.add_zero]
    exact cf_cut h m
theorem ex_cut {P : Nat → Bool} {n : Nat} (h : ∀ i, n ≤ i → P i = false) : ∀ m, ex P 0 (n + m) = ex P 0 n
  | 0 => rfl
  | m + 1 => by
    rw [← Nat.add_assoc, ex_snoc, Nat.zero_add, h (n + m) (by omega), Bool.or_false]
    exact ex_cut h m
theorem plan_st (A : Ab) (c : Int32) : plan (st A c) = plan A := by
  have e1 : gol (st A c) = gol A := by funext i; unfold gol; rw [aI_st (by omega)]; rfl
  have e2 : plc (st A c) = plc A := by funext i; unfold plc; rw [aI_st (by omega)]; rfl
  unfold plan s0
  rw [e1, e2]
theorem gol_st (A : Ab) (c : Int32) : gol (st A c) = gol A := by funext i; unfold gol; rw [aI_st (by omega)]; rfl
theorem plans_t {w : Mm} {A : Ab} (hW : Wf A) (hM : MR w A) : (∃ v s, plan A = some s ∧ PM w v A s ∧ okF (gol A) s.1 (an A) ∧ f_X8_plans 33 w = some (1, v)) ∨ (∃ v, plan A = none ∧ scrM w v ∧ f_X8_plans 33 w = some (0, v)) := by
  have h80 := hW.1.1
  have h60 := hM.2.1
  obtain ⟨v1, a1, a2, a3, a4⟩ := pq1_l hW hM (k := fun a8 u9 => L_X8_plans_28 33 (fun a30 u31 => L_X8_plans_79 33 u31 (fun a68 a69 => L_X8_plans_157 33 (fun a106 a107 u108 => some (1, u108)) 1000 a68 a69 u31) 1000 0 0) 1000 0 u9) (x := 0) 40 1000 0 (sI w 33 31 0) (by omega) (by omega) (scrM.rf.sI (by omega)) gI_e (fun p hp => by omega)
  obtain ⟨v2, b1, b2, b3⟩ := pq2_l hW hM (k := fun a30 u31 => L_X8_plans_79 33 u31 (fun a68 a69 => L_X8_plans_157 33 (fun a106 a107 u108 => some (1, u108)) 1000 a68 a69 u31) 1000 0 0) (x := 0) (an A) 1000 0 v1 (by omega) (by omega) a1 a2 (fun i hi => by omega) (fun p hp => Or.inl ⟨a3 p hp, fun i hi => by omega⟩)
  have c1 := pq3_l hW hM b1 (fun a _ => plc_range hW a) (fun a b _ _ h e => plc_dist hW a b h e) (fun a h => if_neg (by omega)) (k := fun a68 a69 => L_X8_plans_157 33 (fun a106 a107 u108 => some (1, u108)) 1000 a68 a69 v2) (an A) 1000 0 0 (by omega) (by omega)
  have an0 : ∀ i, an A ≤ i → ast (gol A) (plc A) i = false := fun i hi => by
    have : plc A i = -1 := if_neg (by omega)
    simp [ast, this]
  have e1 := cf_cut an0 (80 - an A)
  have e2 := ex_cut (P := blk (gol A) (plc A)) (n := an A) (fun i hi => by simp [blk, an0 i hi]) (80 - an A)
  rw [Nat.add_sub_cancel' h80] at e1 e2
  rw [← e1, ← e2, Nat.zero_add, nI_0] at c1
  rw [nI_0] at a4 b3
  have key : f_X8_plans 33 w = if ex (blk (gol A) (plc A)) 0 80 = true then some (0, v2) else L_X8_plans_157 33 (fun a106 a107 u108 => some (1, u108)) 1000 (nI (cf (ast (gol A) (plc A)) 0 80)) (nI (an A)) v2 := by
    rw [f_X8_plans, oO33 h60, gd_t, a4, b3, c1]
  rw [key]
  unfold plan
  cases cb : ex (blk (gol A) (plc A)) 0 80 with
  | true => exact Or.inr ⟨v2, rfl, b1.1, rfl⟩
  | false =>
    rw [if_neg (by decide), if_neg (by decide)]
    have hF := okF_0 hW cb
    exact pm_l hW hM 80 1000 v2 (s0 A) (nI (an A)) (by omega) (by show 0 + 80 ≤ 80; omega) ⟨b1, b2, fun k hk => by have : k < 0 := hk; omega⟩ hF (phi_80 hF)
/-- both sides' plans, the class's first -/
theorem plan2 {u : Mm} {A : Ab} (hW : Wf A) (hC : CR u A) (hM : MR u A) : (∃ v s, PC u v s ∧ okF (gol A) s.1 (an A) ∧ s.2.1 ≤ 80 ∧ f_X4_makePlan 10 u = some (1, v) ∧ ∀ v' (c : Int32), keepM u v' → ∃ x, PM (m0 (sI v' 0 5 c)) x (st A 0) s ∧ f_X8_plans 33 (m0 (sI v' 0 5 c)) = some (1, x)) ∨ (∃ v, scr u v ∧ f_X4_makePlan 10 u = some (0, v) ∧ ∀ v' (c : Int32), keepM u v' → ∃ x, scrM (m0 (sI v' 0 5 c)) x ∧ f_X8_plans 33 (m0 (sI v' 0 5 c)) = some (0, x)) := by
  have hm : ∀ v' (c : Int32), keepM u v' → MR (m0 (sI v' 0 5 c)) (st A 0) := fun v' c h => MR_m0 (hM.keep (h.sI (by omega)))
  rcases mp_t hW hC with ⟨v, s, h1, h2, h3, h4, h5⟩ | ⟨v, h1, h2, h3⟩
  · refine Or.inl ⟨v, s, h2, h3, h4, h5, fun v' c h => ?_⟩
    rcases plans_t (Wf_st 0 hW) (hm v' c h) with ⟨x, s', g1, g2, g3, g4⟩ | ⟨x, g1, g2, g3⟩
    · rw [plan_st, h1] at g1
      cases g1
      exact ⟨x, g2, g4⟩
    · rw [plan_st, h1] at g1
      cases g1
  · refine Or.inr ⟨v, h2, h3, fun v' c h => ?_⟩
    rcases plans_t (Wf_st 0 hW) (hm v' c h) with ⟨x, s', g1, g2, g3, g4⟩ | ⟨x, g1, g2, g3⟩
    · rw [plan_st, h1] at g1
      cases g1
    · exact ⟨x, g2, g3⟩
/-- a refusal after scratch work on both sides -/
theorem leaf_sc {α : Type} {F7 F8 : Mm → Option (α × Mm)} {u v x : Mm} {A : Ab} (r : α) (c : Int32) (hW : Wf A) (hC : CR u A) (hM : MR u A) (hs : scr u v) (hx : scrM (m0 (sI v 0 5 c)) x) (h7 : F7 u = some (r, sI v 0 5 c)) (h8 : F8 (sI v 0 5 c) = some (r, sI x 33 0 c)) : Pq F7 F8 u := by
  refine leaf r _ _ (st A c) h7 h8 (Wf_st c hW) (CR_st c (hC.scr hs)) ?_ ((((keepC.rf.sI (by omega)).sI (by omega)).trans hx.keepC).sI (by omega))
  have := MR_st c ((MR_m0 (hM.keep (hs.keepM.sI (by omega)))).scrM hx)
  rw [st_st] at this
  exact this
/-- an answer after scratch work on both sides -/
theorem leaf_sa {α : Type} {F7 F8 : Mm → Option (α × Mm)} {u v x : Mm} {A : Ab} (r : α) (hW : Wf A) (hC : CR u A) (hM : MR u A) (hs : scr u v) (hx : scrM (m0 (sI v 0 5 0)) x) (h7 : F7 u = some (r, sI v 0 5 0)) (h8 : F8 (sI v 0 5 0) = some (r, x)) : Pq F7 F8 u :=
  leaf_ok (A' := A) r h7 h8 hW (hC.scr hs) ((MR_m0 (hM.keep (hs.keepM.sI (by omega)))).scrM hx) (((keepC.rf.sI (by omega)).sI (by omega)).trans hx.keepC)
theorem P_plan {u : Mm} (hI : Inv u) : Pq (f_X7_plan 0) (f_X8_plan 33) u := by
  obtain ⟨A, hW, hC, hM⟩ := hI
  obtain ⟨hRC, hN, hS, hF, hT, hPc, hY, hLg, hSh⟩ := id hC
  obtain ⟨hRM, h60, h7, hMs, hMf, hMt, hMy, hMl⟩ := id hM
  have h80 : an A ≤ 80 := hW.1.1
  have hn := hN.1
  rcases plan2 hW hC hM with ⟨v, s, h1, h2, h3, h4, h5⟩ | ⟨v, h1, h2, h3⟩
  · obtain ⟨x, g1, g2⟩ := h5 v 0 h1.1.keepM
    have g60 : 60 ≤ v.1 := by rw [h1.1.1]; exact h60
    have gRC := (hC.scr h1.1).1
    have e6 := h1.2.2.1
    have hMx := (MR_m0 (hM.keep (h1.1.keepM.sI (r := 0) (k := 5) (x := 0) (by omega)))).scrM g1.1.1
    have x60 := hMx.2.1
    have e31 := g1.2.1
    refine leaf_sa (nI s.2.1) hW hC hM h1.1 g1.1.1 ?_ ?_
    · simp (disch := first | exact h60 | omega | with_unfolding_all exact h60) only [f_X7_plan, ↓bd_of h4, ↓gO0 g60, ↓cC_0_3 gRC, ↓gO10 g60, e6, ↓ban7 g60, ↓bb_e, ↓c_sI, ↓o_sI, ↓a_sI, ↓c_sL, ↓o_sL, ↓a_sL, ↓c_rI, ↓o_rI, ↓a_rI, ↓c_rL, ↓o_rL, ↓a_rL, ↓c_rngI, ↓o_rngI, ↓a_rngI, ↓c_rngL, ↓o_rngL, ↓a_rngL, ↓bd_s, ↓cs_s, ↓cs_n, ↓gd_t, ↓gB0, ↓gB1, ↓gOT, ↓gAS, ↓gOY, ↓gAY, ↓reduceIte, d10, nI_clamp, nI_1', i0eq, ↓gO0 h60, ↓gO2 h60, ↓gO6 h60, ↓gO10 h60, ↓gO11 h60, ↓gO14 h60, ↓gO21 h60, ↓gA1 h60, ↓gA3 h60, ↓gA4 h60, ↓gA5 h60, ↓gA7 h60, ↓gA8 h60, ↓gA9 h60, ↓gA12 h60, ↓gA13 h60, ↓gA15 h60, ↓gA16 h60, ↓gA17 h60, ↓gA18 h60, ↓gA19 h60, ↓gA20 h60, ↓gA22 h60, ↓gA23 h60, ↓gA24 h60, ↓cC_0_0 hRC, ↓cC_0_1 hRC, ↓cC_0_2 hRC, ↓cC_0_3 hRC, ↓cC_0_4 hRC, ↓cC_2_0 hRC, ↓cC_2_2 hRC, ↓cC_2_3 hRC, ↓cC_6_0 hRC, ↓cC_6_1 hRC, ↓cC_6_2 hRC, ↓cC_10_0 hRC, ↓cC_10_1 hRC, ↓cC_10_2 hRC, ↓cC_10_3 hRC, ↓cC_10_4 hRC, ↓cC_10_5 hRC, ↓cC_11_0 hRC, ↓cC_11_1 hRC, ↓cC_14_0 hRC, ↓cC_14_1 hRC, ↓cC_21_0 hRC, ↓cC_21_1 hRC, ↓cC_21_2 hRC, ↓bdn7, ↓brf7, ↓bgr7, ↓ban7]
    · rw [f_X8_plan, oO33 (u := sI v 0 5 0) g60, gd_t]
      unfold m0 at g2
      simp (disch := first | exact h60 | omega | with_unfolding_all exact h60) only [↓bd_of g2, ↓gO33 x60, e31, ↓bb_e, ↓c_sI, ↓o_sI, ↓a_sI, ↓c_sL, ↓o_sL, ↓a_sL, ↓c_rI, ↓o_rI, ↓a_rI, ↓c_rL, ↓o_rL, ↓a_rL, ↓c_rngI, ↓o_rngI, ↓a_rngI, ↓c_rngL, ↓o_rngL, ↓a_rngL, ↓bd_s, ↓cs_s, ↓cs_n, ↓gd_t, ↓gB0, ↓gB1, ↓gOT, ↓gAS, ↓gOY, ↓gAY, ↓reduceIte, d10, nI_clamp, nI_1', i0eq, ↓gO33 h60, ↓gA34 h60, ↓gA35 h60, ↓gA36 h60, ↓gA37 h60, ↓gA38 h60, ↓gA39 h60, ↓gA40 h60, ↓gA41 h60, ↓gA42 h60, ↓gA43 h60, ↓gA44 h60, ↓gA45 h60, ↓gA46 h60, ↓gA47 h60, ↓gA48 h60, ↓gA49 h60, ↓gA50 h60, ↓gA51 h60, ↓gA52 h60, ↓gA53 h60, ↓gA54 h60, ↓gA55 h60, ↓gA56 h60, ↓gA57 h60, ↓gA58 h60, ↓gA59 h60, ↓cM_4 hRM, ↓cM_5 hRM, ↓cM_6 hRM, ↓cM_8 hRM, ↓cM_9 hRM, ↓cM_10 hRM, ↓cM_11 hRM, ↓cM_12 hRM, ↓cM_13 hRM, ↓cM_14 hRM, ↓cM_15 hRM, ↓cM_16 hRM, ↓cM_17 hRM, ↓cM_18 hRM, ↓cM_19 hRM, ↓cM_20 hRM, ↓cM_21 hRM, ↓cM_23 hRM, ↓cM_24 hRM, ↓cM_25 hRM, ↓cM_26 hRM, ↓cM_27 hRM, ↓cM_28 hRM, ↓cM_29 hRM, ↓cM_30 hRM, ↓cM_32 hRM, ↓bno8, ↓brf8]
  · obtain ⟨x, g1, g2⟩ := h3 v 12 h1.keepM
    have g60 : 60 ≤ v.1 := by rw [h1.1]; exact h60
    have gRC := (hC.scr h1).1
    have hMx := (MR_m0 (hM.keep (h1.keepM.sI (r := 0) (k := 5) (x := 12) (by omega)))).scrM g1
    have x60 := hMx.2.1
    refine leaf_sc (-1) 12 hW hC hM h1 g1 ?_ ?_
    · simp (disch := first | exact h60 | omega | with_unfolding_all exact h60) only [f_X7_plan, ↓bd_of h2, ↓gO0 g60, ↓brf7 g60, ↓bb_e, ↓c_sI, ↓o_sI, ↓a_sI, ↓c_sL, ↓o_sL, ↓a_sL, ↓c_rI, ↓o_rI, ↓a_rI, ↓c_rL, ↓o_rL, ↓a_rL, ↓c_rngI, ↓o_rngI, ↓a_rngI, ↓c_rngL, ↓o_rngL, ↓a_rngL, ↓bd_s, ↓cs_s, ↓cs_n, ↓gd_t, ↓gB0, ↓gB1, ↓gOT, ↓gAS, ↓gOY, ↓gAY, ↓reduceIte, d10, nI_clamp, nI_1', i0eq, ↓gO0 h60, ↓gO2 h60, ↓gO6 h60, ↓gO10 h60, ↓gO11 h60, ↓gO14 h60, ↓gO21 h60, ↓gA1 h60, ↓gA3 h60, ↓gA4 h60, ↓gA5 h60, ↓gA7 h60, ↓gA8 h60, ↓gA9 h60, ↓gA12 h60, ↓gA13 h60, ↓gA15 h60, ↓gA16 h60, ↓gA17 h60, ↓gA18 h60, ↓gA19 h60, ↓gA20 h60, ↓gA22 h60, ↓gA23 h60, ↓gA24 h60, ↓cC_0_0 hRC, ↓cC_0_1 hRC, ↓cC_0_2 hRC, ↓cC_0_3 hRC, ↓cC_0_4 hRC, ↓cC_2_0 hRC, ↓cC_2_2 hRC, ↓cC_2_3 hRC, ↓cC_6_0 hRC, ↓cC_6_1 hRC, ↓cC_6_2 hRC, ↓cC_10_0 hRC, ↓cC_10_1 hRC, ↓cC_10_2 hRC, ↓cC_10_3 hRC, ↓cC_10_4 hRC, ↓cC_10_5 hRC, ↓cC_11_0 hRC, ↓cC_11_1 hRC, ↓cC_14_0 hRC, ↓cC_14_1 hRC, ↓cC_21_0 hRC, ↓cC_21_1 hRC, ↓cC_21_2 hRC, ↓bdn7, ↓brf7, ↓bgr7, ↓ban7]
    · rw [f_X8_plan, oO33 (u := sI v 0 5 12) g60, gd_t]
      unfold m0 at g2
      simp (disch := first | exact h60 | omega | with_unfolding_all exact h60) only [↓bd_of g2, ↓gO33 x60, ↓brf8 x60, ↓bb_e, ↓c_sI, ↓o_sI, ↓a_sI, ↓c_sL, ↓o_sL, ↓a_sL, ↓c_rI, ↓o_rI, ↓a_rI, ↓c_rL, ↓o_rL, ↓a_rL, ↓c_rngI, ↓o_rngI, ↓a_rngI, ↓c_rngL, ↓o_rngL, ↓a_rngL, ↓bd_s, ↓cs_s, ↓cs_n, ↓gd_t, ↓gB0, ↓gB1, ↓gOT, ↓gAS, ↓gOY, ↓gAY, ↓reduceIte, d10, nI_clamp, nI_1', i0eq, ↓gO33 h60, ↓gA34 h60, ↓gA35 h60, ↓gA36 h60, ↓gA37 h60, ↓gA38 h60, ↓gA39 h60, ↓gA40 h60, ↓gA41 h60, ↓gA42 h60, ↓gA43 h60, ↓gA44 h60, ↓gA45 h60, ↓gA46 h60, ↓gA47 h60, ↓gA48 h60, ↓gA49 h60, ↓gA50 h60, ↓gA51 h60, ↓gA52 h60, ↓gA53 h60, ↓gA54 h60, ↓gA55 h60, ↓gA56 h60, ↓gA57 h60, ↓gA58 h60, ↓gA59 h60, ↓cM_4 hRM, ↓cM_5 hRM, ↓cM_6 hRM, ↓cM_8 hRM, ↓cM_9 hRM, ↓cM_10 hRM, ↓cM_11 hRM, ↓cM_12 hRM, ↓cM_13 hRM, ↓cM_14 hRM, ↓cM_15 hRM, ↓cM_16 hRM, ↓cM_17 hRM, ↓cM_18 hRM, ↓cM_19 hRM, ↓cM_20 hRM, ↓cM_21 hRM, ↓cM_23 hRM, ↓cM_24 hRM, ↓cM_25 hRM, ↓cM_26 hRM, ↓cM_27 hRM, ↓cM_28 hRM, ↓cM_29 hRM, ↓cM_30 hRM, ↓cM_32 hRM, ↓bno8, ↓brf8]
theorem pred_i {c : Nat} (h : c ≤ 80) : (nI c - 1).toInt = (c : Int) - 1 := by
  rw [i_sub (by rw [nI_toInt (by omega), li_1]; omega), nI_toInt (by omega), li_1]
theorem P_carry {u : Mm} (hI : Inv u) (p1 p2 : Int32) : Pq (f_X7_carry 0 p1 p2) (f_X8_carry 33 p1 p2) u := by
  obtain ⟨A, hW, hC, hM⟩ := hI
  obtain ⟨hRC, hN, hS, hF, hT, hPc, hY, hLg, hSh⟩ := id hC
  obtain ⟨hRM, h60, h7, hMs, hMf, hMt, hMy, hMl⟩ := id hM
  have h80 : an A ≤ 80 := hW.1.1
  have hn := hN.1
  rcases plan2 hW hC hM with ⟨v, s, h1, h2, h3, h4, h5⟩ | ⟨v, h1, h2, h3⟩
  · have g60 : 60 ≤ v.1 := by rw [h1.1.1]; exact h60
    have gRC := (hC.scr h1.1).1
    have e6 := h1.2.2.1
    by_cases a1 : 0 ≤ p1.toInt ∧ p1.toInt < (s.2.1 : Int)
    · obtain ⟨k, hk, rfl⟩ := i_ex2 a1
      have hw := wi_t (p := nI k) (a := 0) (b := nI s.2.1 - 1) v (by rw [pred_i h3, li_0]; omega)
      have hn0 : ¬ nI k < 0 := nI_pos (by omega)
      have hlt : nI k < nI s.2.1 := nI_lt hk (by omega)
      obtain ⟨r1, r2, r3⟩ := h1.2.2.2 k hk
      have ans : ∀ c : Int32, ∃ x, PM (m0 (sI v 0 5 c)) x (st A 0) s ∧ f_X8_plans 33 (m0 (sI v 0 5 c)) = some (1, x) ∧ RM x ∧ 60 ≤ x.1 := fun c => by
        obtain ⟨x, g1, g2⟩ := h5 v c h1.1.keepM
        have hMx := (MR_m0 (hM.keep (h1.1.keepM.sI (r := 0) (k := 5) (x := c) (by omega)))).scrM g1.1.1
        exact ⟨x, g1, g2, hMx.1, hMx.2.1⟩
      by_cases b0 : p2 = 0
      · obtain ⟨x, g1, g2, xRM, x60⟩ := ans 0
        obtain ⟨m1, m2, m3⟩ := g1.2.2 k hk
        have e31 := g1.2.1
        refine leaf_sa (s.2.2.1 k) hW hC hM h1.1 g1.1.1 ?_ ?_
        · simp (disch := first | exact h60 | omega | with_unfolding_all exact h60) only [f_X7_carry, ↓bd_of h4, ↓gO0 g60, ↓cC_0_3 gRC, ↓gO10 g60, e6, ↓bd_of hw, eq_true b0, ↓cC_10_3 gRC, ↓gA18 g60, r1, ↓ban7 g60, ↓bb_e, ↓c_sI, ↓o_sI, ↓a_sI, ↓c_sL, ↓o_sL, ↓a_sL, ↓c_rI, ↓o_rI, ↓a_rI, ↓c_rL, ↓o_rL, ↓a_rL, ↓c_rngI, ↓o_rngI, ↓a_rngI, ↓c_rngL, ↓o_rngL, ↓a_rngL, ↓bd_s, ↓cs_s, ↓cs_n, ↓gd_t, ↓gB0, ↓gB1, ↓gOT, ↓gAS, ↓gOY, ↓gAY, ↓reduceIte, d10, nI_clamp, nI_1', i0eq, ↓gO0 h60, ↓gO2 h60, ↓gO6 h60, ↓gO10 h60, ↓gO11 h60, ↓gO14 h60, ↓gO21 h60, ↓gA1 h60, ↓gA3 h60, ↓gA4 h60, ↓gA5 h60, ↓gA7 h60, ↓gA8 h60, ↓gA9 h60, ↓gA12 h60, ↓gA13 h60, ↓gA15 h60, ↓gA16 h60, ↓gA17 h60, ↓gA18 h60, ↓gA19 h60, ↓gA20 h60, ↓gA22 h60, ↓gA23 h60, ↓gA24 h60, ↓cC_0_0 hRC, ↓cC_0_1 hRC, ↓cC_0_2 hRC, ↓cC_0_3 hRC, ↓cC_0_4 hRC, ↓cC_2_0 hRC, ↓cC_2_2 hRC, ↓cC_2_3 hRC, ↓cC_6_0 hRC, ↓cC_6_1 hRC, ↓cC_6_2 hRC, ↓cC_10_0 hRC, ↓cC_10_1 hRC, ↓cC_10_2 hRC, ↓cC_10_3 hRC, ↓cC_10_4 hRC, ↓cC_10_5 hRC, ↓cC_11_0 hRC, ↓cC_11_1 hRC, ↓cC_14_0 hRC, ↓cC_14_1 hRC, ↓cC_21_0 hRC, ↓cC_21_1 hRC, ↓cC_21_2 hRC, ↓bdn7, ↓brf7, ↓bgr7, ↓ban7]
        · rw [f_X8_carry, oO33 (u := sI v 0 5 0) g60, gd_t]
          unfold m0 at g2
          simp (disch := first | exact h60 | omega | with_unfolding_all exact h60) only [↓bd_of g2, ↓gO33 x60, e31, eq_false hn0, eq_true hlt, eq_true b0, ↓cM_28 xRM, ↓gA56 x60, m1, ↓bb_e, ↓c_sI, ↓o_sI, ↓a_sI, ↓c_sL, ↓o_sL, ↓a_sL, ↓c_rI, ↓o_rI, ↓a_rI, ↓c_rL, ↓o_rL, ↓a_rL, ↓c_rngI, ↓o_rngI, ↓a_rngI, ↓c_rngL, ↓o_rngL, ↓a_rngL, ↓bd_s, ↓cs_s, ↓cs_n, ↓gd_t, ↓gB0, ↓gB1, ↓gOT, ↓gAS, ↓gOY, ↓gAY, ↓reduceIte, d10, nI_clamp, nI_1', i0eq, ↓gO33 h60, ↓gA34 h60, ↓gA35 h60, ↓gA36 h60, ↓gA37 h60, ↓gA38 h60, ↓gA39 h60, ↓gA40 h60, ↓gA41 h60, ↓gA42 h60, ↓gA43 h60, ↓gA44 h60, ↓gA45 h60, ↓gA46 h60, ↓gA47 h60, ↓gA48 h60, ↓gA49 h60, ↓gA50 h60, ↓gA51 h60, ↓gA52 h60, ↓gA53 h60, ↓gA54 h60, ↓gA55 h60, ↓gA56 h60, ↓gA57 h60, ↓gA58 h60, ↓gA59 h60, ↓cM_4 hRM, ↓cM_5 hRM, ↓cM_6 hRM, ↓cM_8 hRM, ↓cM_9 hRM, ↓cM_10 hRM, ↓cM_11 hRM, ↓cM_12 hRM, ↓cM_13 hRM, ↓cM_14 hRM, ↓cM_15 hRM, ↓cM_16 hRM, ↓cM_17 hRM, ↓cM_18 hRM, ↓cM_19 hRM, ↓cM_20 hRM, ↓cM_21 hRM, ↓cM_23 hRM, ↓cM_24 hRM, ↓cM_25 hRM, ↓cM_26 hRM, ↓cM_27 hRM, ↓cM_28 hRM, ↓cM_29 hRM, ↓cM_30 hRM, ↓cM_32 hRM, ↓bno8, ↓brf8]
      · by_cases b1 : p2 = 1
        · obtain ⟨x, g1, g2, xRM, x60⟩ := ans 0
          obtain ⟨m1, m2, m3⟩ := g1.2.2 k hk
          have e31 := g1.2.1
          refine leaf_sa (s.2.2.2.1 k) hW hC hM h1.1 g1.1.1 ?_ ?_
          · simp (disch := first | exact h60 | omega | with_unfolding_all exact h60) only [f_X7_carry, ↓bd_of h4, ↓gO0 g60, ↓cC_0_3 gRC, ↓gO10 g60, e6, ↓bd_of hw, eq_false b0, eq_true b1, ↓cC_10_4 gRC, ↓gA19 g60, r2, ↓ban7 g60, ↓bb_e, ↓c_sI, ↓o_sI, ↓a_sI, ↓c_sL, ↓o_sL, ↓a_sL, ↓c_rI, ↓o_rI, ↓a_rI, ↓c_rL, ↓o_rL, ↓a_rL, ↓c_rngI, ↓o_rngI, ↓a_rngI, ↓c_rngL, ↓o_rngL, ↓a_rngL, ↓bd_s, ↓cs_s, ↓cs_n, ↓gd_t, ↓gB0, ↓gB1, ↓gOT, ↓gAS, ↓gOY, ↓gAY, ↓reduceIte, d10, nI_clamp, nI_1', i0eq, ↓gO0 h60, ↓gO2 h60, ↓gO6 h60, ↓gO10 h60, ↓gO11 h60, ↓gO14 h60, ↓gO21 h60, ↓gA1 h60, ↓gA3 h60, ↓gA4 h60, ↓gA5 h60, ↓gA7 h60, ↓gA8 h60, ↓gA9 h60, ↓gA12 h60, ↓gA13 h60, ↓gA15 h60, ↓gA16 h60, ↓gA17 h60, ↓gA18 h60, ↓gA19 h60, ↓gA20 h60, ↓gA22 h60, ↓gA23 h60, ↓gA24 h60, ↓cC_0_0 hRC, ↓cC_0_1 hRC, ↓cC_0_2 hRC, ↓cC_0_3 hRC, ↓cC_0_4 hRC, ↓cC_2_0 hRC, ↓cC_2_2 hRC, ↓cC_2_3 hRC, ↓cC_6_0 hRC, ↓cC_6_1 hRC, ↓cC_6_2 hRC, ↓cC_10_0 hRC, ↓cC_10_1 hRC, ↓cC_10_2 hRC, ↓cC_10_3 hRC, ↓cC_10_4 hRC, ↓cC_10_5 hRC, ↓cC_11_0 hRC, ↓cC_11_1 hRC, ↓cC_14_0 hRC, ↓cC_14_1 hRC, ↓cC_21_0 hRC, ↓cC_21_1 hRC, ↓cC_21_2 hRC, ↓bdn7, ↓brf7, ↓bgr7, ↓ban7]
          · rw [f_X8_carry, oO33 (u := sI v 0 5 0) g60, gd_t]
            unfold m0 at g2
            simp (disch := first | exact h60 | omega | with_unfolding_all exact h60) only [↓bd_of g2, ↓gO33 x60, e31, eq_false hn0, eq_true hlt, eq_false b0, eq_true b1, ↓cM_29 xRM, ↓gA57 x60, m2, ↓bb_e, ↓c_sI, ↓o_sI, ↓a_sI, ↓c_sL, ↓o_sL, ↓a_sL, ↓c_rI, ↓o_rI, ↓a_rI, ↓c_rL, ↓o_rL, ↓a_rL, ↓c_rngI, ↓o_rngI, ↓a_rngI, ↓c_rngL, ↓o_rngL, ↓a_rngL, ↓bd_s, ↓cs_s, ↓cs_n, ↓gd_t, ↓gB0, ↓gB1, ↓gOT, ↓gAS, ↓gOY, ↓gAY, ↓reduceIte, d10, nI_clamp, nI_1', i0eq, ↓gO33 h60, ↓gA34 h60, ↓gA35 h60, ↓gA36 h60, ↓gA37 h60, ↓gA38 h60, ↓gA39 h60, ↓gA40 h60, ↓gA41 h60, ↓gA42 h60, ↓gA43 h60, ↓gA44 h60, ↓gA45 h60, ↓gA46 h60, ↓gA47 h60, ↓gA48 h60, ↓gA49 h60, ↓gA50 h60, ↓gA51 h60, ↓gA52 h60, ↓gA53 h60, ↓gA54 h60, ↓gA55 h60, ↓gA56 h60, ↓gA57 h60, ↓gA58 h60, ↓gA59 h60, ↓cM_4 hRM, ↓cM_5 hRM, ↓cM_6 hRM, ↓cM_8 hRM, ↓cM_9 hRM, ↓cM_10 hRM, ↓cM_11 hRM, ↓cM_12 hRM, ↓cM_13 hRM, ↓cM_14 hRM, ↓cM_15 hRM, ↓cM_16 hRM, ↓cM_17 hRM, ↓cM_18 hRM, ↓cM_19 hRM, ↓cM_20 hRM, ↓cM_21 hRM, ↓cM_23 hRM, ↓cM_24 hRM, ↓cM_25 hRM, ↓cM_26 hRM, ↓cM_27 hRM, ↓cM_28 hRM, ↓cM_29 hRM, ↓cM_30 hRM, ↓cM_32 hRM, ↓bno8, ↓brf8]
        · by_cases b2 : p2 = 2
          · obtain ⟨x, g1, g2, xRM, x60⟩ := ans 0
            obtain ⟨m1, m2, m3⟩ := g1.2.2 k hk
            have e31 := g1.2.1
            refine leaf_sa (s.2.2.2.2 k) hW hC hM h1.1 g1.1.1 ?_ ?_
            · simp (disch := first | exact h60 | omega | with_unfolding_all exact h60) only [f_X7_carry, ↓bd_of h4, ↓gO0 g60, ↓cC_0_3 gRC, ↓gO10 g60, e6, ↓bd_of hw, eq_false b0, eq_false b1, eq_true b2, ↓cC_10_5 gRC, ↓gA20 g60, r3, ↓ban7 g60, ↓bb_e, ↓c_sI, ↓o_sI, ↓a_sI, ↓c_sL, ↓o_sL, ↓a_sL, ↓c_rI, ↓o_rI, ↓a_rI, ↓c_rL, ↓o_rL, ↓a_rL, ↓c_rngI, ↓o_rngI, ↓a_rngI, ↓c_rngL, ↓o_rngL, ↓a_rngL, ↓bd_s, ↓cs_s, ↓cs_n, ↓gd_t, ↓gB0, ↓gB1, ↓gOT, ↓gAS, ↓gOY, ↓gAY, ↓reduceIte, d10, nI_clamp, nI_1', i0eq, ↓gO0 h60, ↓gO2 h60, ↓gO6 h60, ↓gO10 h60, ↓gO11 h60, ↓gO14 h60, ↓gO21 h60, ↓gA1 h60, ↓gA3 h60, ↓gA4 h60, ↓gA5 h60, ↓gA7 h60, ↓gA8 h60, ↓gA9 h60, ↓gA12 h60, ↓gA13 h60, ↓gA15 h60, ↓gA16 h60, ↓gA17 h60, ↓gA18 h60, ↓gA19 h60, ↓gA20 h60, ↓gA22 h60, ↓gA23 h60, ↓gA24 h60, ↓cC_0_0 hRC, ↓cC_0_1 hRC, ↓cC_0_2 hRC, ↓cC_0_3 hRC, ↓cC_0_4 hRC, ↓cC_2_0 hRC, ↓cC_2_2 hRC, ↓cC_2_3 hRC, ↓cC_6_0 hRC, ↓cC_6_1 hRC, ↓cC_6_2 hRC, ↓cC_10_0 hRC, ↓cC_10_1 hRC, ↓cC_10_2 hRC, ↓cC_10_3 hRC, ↓cC_10_4 hRC, ↓cC_10_5 hRC, ↓cC_11_0 hRC, ↓cC_11_1 hRC, ↓cC_14_0 hRC, ↓cC_14_1 hRC, ↓cC_21_0 hRC, ↓cC_21_1 hRC, ↓cC_21_2 hRC, ↓bdn7, ↓brf7, ↓bgr7, ↓ban7]
            · rw [f_X8_carry, oO33 (u := sI v 0 5 0) g60, gd_t]
              unfold m0 at g2
              simp (disch := first | exact h60 | omega | with_unfolding_all exact h60) only [↓bd_of g2, ↓gO33 x60, e31, eq_false hn0, eq_true hlt, eq_false b0, eq_false b1, eq_true b2, ↓cM_30 xRM, ↓gA58 x60, m3, ↓bb_e, ↓c_sI, ↓o_sI, ↓a_sI, ↓c_sL, ↓o_sL, ↓a_sL, ↓c_rI, ↓o_rI, ↓a_rI, ↓c_rL, ↓o_rL, ↓a_rL, ↓c_rngI, ↓o_rngI, ↓a_rngI, ↓c_rngL, ↓o_rngL, ↓a_rngL, ↓bd_s, ↓cs_s, ↓cs_n, ↓gd_t, ↓gB0, ↓gB1, ↓gOT, ↓gAS, ↓gOY, ↓gAY, ↓reduceIte, d10, nI_clamp, nI_1', i0eq, ↓gO33 h60, ↓gA34 h60, ↓gA35 h60, ↓gA36 h60, ↓gA37 h60, ↓gA38 h60, ↓gA39 h60, ↓gA40 h60, ↓gA41 h60, ↓gA42 h60, ↓gA43 h60, ↓gA44 h60, ↓gA45 h60, ↓gA46 h60, ↓gA47 h60, ↓gA48 h60, ↓gA49 h60, ↓gA50 h60, ↓gA51 h60, ↓gA52 h60, ↓gA53 h60, ↓gA54 h60, ↓gA55 h60, ↓gA56 h60, ↓gA57 h60, ↓gA58 h60, ↓gA59 h60, ↓cM_4 hRM, ↓cM_5 hRM, ↓cM_6 hRM, ↓cM_8 hRM, ↓cM_9 hRM, ↓cM_10 hRM, ↓cM_11 hRM, ↓cM_12 hRM, ↓cM_13 hRM, ↓cM_14 hRM, ↓cM_15 hRM, ↓cM_16 hRM, ↓cM_17 hRM, ↓cM_18 hRM, ↓cM_19 hRM, ↓cM_20 hRM, ↓cM_21 hRM, ↓cM_23 hRM, ↓cM_24 hRM, ↓cM_25 hRM, ↓cM_26 hRM, ↓cM_27 hRM, ↓cM_28 hRM, ↓cM_29 hRM, ↓cM_30 hRM, ↓cM_32 hRM, ↓bno8, ↓brf8]
          · obtain ⟨x, g1, g2, xRM, x60⟩ := ans 5
            have e31 := g1.2.1
            refine leaf_sc (-1) 5 hW hC hM h1.1 g1.1.1 ?_ ?_
            · simp (disch := first | exact h60 | omega | with_unfolding_all exact h60) only [f_X7_carry, ↓bd_of h4, ↓gO0 g60, ↓cC_0_3 gRC, ↓gO10 g60, e6, ↓bd_of hw, eq_false b0, eq_false b1, eq_false b2, ↓brf7 g60, ↓bb_e, ↓c_sI, ↓o_sI, ↓a_sI, ↓c_sL, ↓o_sL, ↓a_sL, ↓c_rI, ↓o_rI, ↓a_rI, ↓c_rL, ↓o_rL, ↓a_rL, ↓c_rngI, ↓o_rngI, ↓a_rngI, ↓c_rngL, ↓o_rngL, ↓a_rngL, ↓bd_s, ↓cs_s, ↓cs_n, ↓gd_t, ↓gB0, ↓gB1, ↓gOT, ↓gAS, ↓gOY, ↓gAY, ↓reduceIte, d10, nI_clamp, nI_1', i0eq, ↓gO0 h60, ↓gO2 h60, ↓gO6 h60, ↓gO10 h60, ↓gO11 h60, ↓gO14 h60, ↓gO21 h60, ↓gA1 h60, ↓gA3 h60, ↓gA4 h60, ↓gA5 h60, ↓gA7 h60, ↓gA8 h60, ↓gA9 h60, ↓gA12 h60, ↓gA13 h60, ↓gA15 h60, ↓gA16 h60, ↓gA17 h60, ↓gA18 h60, ↓gA19 h60, ↓gA20 h60, ↓gA22 h60, ↓gA23 h60, ↓gA24 h60, ↓cC_0_0 hRC, ↓cC_0_1 hRC, ↓cC_0_2 hRC, ↓cC_0_3 hRC, ↓cC_0_4 hRC, ↓cC_2_0 hRC, ↓cC_2_2 hRC, ↓cC_2_3 hRC, ↓cC_6_0 hRC, ↓cC_6_1 hRC, ↓cC_6_2 hRC, ↓cC_10_0 hRC, ↓cC_10_1 hRC, ↓cC_10_2 hRC, ↓cC_10_3 hRC, ↓cC_10_4 hRC, ↓cC_10_5 hRC, ↓cC_11_0 hRC, ↓cC_11_1 hRC, ↓cC_14_0 hRC, ↓cC_14_1 hRC, ↓cC_21_0 hRC, ↓cC_21_1 hRC, ↓cC_21_2 hRC, ↓bdn7, ↓brf7, ↓bgr7, ↓ban7]
            · rw [f_X8_carry, oO33 (u := sI v 0 5 5) g60, gd_t]
              unfold m0 at g2
              simp (disch := first | exact h60 | omega | with_unfolding_all exact h60) only [↓bd_of g2, ↓gO33 x60, e31, eq_false hn0, eq_true hlt, eq_false b0, eq_false b1, eq_false b2, ↓brf8 x60, ↓bb_e, ↓c_sI, ↓o_sI, ↓a_sI, ↓c_sL, ↓o_sL, ↓a_sL, ↓c_rI, ↓o_rI, ↓a_rI, ↓c_rL, ↓o_rL, ↓a_rL, ↓c_rngI, ↓o_rngI, ↓a_rngI, ↓c_rngL, ↓o_rngL, ↓a_rngL, ↓bd_s, ↓cs_s, ↓cs_n, ↓gd_t, ↓gB0, ↓gB1, ↓gOT, ↓gAS, ↓gOY, ↓gAY, ↓reduceIte, d10, nI_clamp, nI_1', i0eq, ↓gO33 h60, ↓gA34 h60, ↓gA35 h60, ↓gA36 h60, ↓gA37 h60, ↓gA38 h60, ↓gA39 h60, ↓gA40 h60, ↓gA41 h60, ↓gA42 h60, ↓gA43 h60, ↓gA44 h60, ↓gA45 h60, ↓gA46 h60, ↓gA47 h60, ↓gA48 h60, ↓gA49 h60, ↓gA50 h60, ↓gA51 h60, ↓gA52 h60, ↓gA53 h60, ↓gA54 h60, ↓gA55 h60, ↓gA56 h60, ↓gA57 h60, ↓gA58 h60, ↓gA59 h60, ↓cM_4 hRM, ↓cM_5 hRM, ↓cM_6 hRM, ↓cM_8 hRM, ↓cM_9 hRM, ↓cM_10 hRM, ↓cM_11 hRM, ↓cM_12 hRM, ↓cM_13 hRM, ↓cM_14 hRM, ↓cM_15 hRM, ↓cM_16 hRM, ↓cM_17 hRM, ↓cM_18 hRM, ↓cM_19 hRM, ↓cM_20 hRM, ↓cM_21 hRM, ↓cM_23 hRM, ↓cM_24 hRM, ↓cM_25 hRM, ↓cM_26 hRM, ↓cM_27 hRM, ↓cM_28 hRM, ↓cM_29 hRM, ↓cM_30 hRM, ↓cM_32 hRM, ↓bno8, ↓brf8]
    · have hw := wi_f (p := p1) (a := 0) (b := nI s.2.1 - 1) v (by rw [pred_i h3, li_0]; omega)
      obtain ⟨x, g1, g2⟩ := h5 v 9 h1.1.keepM
      have hMx := (MR_m0 (hM.keep (h1.1.keepM.sI (r := 0) (k := 5) (x := 9) (by omega)))).scrM g1.1.1
      have x60 := hMx.2.1
      have e31 := g1.2.1
      refine leaf_sc (-1) 9 hW hC hM h1.1 g1.1.1 ?_ ?_
      · simp (disch := first | exact h60 | omega | with_unfolding_all exact h60) only [f_X7_carry, ↓bd_of h4, ↓gO0 g60, ↓cC_0_3 gRC, ↓gO10 g60, e6, ↓bd_of hw, ↓brf7 g60, ↓bb_e, ↓c_sI, ↓o_sI, ↓a_sI, ↓c_sL, ↓o_sL, ↓a_sL, ↓c_rI, ↓o_rI, ↓a_rI, ↓c_rL, ↓o_rL, ↓a_rL, ↓c_rngI, ↓o_rngI, ↓a_rngI, ↓c_rngL, ↓o_rngL, ↓a_rngL, ↓bd_s, ↓cs_s, ↓cs_n, ↓gd_t, ↓gB0, ↓gB1, ↓gOT, ↓gAS, ↓gOY, ↓gAY, ↓reduceIte, d10, nI_clamp, nI_1', i0eq, ↓gO0 h60, ↓gO2 h60, ↓gO6 h60, ↓gO10 h60, ↓gO11 h60, ↓gO14 h60, ↓gO21 h60, ↓gA1 h60, ↓gA3 h60, ↓gA4 h60, ↓gA5 h60, ↓gA7 h60, ↓gA8 h60, ↓gA9 h60, ↓gA12 h60, ↓gA13 h60, ↓gA15 h60, ↓gA16 h60, ↓gA17 h60, ↓gA18 h60, ↓gA19 h60, ↓gA20 h60, ↓gA22 h60, ↓gA23 h60, ↓gA24 h60, ↓cC_0_0 hRC, ↓cC_0_1 hRC, ↓cC_0_2 hRC, ↓cC_0_3 hRC, ↓cC_0_4 hRC, ↓cC_2_0 hRC, ↓cC_2_2 hRC, ↓cC_2_3 hRC, ↓cC_6_0 hRC, ↓cC_6_1 hRC, ↓cC_6_2 hRC, ↓cC_10_0 hRC, ↓cC_10_1 hRC, ↓cC_10_2 hRC, ↓cC_10_3 hRC, ↓cC_10_4 hRC, ↓cC_10_5 hRC, ↓cC_11_0 hRC, ↓cC_11_1 hRC, ↓cC_14_0 hRC, ↓cC_14_1 hRC, ↓cC_21_0 hRC, ↓cC_21_1 hRC, ↓cC_21_2 hRC, ↓bdn7, ↓brf7, ↓bgr7, ↓ban7]
      · rw [f_X8_carry, oO33 (u := sI v 0 5 9) g60, gd_t]
        unfold m0 at g2
        by_cases c : p1 < 0
        · simp (disch := first | exact h60 | omega | with_unfolding_all exact h60) only [↓bd_of g2, ↓gO33 x60, e31, eq_true c, ↓brf8 x60, ↓bb_e, ↓c_sI, ↓o_sI, ↓a_sI, ↓c_sL, ↓o_sL, ↓a_sL, ↓c_rI, ↓o_rI, ↓a_rI, ↓c_rL, ↓o_rL, ↓a_rL, ↓c_rngI, ↓o_rngI, ↓a_rngI, ↓c_rngL, ↓o_rngL, ↓a_rngL, ↓bd_s, ↓cs_s, ↓cs_n, ↓gd_t, ↓gB0, ↓gB1, ↓gOT, ↓gAS, ↓gOY, ↓gAY, ↓reduceIte, d10, nI_clamp, nI_1', i0eq, ↓gO33 h60, ↓gA34 h60, ↓gA35 h60, ↓gA36 h60, ↓gA37 h60, ↓gA38 h60, ↓gA39 h60, ↓gA40 h60, ↓gA41 h60, ↓gA42 h60, ↓gA43 h60, ↓gA44 h60, ↓gA45 h60, ↓gA46 h60, ↓gA47 h60, ↓gA48 h60, ↓gA49 h60, ↓gA50 h60, ↓gA51 h60, ↓gA52 h60, ↓gA53 h60, ↓gA54 h60, ↓gA55 h60, ↓gA56 h60, ↓gA57 h60, ↓gA58 h60, ↓gA59 h60, ↓cM_4 hRM, ↓cM_5 hRM, ↓cM_6 hRM, ↓cM_8 hRM, ↓cM_9 hRM, ↓cM_10 hRM, ↓cM_11 hRM, ↓cM_12 hRM, ↓cM_13 hRM, ↓cM_14 hRM, ↓cM_15 hRM, ↓cM_16 hRM, ↓cM_17 hRM, ↓cM_18 hRM, ↓cM_19 hRM, ↓cM_20 hRM, ↓cM_21 hRM, ↓cM_23 hRM, ↓cM_24 hRM, ↓cM_25 hRM, ↓cM_26 hRM, ↓cM_27 hRM, ↓cM_28 hRM, ↓cM_29 hRM, ↓cM_30 hRM, ↓cM_32 hRM, ↓bno8, ↓brf8]
        · have c2 : ¬ p1 < nI s.2.1 := by rw [i_lt, li_0] at c; rw [i_lt, nI_toInt (by omega)]; omega
          simp (disch := first | exact h60 | omega | with_unfolding_all exact h60) only [↓bd_of g2, ↓gO33 x60, e31, eq_false c, eq_false c2, ↓brf8 x60, ↓bb_e, ↓c_sI, ↓o_sI, ↓a_sI, ↓c_sL, ↓o_sL, ↓a_sL, ↓c_rI, ↓o_rI, ↓a_rI, ↓c_rL, ↓o_rL, ↓a_rL, ↓c_rngI, ↓o_rngI, ↓a_rngI, ↓c_rngL, ↓o_rngL, ↓a_rngL, ↓bd_s, ↓cs_s, ↓cs_n, ↓gd_t, ↓gB0, ↓gB1, ↓gOT, ↓gAS, ↓gOY, ↓gAY, ↓reduceIte, d10, nI_clamp, nI_1', i0eq, ↓gO33 h60, ↓gA34 h60, ↓gA35 h60, ↓gA36 h60, ↓gA37 h60, ↓gA38 h60, ↓gA39 h60, ↓gA40 h60, ↓gA41 h60, ↓gA42 h60, ↓gA43 h60, ↓gA44 h60, ↓gA45 h60, ↓gA46 h60, ↓gA47 h60, ↓gA48 h60, ↓gA49 h60, ↓gA50 h60, ↓gA51 h60, ↓gA52 h60, ↓gA53 h60, ↓gA54 h60, ↓gA55 h60, ↓gA56 h60, ↓gA57 h60, ↓gA58 h60, ↓gA59 h60, ↓cM_4 hRM, ↓cM_5 hRM, ↓cM_6 hRM, ↓cM_8 hRM, ↓cM_9 hRM, ↓cM_10 hRM, ↓cM_11 hRM, ↓cM_12 hRM, ↓cM_13 hRM, ↓cM_14 hRM, ↓cM_15 hRM, ↓cM_16 hRM, ↓cM_17 hRM, ↓cM_18 hRM, ↓cM_19 hRM, ↓cM_20 hRM, ↓cM_21 hRM, ↓cM_23 hRM, ↓cM_24 hRM, ↓cM_25 hRM, ↓cM_26 hRM, ↓cM_27 hRM, ↓cM_28 hRM, ↓cM_29 hRM, ↓cM_30 hRM, ↓cM_32 hRM, ↓bno8, ↓brf8]
  · obtain ⟨x, g1, g2⟩ := h3 v 12 h1.keepM
    have g60 : 60 ≤ v.1 := by rw [h1.1]; exact h60
    have gRC := (hC.scr h1).1
    have hMx := (MR_m0 (hM.keep (h1.keepM.sI (r := 0) (k := 5) (x := 12) (by omega)))).scrM g1
    have x60 := hMx.2.1
    refine leaf_sc (-1) 12 hW hC hM h1 g1 ?_ ?_
    · simp (disch := first | exact h60 | omega | with_unfolding_all exact h60) only [f_X7_carry, ↓bd_of h2, ↓gO0 g60, ↓brf7 g60, ↓bb_e, ↓c_sI, ↓o_sI, ↓a_sI, ↓c_sL, ↓o_sL, ↓a_sL, ↓c_rI, ↓o_rI, ↓a_rI, ↓c_rL, ↓o_rL, ↓a_rL, ↓c_rngI, ↓o_rngI, ↓a_rngI, ↓c_rngL, ↓o_rngL, ↓a_rngL, ↓bd_s, ↓cs_s, ↓cs_n, ↓gd_t, ↓gB0, ↓gB1, ↓gOT, ↓gAS, ↓gOY, ↓gAY, ↓reduceIte, d10, nI_clamp, nI_1', i0eq, ↓gO0 h60, ↓gO2 h60, ↓gO6 h60, ↓gO10 h60, ↓gO11 h60, ↓gO14 h60, ↓gO21 h60, ↓gA1 h60, ↓gA3 h60, ↓gA4 h60, ↓gA5 h60, ↓gA7 h60, ↓gA8 h60, ↓gA9 h60, ↓gA12 h60, ↓gA13 h60, ↓gA15 h60, ↓gA16 h60, ↓gA17 h60, ↓gA18 h60, ↓gA19 h60, ↓gA20 h60, ↓gA22 h60, ↓gA23 h60, ↓gA24 h60, ↓cC_0_0 hRC, ↓cC_0_1 hRC, ↓cC_0_2 hRC, ↓cC_0_3 hRC, ↓cC_0_4 hRC, ↓cC_2_0 hRC, ↓cC_2_2 hRC, ↓cC_2_3 hRC, ↓cC_6_0 hRC, ↓cC_6_1 hRC, ↓cC_6_2 hRC, ↓cC_10_0 hRC, ↓cC_10_1 hRC, ↓cC_10_2 hRC, ↓cC_10_3 hRC, ↓cC_10_4 hRC, ↓cC_10_5 hRC, ↓cC_11_0 hRC, ↓cC_11_1 hRC, ↓cC_14_0 hRC, ↓cC_14_1 hRC, ↓cC_21_0 hRC, ↓cC_21_1 hRC, ↓cC_21_2 hRC, ↓bdn7, ↓brf7, ↓bgr7, ↓ban7]
    · rw [f_X8_carry, oO33 (u := sI v 0 5 12) g60, gd_t]
      unfold m0 at g2
      simp (disch := first | exact h60 | omega | with_unfolding_all exact h60) only [↓bd_of g2, ↓gO33 x60, ↓brf8 x60, ↓bb_e, ↓c_sI, ↓o_sI, ↓a_sI, ↓c_sL, ↓o_sL, ↓a_sL, ↓c_rI, ↓o_rI, ↓a_rI, ↓c_rL, ↓o_rL, ↓a_rL, ↓c_rngI, ↓o_rngI, ↓a_rngI, ↓c_rngL, ↓o_rngL, ↓a_rngL, ↓bd_s, ↓cs_s, ↓cs_n, ↓gd_t, ↓gB0, ↓gB1, ↓gOT, ↓gAS, ↓gOY, ↓gAY, ↓reduceIte, d10, nI_clamp, nI_1', i0eq, ↓gO33 h60, ↓gA34 h60, ↓gA35 h60, ↓gA36 h60, ↓gA37 h60, ↓gA38 h60, ↓gA39 h60, ↓gA40 h60, ↓gA41 h60, ↓gA42 h60, ↓gA43 h60, ↓gA44 h60, ↓gA45 h60, ↓gA46 h60, ↓gA47 h60, ↓gA48 h60, ↓gA49 h60, ↓gA50 h60, ↓gA51 h60, ↓gA52 h60, ↓gA53 h60, ↓gA54 h60, ↓gA55 h60, ↓gA56 h60, ↓gA57 h60, ↓gA58 h60, ↓gA59 h60, ↓cM_4 hRM, ↓cM_5 hRM, ↓cM_6 hRM, ↓cM_8 hRM, ↓cM_9 hRM, ↓cM_10 hRM, ↓cM_11 hRM, ↓cM_12 hRM, ↓cM_13 hRM, ↓cM_14 hRM, ↓cM_15 hRM, ↓cM_16 hRM, ↓cM_17 hRM, ↓cM_18 hRM, ↓cM_19 hRM, ↓cM_20 hRM, ↓cM_21 hRM, ↓cM_23 hRM, ↓cM_24 hRM, ↓cM_25 hRM, ↓cM_26 hRM, ↓cM_27 hRM, ↓cM_28 hRM, ↓cM_29 hRM, ↓cM_30 hRM, ↓cM_32 hRM, ↓bno8, ↓brf8]
-- CARRIED
theorem qI_st (A : Ab) (r : Nat) (g : Nat → Int32) (c : Int32) (h : r ≠ 33) : qI (st A c) r g = st (qI A r g) c := by
  unfold st tI qI
  simp only [Prod.mk.injEq, true_and, and_true]
  funext a j
  simp only [up2, upr]
  by_cases h1 : a = r
  · subst h1; simp [h]
  · simp [h1]
theorem CR_47 {u v : Mm} {A : Ab} {f : Nat → Int32} (hC : CR u A) (hL : Lay v 12 13 f) (ho : only u v 12 13) (hf : ∀ i, an A ≤ i → f i = -1) : CR v (qI A 47 f) := by
  obtain ⟨c1, c2, c3, c4, c5, c6, c7, c8, c9⟩ := hC
  obtain ⟨o1, o2, o3, o4⟩ := ho
  refine ⟨RC_cong c1 (fun r k _ _ _ => o2 r k), ⟨by rw [o1]; exact c2.1, by rw [o4 2 1 (by omega) (by omega)]; exact c2.2⟩, by rw [o4 0 5 (by omega) (by omega)]; exact c3, ⟨by rw [o3]; exact c4.1, by rw [o3]; exact c4.2⟩, ?_, ?_, ?_, ?_, ?_⟩
  · exact GT_cong c5 rfl (fun r k _ => o4 r k (by omega) (by omega)) (fun r k _ => o2 r k) (fun k => o2 3 k) (fun r k _ _ => by rw [aI_qI, if_neg (by omega)])
  · exact GP_cong c6 rfl (fun i => o4 _ _ (by omega) (by omega)) (fun k => by rw [aI_qI, if_neg (by omega)])
  · exact GY_cong c7 (fun r k _ _ => o4 r k (by omega) (by omega)) (fun r k _ _ => o3 r k) (fun r k _ _ => by rw [aI_qI, if_neg (by omega)]) (fun _ => rfl)
  · exact GL_cong c8 rfl (fun r k _ _ => o4 r k (by omega) (by omega)) (fun r k _ _ => by rw [aI_qI, if_neg (by omega)])
  · have e1 : plc (qI A 47 f) = f := by
      funext k
      simp only [plc, an_qI, aI_qI, ↓reduceIte]
      by_cases e : k < an A
      · rw [if_pos e]
      · rw [if_neg e, hf k (by omega)]
    have e2 : gol (qI A 47 f) = gol A := by
      funext k
      simp only [gol, an_qI, aI_qI]
      simp
    unfold GS
    rw [e1, e2]
    exact ⟨hL, fun k hk => by rw [o4 17 k (by omega) (by omega)]; exact c9.2 k hk⟩
theorem MR_47 {v v' : Mm} {A : Ab} {f : Nat → Int32} (hM : MR v A) (ho : only v v' 47 47) (h : ∀ i, i < an A → gI v' 47 i = f i) : MR v' (qI A 47 f) := by
  obtain ⟨h1, h2, h3, h4, h5, h6, h7, h8⟩ := hM
  obtain ⟨o1, o2, o3, o4⟩ := ho
  refine ⟨RM_cong h1 (fun j => o2 33 j), by rw [o1]; exact h2, by rw [o4 33 7 (by omega) (by omega)]; exact h3, by rw [o4 33 0 (by omega) (by omega)]; exact h4, ⟨by rw [o3]; exact h5.1, by rw [o3]; exact h5.2⟩, ⟨fun i hi => ?_, fun i a b => by rw [o4 45 i (by omega) (by omega)]; exact h6.2 i a b⟩, ?_, ?_⟩
  · have q := h6.1 i hi
    have h := h i hi
    unfold HT1 at q ⊢
    obtain ⟨q1, q2, q3, q4, q5, q6, q7, q8, q9, q10, q11, q12⟩ := q
    rw [o4 37 i (by omega) (by omega), o4 38 i (by omega) (by omega), o4 39 i (by omega) (by omega), o4 40 i (by omega) (by omega), o4 42 i (by omega) (by omega), o4 43 i (by omega) (by omega), o4 44 i (by omega) (by omega), o4 45 i (by omega) (by omega), o4 46 i (by omega) (by omega), o4 48 i (by omega) (by omega)]
    exact ⟨q1, q2, q3, q4, q5, q6, q7, q8, q9, h, q11, fun f hf => by rw [o4 41 _ (by omega) (by omega)]; exact q12 f hf⟩
  · exact HY_cong h7 (fun r j _ _ => o4 r j (by omega) (by omega)) (fun j => o3 36 j) (fun r k _ _ => by rw [aI_qI, if_neg (by omega)]) (fun _ => rfl)
  · exact HL_cong h8 rfl (o4 33 22 (by omega) (by omega)) (fun r j _ _ => o4 r j (by omega) (by omega)) (fun r k _ _ => by rw [aI_qI, if_neg (by omega)])
theorem Wf_47 {A : Ab} {f : Nat → Int32} (hW : Wf A) (h1 : ∀ a b, a < 80 → b < 80 → a ≠ b → f a = f b → f a = -1) (h2 : ∀ a, a < 80 → -1 ≤ (f a).toInt ∧ (f a).toInt < 40) : Wf (qI A 47 f) := by
  obtain ⟨w1, w2, w3, w4, w5, w6⟩ := hW
  have h80 := w1.1
  refine ⟨⟨w1.1, fun i hi => ?_⟩, WD_cong w2 rfl (fun k => by rw [aI_qI, if_neg (by omega)]), fun i j hi hj hne e => h1 i j (by have : i < an A := hi; omega) (by have : j < an A := hj; omega) hne e, WD_cong w4 rfl (fun k => by rw [aI_qI, if_neg (by omega)]), WY_cong w5 (fun r k _ _ => by rw [aI_qI, if_neg (by omega)]), WL_cong w6 rfl (fun r k _ _ => by rw [aI_qI, if_neg (by omega)])⟩
  have hi : i < an A := hi
  have q := w1.2 i hi
  unfold WT1 at q ⊢
  obtain ⟨q1, q2, q3, q4, q5, q6, q7, q8, q9, q10, q12⟩ := q
  exact ⟨q1, q2, q3, q4, q5, q6, q7, q8, h2 i (by omega), q10, q12⟩
theorem cd_l {w : Mm} {A : Ab} {f : Nat → Int32} (hW : Wf A) (hRM : RM w) (h60 : 60 ≤ w.1) (h7 : gI w 33 7 = nI (an A)) (hr : ∀ i, i < an A → gI w 55 i = f i) {k : Int32 → Mm → Option (Int32 × Mm)} : ∀ (d n j : Nat) (v : Mm), j + d = an A → d < n → only w v 47 47 → (∀ i, i < j → gI v 47 i = f i) → ∃ v', only w v' 47 47 ∧ (∀ i, i < an A → gI v' 47 i = f i) ∧ L_X8_carried_26 33 k n (nI j) v = k (nI (an A)) v' := by
  have h80 := hW.1.1
  intro d
  induction d with
  | zero =>
    intro n j v h1 h2 ho hv
    obtain ⟨n, rfl⟩ : ∃ b, n = b + 1 := ⟨n - 1, by omega⟩
    have e : j = an A := by omega
    subst e
    have g60 : 60 ≤ v.1 := by rw [ho.1]; exact h60
    refine ⟨v, ho, hv, ?_⟩
    rw [L_X8_carried_26, oO33 g60, gd_t, ho.2.2.2 33 7 (by omega) (by omega), h7, if_pos (nI_le (Nat.le_refl _) (by omega))]
  | succ d ih =>
    intro n j v h1 h2 ho hv
    obtain ⟨n, rfl⟩ : ∃ b, n = b + 1 := ⟨n - 1, by omega⟩
    have hj : j < an A := by omega
    have g60 : 60 ≤ v.1 := by rw [ho.1]; exact h60
    have gRM : RM v := RM_cong hRM (fun j => ho.2.1 33 j)
    have g7 : gI v 33 7 = nI (an A) := by rw [ho.2.2.2 33 7 (by omega) (by omega)]; exact h7
    have g55 : gI v 55 j = f j := by rw [ho.2.2.2 55 j (by omega) (by omega)]; exact hr j hj
    have hnl : ¬ nI (an A) ≤ nI j := nI_ge (by omega) (by omega)
    obtain ⟨v', q1, q2, q3⟩ := ih n (j + 1) (sI v 47 j (f j)) (by omega) (by omega) (ho.sI (by omega)) (fun i hi => by
      by_cases c : i = j
      · subst c; exact gI_e
      · rw [gI_n (by omega)]; exact hv i (by omega))
    refine ⟨v', q1, q2, ?_⟩
    rw [← q3]
    clear h60 hRM
    have h60 := g60
    have hRM := gRM
    simp (disch := first | exact h60 | omega | with_unfolding_all exact h60) only [L_X8_carried_26, g7, eq_false hnl, g55, ↓bb_e, ↓c_sI, ↓o_sI, ↓a_sI, ↓c_sL, ↓o_sL, ↓a_sL, ↓c_rI, ↓o_rI, ↓a_rI, ↓c_rL, ↓o_rL, ↓a_rL, ↓c_rngI, ↓o_rngI, ↓a_rngI, ↓c_rngL, ↓o_rngL, ↓a_rngL, ↓bd_s, ↓cs_s, ↓cs_n, ↓gd_t, ↓gB0, ↓gB1, ↓gOT, ↓gAS, ↓gOY, ↓gAY, ↓reduceIte, d10, nI_clamp, nI_1', i0eq, ↓gO33 h60, ↓gA34 h60, ↓gA35 h60, ↓gA36 h60, ↓gA37 h60, ↓gA38 h60, ↓gA39 h60, ↓gA40 h60, ↓gA41 h60, ↓gA42 h60, ↓gA43 h60, ↓gA44 h60, ↓gA45 h60, ↓gA46 h60, ↓gA47 h60, ↓gA48 h60, ↓gA49 h60, ↓gA50 h60, ↓gA51 h60, ↓gA52 h60, ↓gA53 h60, ↓gA54 h60, ↓gA55 h60, ↓gA56 h60, ↓gA57 h60, ↓gA58 h60, ↓gA59 h60, ↓cM_4 hRM, ↓cM_5 hRM, ↓cM_6 hRM, ↓cM_8 hRM, ↓cM_9 hRM, ↓cM_10 hRM, ↓cM_11 hRM, ↓cM_12 hRM, ↓cM_13 hRM, ↓cM_14 hRM, ↓cM_15 hRM, ↓cM_16 hRM, ↓cM_17 hRM, ↓cM_18 hRM, ↓cM_19 hRM, ↓cM_20 hRM, ↓cM_21 hRM, ↓cM_23 hRM, ↓cM_24 hRM, ↓cM_25 hRM, ↓cM_26 hRM, ↓cM_27 hRM, ↓cM_28 hRM, ↓cM_29 hRM, ↓cM_30 hRM, ↓cM_32 hRM, ↓bno8, ↓brf8]
theorem only.keepC {u v : Mm} {a b : Nat} (h : only u v a b) (h1 : 33 ≤ a ∧ a < 60) (h2 : 33 ≤ b ∧ b < 60) : keepC u v := ⟨h.1, fun r h3 => ⟨fun k => h.2.2.2 r k (by omega) (by omega), fun k => h.2.2.1 r k, fun k => h.2.1 r k⟩⟩
theorem P_carried {u : Mm} (hI : Inv u) : Pq (f_X7_carried 0) (f_X8_carried 33) u := by
  obtain ⟨A, hW, hC, hM⟩ := hI
  obtain ⟨hRC, hN, hS, hF, hT, hPc, hY, hLg, hSh⟩ := id hC
  obtain ⟨hRM, h60, h7, hMs, hMf, hMt, hMy, hMl⟩ := id hM
  have h80 : an A ≤ 80 := hW.1.1
  have hn := hN.1
  rcases plan2 hW hC hM with ⟨v, s, h1, h2, h3, h4, h5⟩ | ⟨v, h1, h2, h3⟩
  · have g60 : 60 ≤ v.1 := by rw [h1.1.1]; exact h60
    have hCv := hC.scr h1.1
    have gRC := hCv.1
    obtain ⟨v', c1, c2, c3⟩ := cpu_t gRC g60
    have c1 : f_X1_copyFrom 11 (gR v 10 1) v = some v' := by rw [rc_10_1 gRC]; exact c1
    have v60 : 60 ≤ v'.1 := by rw [c2.1]; exact g60
    have hC' := CR_47 hCv (c3 _ h1.2.1) c2 h2.2.2.1
    have km : keepM u (sI v' 0 5 0) := (h1.1.keepM.trans (c2.keepM (by omega) (by omega))).sI (by omega)
    have hM' := MR_m0 (hM.keep km)
    obtain ⟨x, g1, g2⟩ := h5 v' 0 (h1.1.keepM.trans (c2.keepM (by omega) (by omega)))
    have hMx := hM'.scrM g1.1.1
    obtain ⟨xRM, x60, x7, -⟩ := id hMx
    obtain ⟨y, y1, y2, y3⟩ := cd_l (Wf_st 0 hW) xRM x60 x7 g1.1.2.1 (k := fun a13 u14 => some (1, u14)) (an A) 1000 0 x (by show 0 + an A = an A; omega) (by omega) only.rf (fun i hi => by omega)
    rw [nI_0] at y3
    have hMy := MR_47 hMx y1 y2
    rw [qI_st _ _ _ _ (by omega)] at hMy
    refine leaf_ok (u1 := v') (A' := qI A 47 s.1) 1 ?_ ?_ (Wf_47 hW h2.1 h2.2.1) hC' hMy ((((keepC.rf.sI (by omega)).sI (by omega)).trans g1.1.1.keepC).trans (y1.keepC (by omega) (by omega))) (v := y)
    · simp (disch := first | exact h60 | omega | with_unfolding_all exact h60) only [f_X7_carried, ↓bd_of h4, ↓gO0 g60, ↓cC_0_3 gRC, ↓gO10 g60, ↓cC_10_0 gRC, ↓gO11 g60, ↓bd_of c1, ↓gO0 v60, ↓bgr7 v60, ↓bb_e, ↓c_sI, ↓o_sI, ↓a_sI, ↓c_sL, ↓o_sL, ↓a_sL, ↓c_rI, ↓o_rI, ↓a_rI, ↓c_rL, ↓o_rL, ↓a_rL, ↓c_rngI, ↓o_rngI, ↓a_rngI, ↓c_rngL, ↓o_rngL, ↓a_rngL, ↓bd_s, ↓cs_s, ↓cs_n, ↓gd_t, ↓gB0, ↓gB1, ↓gOT, ↓gAS, ↓gOY, ↓gAY, ↓reduceIte, d10, nI_clamp, nI_1', i0eq, ↓gO0 h60, ↓gO2 h60, ↓gO6 h60, ↓gO10 h60, ↓gO11 h60, ↓gO14 h60, ↓gO21 h60, ↓gA1 h60, ↓gA3 h60, ↓gA4 h60, ↓gA5 h60, ↓gA7 h60, ↓gA8 h60, ↓gA9 h60, ↓gA12 h60, ↓gA13 h60, ↓gA15 h60, ↓gA16 h60, ↓gA17 h60, ↓gA18 h60, ↓gA19 h60, ↓gA20 h60, ↓gA22 h60, ↓gA23 h60, ↓gA24 h60, ↓cC_0_0 hRC, ↓cC_0_1 hRC, ↓cC_0_2 hRC, ↓cC_0_3 hRC, ↓cC_0_4 hRC, ↓cC_2_0 hRC, ↓cC_2_2 hRC, ↓cC_2_3 hRC, ↓cC_6_0 hRC, ↓cC_6_1 hRC, ↓cC_6_2 hRC, ↓cC_10_0 hRC, ↓cC_10_1 hRC, ↓cC_10_2 hRC, ↓cC_10_3 hRC, ↓cC_10_4 hRC, ↓cC_10_5 hRC, ↓cC_11_0 hRC, ↓cC_11_1 hRC, ↓cC_14_0 hRC, ↓cC_14_1 hRC, ↓cC_21_0 hRC, ↓cC_21_1 hRC, ↓cC_21_2 hRC, ↓bdn7, ↓brf7, ↓bgr7, ↓ban7]
    · rw [f_X8_carried, oO33 (u := sI v' 0 5 0) v60, gd_t]
      unfold m0 at g2
      simp (disch := first | exact h60 | omega | with_unfolding_all exact h60) only [↓bd_of g2, ↓y3, ↓bb_e, ↓c_sI, ↓o_sI, ↓a_sI, ↓c_sL, ↓o_sL, ↓a_sL, ↓c_rI, ↓o_rI, ↓a_rI, ↓c_rL, ↓o_rL, ↓a_rL, ↓c_rngI, ↓o_rngI, ↓a_rngI, ↓c_rngL, ↓o_rngL, ↓a_rngL, ↓bd_s, ↓cs_s, ↓cs_n, ↓gd_t, ↓gB0, ↓gB1, ↓gOT, ↓gAS, ↓gOY, ↓gAY, ↓reduceIte, d10, nI_clamp, nI_1', i0eq, ↓gO33 h60, ↓gA34 h60, ↓gA35 h60, ↓gA36 h60, ↓gA37 h60, ↓gA38 h60, ↓gA39 h60, ↓gA40 h60, ↓gA41 h60, ↓gA42 h60, ↓gA43 h60, ↓gA44 h60, ↓gA45 h60, ↓gA46 h60, ↓gA47 h60, ↓gA48 h60, ↓gA49 h60, ↓gA50 h60, ↓gA51 h60, ↓gA52 h60, ↓gA53 h60, ↓gA54 h60, ↓gA55 h60, ↓gA56 h60, ↓gA57 h60, ↓gA58 h60, ↓gA59 h60, ↓cM_4 hRM, ↓cM_5 hRM, ↓cM_6 hRM, ↓cM_8 hRM, ↓cM_9 hRM, ↓cM_10 hRM, ↓cM_11 hRM, ↓cM_12 hRM, ↓cM_13 hRM, ↓cM_14 hRM, ↓cM_15 hRM, ↓cM_16 hRM, ↓cM_17 hRM, ↓cM_18 hRM, ↓cM_19 hRM, ↓cM_20 hRM, ↓cM_21 hRM, ↓cM_23 hRM, ↓cM_24 hRM, ↓cM_25 hRM, ↓cM_26 hRM, ↓cM_27 hRM, ↓cM_28 hRM, ↓cM_29 hRM, ↓cM_30 hRM, ↓cM_32 hRM, ↓bno8, ↓brf8]
  · obtain ⟨x, g1, g2⟩ := h3 v 12 h1.keepM
    have g60 : 60 ≤ v.1 := by rw [h1.1]; exact h60
    have gRC := (hC.scr h1).1
    have hMx := (MR_m0 (hM.keep (h1.keepM.sI (r := 0) (k := 5) (x := 12) (by omega)))).scrM g1
    have x60 := hMx.2.1
    refine leaf_sc 0 12 hW hC hM h1 g1 ?_ ?_
    · simp (disch := first | exact h60 | omega | with_unfolding_all exact h60) only [f_X7_carried, ↓bd_of h2, ↓gO0 g60, ↓bdn7 g60, ↓bb_e, ↓c_sI, ↓o_sI, ↓a_sI, ↓c_sL, ↓o_sL, ↓a_sL, ↓c_rI, ↓o_rI, ↓a_rI, ↓c_rL, ↓o_rL, ↓a_rL, ↓c_rngI, ↓o_rngI, ↓a_rngI, ↓c_rngL, ↓o_rngL, ↓a_rngL, ↓bd_s, ↓cs_s, ↓cs_n, ↓gd_t, ↓gB0, ↓gB1, ↓gOT, ↓gAS, ↓gOY, ↓gAY, ↓reduceIte, d10, nI_clamp, nI_1', i0eq, ↓gO0 h60, ↓gO2 h60, ↓gO6 h60, ↓gO10 h60, ↓gO11 h60, ↓gO14 h60, ↓gO21 h60, ↓gA1 h60, ↓gA3 h60, ↓gA4 h60, ↓gA5 h60, ↓gA7 h60, ↓gA8 h60, ↓gA9 h60, ↓gA12 h60, ↓gA13 h60, ↓gA15 h60, ↓gA16 h60, ↓gA17 h60, ↓gA18 h60, ↓gA19 h60, ↓gA20 h60, ↓gA22 h60, ↓gA23 h60, ↓gA24 h60, ↓cC_0_0 hRC, ↓cC_0_1 hRC, ↓cC_0_2 hRC, ↓cC_0_3 hRC, ↓cC_0_4 hRC, ↓cC_2_0 hRC, ↓cC_2_2 hRC, ↓cC_2_3 hRC, ↓cC_6_0 hRC, ↓cC_6_1 hRC, ↓cC_6_2 hRC, ↓cC_10_0 hRC, ↓cC_10_1 hRC, ↓cC_10_2 hRC, ↓cC_10_3 hRC, ↓cC_10_4 hRC, ↓cC_10_5 hRC, ↓cC_11_0 hRC, ↓cC_11_1 hRC, ↓cC_14_0 hRC, ↓cC_14_1 hRC, ↓cC_21_0 hRC, ↓cC_21_1 hRC, ↓cC_21_2 hRC, ↓bdn7, ↓brf7, ↓bgr7, ↓ban7]
    · rw [f_X8_carried, oO33 (u := sI v 0 5 12) g60, gd_t]
      unfold m0 at g2
      simp (disch := first | exact h60 | omega | with_unfolding_all exact h60) only [↓bd_of g2, ↓gO33 x60, ↓bno8 x60, ↓bb_e, ↓c_sI, ↓o_sI, ↓a_sI, ↓c_sL, ↓o_sL, ↓a_sL, ↓c_rI, ↓o_rI, ↓a_rI, ↓c_rL, ↓o_rL, ↓a_rL, ↓c_rngI, ↓o_rngI, ↓a_rngI, ↓c_rngL, ↓o_rngL, ↓a_rngL, ↓bd_s, ↓cs_s, ↓cs_n, ↓gd_t, ↓gB0, ↓gB1, ↓gOT, ↓gAS, ↓gOY, ↓gAY, ↓reduceIte, d10, nI_clamp, nI_1', i0eq, ↓gO33 h60, ↓gA34 h60, ↓gA35 h60, ↓gA36 h60, ↓gA37 h60, ↓gA38 h60, ↓gA39 h60, ↓gA40 h60, ↓gA41 h60, ↓gA42 h60, ↓gA43 h60, ↓gA44 h60, ↓gA45 h60, ↓gA46 h60, ↓gA47 h60, ↓gA48 h60, ↓gA49 h60, ↓gA50 h60, ↓gA51 h60, ↓gA52 h60, ↓gA53 h60, ↓gA54 h60, ↓gA55 h60, ↓gA56 h60, ↓gA57 h60, ↓gA58 h60, ↓gA59 h60, ↓cM_4 hRM, ↓cM_5 hRM, ↓cM_6 hRM, ↓cM_8 hRM, ↓cM_9 hRM, ↓cM_10 hRM, ↓cM_11 hRM, ↓cM_12 hRM, ↓cM_13 hRM, ↓cM_14 hRM, ↓cM_15 hRM, ↓cM_16 hRM, ↓cM_17 hRM, ↓cM_18 hRM, ↓cM_19 hRM, ↓cM_20 hRM, ↓cM_21 hRM, ↓cM_23 hRM, ↓cM_24 hRM, ↓cM_25 hRM, ↓cM_26 hRM, ↓cM_27 hRM, ↓cM_28 hRM, ↓cM_29 hRM, ↓cM_30 hRM, ↓cM_32 hRM, ↓bno8, ↓brf8]
