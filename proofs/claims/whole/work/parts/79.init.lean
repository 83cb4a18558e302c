/-! THE START -/
def w3 : Mm := match f_X7_init 0 (nw u_0) with
  | some w => w
  | none => u_0
theorem w3_1 : (f_X7_init 0 (nw u_0)).isSome = true := by decide +kernel
theorem w3_e : f_X7_init 0 (nw u_0) = some w3 := by
  have h := w3_1
  unfold w3
  cases hc : f_X7_init 0 (nw u_0) with
  | none => rw [hc] at h; cases h
  | some w => rfl
theorem w3_n : w3.1 = 33 := by decide +kernel
theorem w3_o : okN w3 8 = true := by decide +kernel
def w6 : Mm := match f_X8_init 33 (nw w3) with
  | some w => w
  | none => u_0
theorem w6_1 : (f_X8_init 33 (nw w3)).isSome = true := by decide +kernel
theorem w6_e : f_X8_init 33 (nw w3) = some w6 := by
  have h := w6_1
  unfold w6
  cases hc : f_X8_init 33 (nw w3) with
  | none => rw [hc] at h; cases h
  | some w => rfl
theorem w6_n : w6.1 = 60 := by decide +kernel
theorem law_0 (xs : Nat → Int32) (L : Nat) : f_law xs L u_0 = L_law xs L 0 33 1000 0 w6 := by
  have o : okN u_0 7 = true := by decide +kernel
  rw [f_law, o, gd_t, bb_e, show u_0.1 = 0 from rfl, w3_e, bd_s, w3_o, gd_t, bb_e, w3_n, w6_e, bd_s]
theorem w6_C : rfC.all (fun q => decide (gR w6 q.1 q.2.1 = some q.2.2)) = true := by decide +kernel
theorem w6_M : rfM.all (fun q => decide (gR w6 q.1 q.2.1 = some q.2.2)) = true := by decide +kernel
theorem w6_RC : RC w6 := fun q hq => of_decide_eq_true (List.all_eq_true.mp w6_C q hq)
theorem w6_RM : RM w6 := fun q hq => of_decide_eq_true (List.all_eq_true.mp w6_M q hq)
theorem w6_12 : (List.range 80).all (fun i => decide (gI w6 12 i = -1)) = true := by decide +kernel
theorem w6_13 : (List.range 40).all (fun i => decide (gI w6 13 i = -1)) = true := by decide +kernel
theorem w6_17 : (List.range 80).all (fun i => decide (gI w6 17 i = -1)) = true := by decide +kernel
theorem w6_45 : (List.range 80).all (fun i => decide (gI w6 45 i = 0)) = true := by decide +kernel
theorem w6_y : (List.range 4).all (fun t => decide (gI w6 (25 + 2 * t) 1 = -1) && (decide (gI w6 (25 + 2 * t) 2 = 0) && (decide (gI w6 34 t = 0) && decide (gI w6 35 t = -1)))) = true := by decide +kernel
theorem w6_f : (decide (gI w6 2 1 = 0) && (decide (gI w6 0 5 = 0) && (decide (gL w6 0 6 = 0) && (decide (gL w6 0 7 = 1) && (decide (gI w6 6 3 = 0) && (decide (gI w6 33 7 = 0) && (decide (gI w6 33 0 = 0) && (decide (gL w6 33 2 = 0) && (decide (gL w6 33 3 = 1) && decide (gI w6 33 22 = 0)))))))))) = true := by decide +kernel
theorem all_r {n : Nat} {P : Nat → Bool} (h : (List.range n).all P = true) {i : Nat} (hi : i < n) : P i = true := List.all_eq_true.mp h i (List.mem_range.mpr hi)
def A0 : Ab := (0, 0, fun r _ => if r = 35 then -1 else 0, fun r k => if r = 33 ∧ k = 3 then 1 else 0)
theorem Inv_0 : Inv w6 := by
  have hf := w6_f
  simp only [Bool.and_eq_true, decide_eq_true_eq] at hf
  obtain ⟨f1, f2, f3, f4, f5, f6, f7, f8, f9, f10⟩ := hf
  have hy : ∀ t, t < 4 → gI w6 (25 + 2 * t) 1 = -1 ∧ gI w6 (25 + 2 * t) 2 = 0 ∧ gI w6 34 t = 0 ∧ gI w6 35 t = -1 := fun t ht => by
    have := all_r w6_y ht
    simp only [Bool.and_eq_true, decide_eq_true_eq] at this
    exact this
  have none0 : ∀ i, ¬ i < an A0 := fun i h => Nat.not_lt_zero i h
  refine ⟨A0, ⟨⟨Nat.zero_le _, fun i hi => absurd hi (none0 i)⟩, fun i j hi => absurd hi (none0 i), fun i j hi => absurd hi (none0 i), fun i j hi => absurd hi (none0 i), fun t ht => ?_, ⟨Nat.zero_le _, fun k hk => absurd hk (Nat.not_lt_zero k), fun i j _ hj => absurd hj (Nat.not_lt_zero j)⟩⟩, ⟨w6_RC, ⟨w6_n, f1⟩, f2, ⟨f3, f4⟩, fun i hi => absurd hi (none0 i), ⟨fun i hi => absurd hi (none0 i), fun i j hi => absurd hi (none0 i)⟩, fun t ht => ?_, ⟨f5, fun k hk => absurd hk (Nat.not_lt_zero k)⟩, ⟨⟨fun i hi => ?_, fun p hp => ?_⟩, fun i hi => ?_⟩⟩, ⟨w6_RM, Nat.le_of_eq w6_n.symm, f6, f7, ⟨f8, f9⟩, ⟨fun i hi => absurd hi (none0 i), fun i _ hi => of_decide_eq_true (all_r w6_45 hi)⟩, fun t ht => ?_, ⟨f10, fun k hk => absurd hk (Nat.not_lt_zero k)⟩⟩⟩
  · show (0 ≤ (0 : Int32).toInt ∧ (0 : Int32).toInt ≤ 3) ∧ -1 ≤ (-1 : Int32).toInt ∧ (-1 : Int32).toInt ≤ 40
    decide
  · exact Or.inl ⟨rfl, (hy t ht).1, (hy t ht).2.1⟩
  · exact of_decide_eq_true (all_r w6_12 hi)
  · refine Or.inl ⟨of_decide_eq_true (all_r w6_13 hp), fun i _ q => ?_⟩
    have q : (-1 : Int32) = nI p := q
    exact nI_m1 (by omega) q.symm
  · exact of_decide_eq_true (all_r w6_17 hi)
  · refine ⟨(hy t ht).2.2.1, (hy t ht).2.2.2, fun k hk h40 => ?_⟩
    have hk : (-1 : Int32) = nI k := hk
    exact absurd hk.symm (nI_m1 (by omega))
