theorem GT_cong {u v : Mm} {A A' : Ab} (h : GT u A) (hn : an A' = an A) (h1 : ∀ r k, 60 ≤ r → gI v r k = gI u r k) (h2 : ∀ r k, 60 ≤ r → gR v r k = gR u r k) (h3 : ∀ k, gR v 3 k = gR u 3 k) (hA : ∀ r k, 37 ≤ r → r ≤ 46 → aI A' r k = aI A r k) : GT v A' := by
  intro i hi
  have hp : par A' i = par A i := by simp only [par, hA 38 i (by omega) (by omega)]
  have q := h i (by rw [← hn]; exact hi)
  unfold GT1 at q ⊢
  simp only [h1 _ _ (show 60 ≤ 60 + 2 * i by omega), h1 _ _ (show 60 ≤ 61 + 2 * i by omega), h2 _ _ (show 60 ≤ 60 + 2 * i by omega), h3, hp, hA 37 _ (by omega) (by omega), hA 39 _ (by omega) (by omega), hA 41 _ (by omega) (by omega), hA 42 _ (by omega) (by omega), hA 43 _ (by omega) (by omega), hA 44 _ (by omega) (by omega), hA 45 _ (by omega) (by omega), hA 46 _ (by omega) (by omega)]
  exact q
theorem GP_cong {u v : Mm} {A A' : Ab} (h : GP u A) (hn : an A' = an A) (h1 : ∀ i, gI v (60 + 2 * i) 10 = gI u (60 + 2 * i) 10) (hA : ∀ k, aI A' 40 k = aI A 40 k) : GP v A' := by
  unfold GP at h ⊢
  simp only [hn, h1, hA]
  exact h
theorem GY_cong {u v : Mm} {A A' : Ab} (h : GY u A) (h1 : ∀ r k, 25 ≤ r → r < 33 → gI v r k = gI u r k) (h2 : ∀ r k, 25 ≤ r → r < 33 → gL v r k = gL u r k) (hA : ∀ r k, 34 ≤ r → r ≤ 35 → aI A' r k = aI A r k) (hL : ∀ k, aL A' 36 k = aL A 36 k) : GY v A' := by
  intro t ht
  have q := h t ht
  unfold GY1 at q ⊢
  simp only [h1 (25 + 2 * t) _ (by omega) (by omega), h2 (26 + 2 * t) _ (by omega) (by omega), hA 34 _ (by omega) (by omega), hA 35 _ (by omega) (by omega), hL]
  exact q
theorem GL_cong {u v : Mm} {A A' : Ab} (h : GL u A) (he : ae A' = ae A) (h1 : ∀ r k, 6 ≤ r → r ≤ 9 → gI v r k = gI u r k) (hA : ∀ r k, 51 ≤ r → r ≤ 53 → aI A' r k = aI A r k) : GL v A' := by
  unfold GL at h ⊢
  simp only [he, h1 6 _ (by omega) (by omega), h1 7 _ (by omega) (by omega), h1 8 _ (by omega) (by omega), h1 9 _ (by omega) (by omega), hA 51 _ (by omega) (by omega), hA 52 _ (by omega) (by omega), hA 53 _ (by omega) (by omega)]
  exact h
theorem GS_cong {u v : Mm} {A A' : Ab} (h : GS u A) (hn : an A' = an A) (h1 : ∀ r k, r = 12 ∨ r = 13 ∨ r = 17 → gI v r k = gI u r k) (hA : ∀ r k, 47 ≤ r → r ≤ 48 → aI A' r k = aI A r k) : GS v A' := by
  have e1 : plc A' = plc A := by funext i; simp only [plc, hn, hA 47 _ (by omega) (by omega)]
  have e2 : gol A' = gol A := by funext i; simp only [gol, hn, hA 48 _ (by omega) (by omega)]
  unfold GS Lay at h ⊢
  simp only [e1, e2, h1 12 _ (by omega), h1 13 _ (by omega), h1 17 _ (by omega)]
  exact h
theorem RC_cong {u v : Mm} (h : RC u) (h1 : ∀ r k, r < 33 → r ≠ 3 → r ≠ 4 → gR v r k = gR u r k) : RC v := by
  intro q hq
  have h2 : ∀ q ∈ rfC, q.1 < 33 ∧ q.1 ≠ 3 ∧ q.1 ≠ 4 := by decide
  obtain ⟨a, b, c⟩ := h2 q hq
  rw [h1 _ _ a b c]
  exact h q hq
theorem RM_cong {u v : Mm} (h : RM u) (h1 : ∀ k, gR v 33 k = gR u 33 k) : RM v := by
  intro q hq
  have h2 : ∀ q ∈ rfM, q.1 = 33 := by decide
  have h3 := h q hq
  rw [h2 q hq] at h3 ⊢
  rw [h1]
  exact h3
theorem HT_cong {u v : Mm} {A A' : Ab} (h : HT u A) (hn : an A' = an A) (h1 : ∀ r k, 37 ≤ r → r ≤ 48 → gI v r k = gI u r k) (hA : ∀ r k, 37 ≤ r → r ≤ 48 → aI A' r k = aI A r k) : HT v A' := by
  unfold HT HT1 at h ⊢
  simp only [hn, h1 37 _ (by omega) (by omega), h1 38 _ (by omega) (by omega), h1 39 _ (by omega) (by omega), h1 40 _ (by omega) (by omega), h1 41 _ (by omega) (by omega), h1 42 _ (by omega) (by omega), h1 43 _ (by omega) (by omega), h1 44 _ (by omega) (by omega), h1 45 _ (by omega) (by omega), h1 46 _ (by omega) (by omega), h1 47 _ (by omega) (by omega), h1 48 _ (by omega) (by omega), hA 37 _ (by omega) (by omega), hA 38 _ (by omega) (by omega), hA 39 _ (by omega) (by omega), hA 40 _ (by omega) (by omega), hA 41 _ (by omega) (by omega), hA 42 _ (by omega) (by omega), hA 43 _ (by omega) (by omega), hA 44 _ (by omega) (by omega), hA 45 _ (by omega) (by omega), hA 46 _ (by omega) (by omega), hA 47 _ (by omega) (by omega), hA 48 _ (by omega) (by omega)]
  exact h
theorem HY_cong {u v : Mm} {A A' : Ab} (h : HY u A) (h1 : ∀ r k, 34 ≤ r → r ≤ 35 → gI v r k = gI u r k) (h2 : ∀ k, gL v 36 k = gL u 36 k) (hA : ∀ r k, 34 ≤ r → r ≤ 35 → aI A' r k = aI A r k) (hL : ∀ k, aL A' 36 k = aL A 36 k) : HY v A' := by
  unfold HY at h ⊢
  simp only [h1 34 _ (by omega) (by omega), h1 35 _ (by omega) (by omega), h2, hA 34 _ (by omega) (by omega), hA 35 _ (by omega) (by omega), hL]
  exact h
theorem HL_cong {u v : Mm} {A A' : Ab} (h : HL u A) (he : ae A' = ae A) (h0 : gI v 33 22 = gI u 33 22) (h1 : ∀ r k, 51 ≤ r → r ≤ 53 → gI v r k = gI u r k) (hA : ∀ r k, 51 ≤ r → r ≤ 53 → aI A' r k = aI A r k) : HL v A' := by
  unfold HL at h ⊢
  simp only [he, h0, h1 51 _ (by omega) (by omega), h1 52 _ (by omega) (by omega), h1 53 _ (by omega) (by omega), hA 51 _ (by omega) (by omega), hA 52 _ (by omega) (by omega), hA 53 _ (by omega) (by omega)]
  exact h
theorem WT_cong {A A' : Ab} (h : WT A) (hn : an A' = an A) (hA : ∀ r k, 37 ≤ r → r ≤ 48 → aI A' r k = aI A r k) : WT A' := by
  unfold WT WT1 at h ⊢
  simp only [hn, hA 37 _ (by omega) (by omega), hA 38 _ (by omega) (by omega), hA 39 _ (by omega) (by omega), hA 40 _ (by omega) (by omega), hA 41 _ (by omega) (by omega), hA 42 _ (by omega) (by omega), hA 43 _ (by omega) (by omega), hA 44 _ (by omega) (by omega), hA 46 _ (by omega) (by omega), hA 47 _ (by omega) (by omega), hA 48 _ (by omega) (by omega)]
  exact h
theorem WD_cong {A A' : Ab} {r : Nat} (h : WD A r) (hn : an A' = an A) (hA : ∀ k, aI A' r k = aI A r k) : WD A' r := by
  unfold WD at h ⊢
  simp only [hn, hA]
  exact h
theorem WY_cong {A A' : Ab} (h : WY A) (hA : ∀ r k, 34 ≤ r → r ≤ 35 → aI A' r k = aI A r k) : WY A' := by
  unfold WY at h ⊢
  simp only [hA 34 _ (by omega) (by omega), hA 35 _ (by omega) (by omega)]
  exact h
theorem WL_cong {A A' : Ab} (h : WL A) (he : ae A' = ae A) (hA : ∀ r k, 52 ≤ r → r ≤ 53 → aI A' r k = aI A r k) : WL A' := by
  unfold WL at h ⊢
  simp only [he, hA 52 _ (by omega) (by omega), hA 53 _ (by omega) (by omega)]
  exact h
-- the status alone
theorem CR_st {u : Mm} {A : Ab} (v : Int32) (h : CR u A) : CR (sI u 0 5 v) (st A v) := by
  obtain ⟨h1, h2, h3, h4, h5, h6, h7, h8, h9⟩ := h
  refine ⟨RC_cong h1 (fun _ _ _ _ _ => rfl), h2, rfl, h4, ?_, ?_, ?_, ?_, ?_⟩
  · exact GT_cong h5 rfl (by intros; first | with_reducible rfl | (simp only [gI_sI, gI_sL, gI_sR, gI_rI, gI_rL, gL_sI, gL_sL, gL_sR, gL_rI, gL_rL, gR_sI, gR_sL, gR_sR, gR_rI, gR_rL, aI_tI, aI_tL, aI_qI, aI_qL, aI_tN, aI_tE, aL_tI, aL_tL, aL_qI, aL_qL, aL_tN, aL_tE, an_tI, an_tL, an_qI, an_qL, an_tN, an_tE, ae_tI, ae_tL, ae_qI, ae_qL, ae_tN, ae_tE] <;> repeat (first | rw [if_neg (by omega)] | rw [if_pos (by omega)]))) (fun _ _ _ => rfl) (fun _ => rfl) (by unfold st; exact (by intros; first | with_reducible rfl | (simp only [gI_sI, gI_sL, gI_sR, gI_rI, gI_rL, gL_sI, gL_sL, gL_sR, gL_rI, gL_rL, gR_sI, gR_sL, gR_sR, gR_rI, gR_rL, aI_tI, aI_tL, aI_qI, aI_qL, aI_tN, aI_tE, aL_tI, aL_tL, aL_qI, aL_qL, aL_tN, aL_tE, an_tI, an_tL, an_qI, an_qL, an_tN, an_tE, ae_tI, ae_tL, ae_qI, ae_qL, ae_tN, ae_tE] <;> repeat (first | rw [if_neg (by omega)] | rw [if_pos (by omega)]))))
  · exact GP_cong h6 rfl (by intros; first | with_reducible rfl | (simp only [gI_sI, gI_sL, gI_sR, gI_rI, gI_rL, gL_sI, gL_sL, gL_sR, gL_rI, gL_rL, gR_sI, gR_sL, gR_sR, gR_rI, gR_rL, aI_tI, aI_tL, aI_qI, aI_qL, aI_tN, aI_tE, aL_tI, aL_tL, aL_qI, aL_qL, aL_tN, aL_tE, an_tI, an_tL, an_qI, an_qL, an_tN, an_tE, ae_tI, ae_tL, ae_qI, ae_qL, ae_tN, ae_tE] <;> repeat (first | rw [if_neg (by omega)] | rw [if_pos (by omega)]))) (by unfold st; exact (by intros; first | with_reducible rfl | (simp only [gI_sI, gI_sL, gI_sR, gI_rI, gI_rL, gL_sI, gL_sL, gL_sR, gL_rI, gL_rL, gR_sI, gR_sL, gR_sR, gR_rI, gR_rL, aI_tI, aI_tL, aI_qI, aI_qL, aI_tN, aI_tE, aL_tI, aL_tL, aL_qI, aL_qL, aL_tN, aL_tE, an_tI, an_tL, an_qI, an_qL, an_tN, an_tE, ae_tI, ae_tL, ae_qI, ae_qL, ae_tN, ae_tE] <;> repeat (first | rw [if_neg (by omega)] | rw [if_pos (by omega)]))))
  · exact GY_cong h7 (by intros; first | with_reducible rfl | (simp only [gI_sI, gI_sL, gI_sR, gI_rI, gI_rL, gL_sI, gL_sL, gL_sR, gL_rI, gL_rL, gR_sI, gR_sL, gR_sR, gR_rI, gR_rL, aI_tI, aI_tL, aI_qI, aI_qL, aI_tN, aI_tE, aL_tI, aL_tL, aL_qI, aL_qL, aL_tN, aL_tE, an_tI, an_tL, an_qI, an_qL, an_tN, an_tE, ae_tI, ae_tL, ae_qI, ae_qL, ae_tN, ae_tE] <;> repeat (first | rw [if_neg (by omega)] | rw [if_pos (by omega)]))) (fun _ _ _ _ => rfl) (by unfold st; exact (by intros; first | with_reducible rfl | (simp only [gI_sI, gI_sL, gI_sR, gI_rI, gI_rL, gL_sI, gL_sL, gL_sR, gL_rI, gL_rL, gR_sI, gR_sL, gR_sR, gR_rI, gR_rL, aI_tI, aI_tL, aI_qI, aI_qL, aI_tN, aI_tE, aL_tI, aL_tL, aL_qI, aL_qL, aL_tN, aL_tE, an_tI, an_tL, an_qI, an_qL, an_tN, an_tE, ae_tI, ae_tL, ae_qI, ae_qL, ae_tN, ae_tE] <;> repeat (first | rw [if_neg (by omega)] | rw [if_pos (by omega)])))) (fun _ => rfl)
  · exact GL_cong h8 rfl (by intros; first | with_reducible rfl | (simp only [gI_sI, gI_sL, gI_sR, gI_rI, gI_rL, gL_sI, gL_sL, gL_sR, gL_rI, gL_rL, gR_sI, gR_sL, gR_sR, gR_rI, gR_rL, aI_tI, aI_tL, aI_qI, aI_qL, aI_tN, aI_tE, aL_tI, aL_tL, aL_qI, aL_qL, aL_tN, aL_tE, an_tI, an_tL, an_qI, an_qL, an_tN, an_tE, ae_tI, ae_tL, ae_qI, ae_qL, ae_tN, ae_tE] <;> repeat (first | rw [if_neg (by omega)] | rw [if_pos (by omega)]))) (by unfold st; exact (by intros; first | with_reducible rfl | (simp only [gI_sI, gI_sL, gI_sR, gI_rI, gI_rL, gL_sI, gL_sL, gL_sR, gL_rI, gL_rL, gR_sI, gR_sL, gR_sR, gR_rI, gR_rL, aI_tI, aI_tL, aI_qI, aI_qL, aI_tN, aI_tE, aL_tI, aL_tL, aL_qI, aL_qL, aL_tN, aL_tE, an_tI, an_tL, an_qI, an_qL, an_tN, an_tE, ae_tI, ae_tL, ae_qI, ae_qL, ae_tN, ae_tE] <;> repeat (first | rw [if_neg (by omega)] | rw [if_pos (by omega)]))))
  · exact GS_cong h9 rfl (by intros; first | with_reducible rfl | (simp only [gI_sI, gI_sL, gI_sR, gI_rI, gI_rL, gL_sI, gL_sL, gL_sR, gL_rI, gL_rL, gR_sI, gR_sL, gR_sR, gR_rI, gR_rL, aI_tI, aI_tL, aI_qI, aI_qL, aI_tN, aI_tE, aL_tI, aL_tL, aL_qI, aL_qL, aL_tN, aL_tE, an_tI, an_tL, an_qI, an_qL, an_tN, an_tE, ae_tI, ae_tL, ae_qI, ae_qL, ae_tN, ae_tE] <;> repeat (first | rw [if_neg (by omega)] | rw [if_pos (by omega)]))) (by unfold st; exact (by intros; first | with_reducible rfl | (simp only [gI_sI, gI_sL, gI_sR, gI_rI, gI_rL, gL_sI, gL_sL, gL_sR, gL_rI, gL_rL, gR_sI, gR_sL, gR_sR, gR_rI, gR_rL, aI_tI, aI_tL, aI_qI, aI_qL, aI_tN, aI_tE, aL_tI, aL_tL, aL_qI, aL_qL, aL_tN, aL_tE, an_tI, an_tL, an_qI, an_qL, an_tN, an_tE, ae_tI, ae_tL, ae_qI, ae_qL, ae_tN, ae_tE] <;> repeat (first | rw [if_neg (by omega)] | rw [if_pos (by omega)]))))
theorem MR_st {u : Mm} {A : Ab} (v : Int32) (h : MR u A) : MR (sI u 33 0 v) (st A v) := by
  obtain ⟨h1, h2, h3, h4, h5, h6, h7, h8⟩ := h
  refine ⟨RM_cong h1 (fun _ => rfl), h2, h3, rfl, h5, ?_, ?_, ?_⟩
  · exact HT_cong h6 rfl (by intros; first | with_reducible rfl | (simp only [gI_sI, gI_sL, gI_sR, gI_rI, gI_rL, gL_sI, gL_sL, gL_sR, gL_rI, gL_rL, gR_sI, gR_sL, gR_sR, gR_rI, gR_rL, aI_tI, aI_tL, aI_qI, aI_qL, aI_tN, aI_tE, aL_tI, aL_tL, aL_qI, aL_qL, aL_tN, aL_tE, an_tI, an_tL, an_qI, an_qL, an_tN, an_tE, ae_tI, ae_tL, ae_qI, ae_qL, ae_tN, ae_tE] <;> repeat (first | rw [if_neg (by omega)] | rw [if_pos (by omega)]))) (by unfold st; exact (by intros; first | with_reducible rfl | (simp only [gI_sI, gI_sL, gI_sR, gI_rI, gI_rL, gL_sI, gL_sL, gL_sR, gL_rI, gL_rL, gR_sI, gR_sL, gR_sR, gR_rI, gR_rL, aI_tI, aI_tL, aI_qI, aI_qL, aI_tN, aI_tE, aL_tI, aL_tL, aL_qI, aL_qL, aL_tN, aL_tE, an_tI, an_tL, an_qI, an_qL, an_tN, an_tE, ae_tI, ae_tL, ae_qI, ae_qL, ae_tN, ae_tE] <;> repeat (first | rw [if_neg (by omega)] | rw [if_pos (by omega)]))))
  · exact HY_cong h7 (by intros; first | with_reducible rfl | (simp only [gI_sI, gI_sL, gI_sR, gI_rI, gI_rL, gL_sI, gL_sL, gL_sR, gL_rI, gL_rL, gR_sI, gR_sL, gR_sR, gR_rI, gR_rL, aI_tI, aI_tL, aI_qI, aI_qL, aI_tN, aI_tE, aL_tI, aL_tL, aL_qI, aL_qL, aL_tN, aL_tE, an_tI, an_tL, an_qI, an_qL, an_tN, an_tE, ae_tI, ae_tL, ae_qI, ae_qL, ae_tN, ae_tE] <;> repeat (first | rw [if_neg (by omega)] | rw [if_pos (by omega)]))) (fun _ => rfl) (by unfold st; exact (by intros; first | with_reducible rfl | (simp only [gI_sI, gI_sL, gI_sR, gI_rI, gI_rL, gL_sI, gL_sL, gL_sR, gL_rI, gL_rL, gR_sI, gR_sL, gR_sR, gR_rI, gR_rL, aI_tI, aI_tL, aI_qI, aI_qL, aI_tN, aI_tE, aL_tI, aL_tL, aL_qI, aL_qL, aL_tN, aL_tE, an_tI, an_tL, an_qI, an_qL, an_tN, an_tE, ae_tI, ae_tL, ae_qI, ae_qL, ae_tN, ae_tE] <;> repeat (first | rw [if_neg (by omega)] | rw [if_pos (by omega)])))) (fun _ => rfl)
  · exact HL_cong h8 rfl rfl (by intros; first | with_reducible rfl | (simp only [gI_sI, gI_sL, gI_sR, gI_rI, gI_rL, gL_sI, gL_sL, gL_sR, gL_rI, gL_rL, gR_sI, gR_sL, gR_sR, gR_rI, gR_rL, aI_tI, aI_tL, aI_qI, aI_qL, aI_tN, aI_tE, aL_tI, aL_tL, aL_qI, aL_qL, aL_tN, aL_tE, an_tI, an_tL, an_qI, an_qL, an_tN, an_tE, ae_tI, ae_tL, ae_qI, ae_qL, ae_tN, ae_tE] <;> repeat (first | rw [if_neg (by omega)] | rw [if_pos (by omega)]))) (by unfold st; exact (by intros; first | with_reducible rfl | (simp only [gI_sI, gI_sL, gI_sR, gI_rI, gI_rL, gL_sI, gL_sL, gL_sR, gL_rI, gL_rL, gR_sI, gR_sL, gR_sR, gR_rI, gR_rL, aI_tI, aI_tL, aI_qI, aI_qL, aI_tN, aI_tE, aL_tI, aL_tL, aL_qI, aL_qL, aL_tN, aL_tE, an_tI, an_tL, an_qI, an_qL, an_tN, an_tE, ae_tI, ae_tL, ae_qI, ae_qL, ae_tN, ae_tE] <;> repeat (first | rw [if_neg (by omega)] | rw [if_pos (by omega)]))))
theorem MR_th {u : Mm} {A : Ab} (v : Int32) (h : MR u A) : MR (sI u 33 1 v) A := by
  obtain ⟨h1, h2, h3, h4, h5, h6, h7, h8⟩ := h
  refine ⟨RM_cong h1 (fun _ => rfl), h2, h3, h4, h5, ?_, ?_, ?_⟩
  · exact HT_cong h6 rfl (by intros; first | with_reducible rfl | (simp only [gI_sI, gI_sL, gI_sR, gI_rI, gI_rL, gL_sI, gL_sL, gL_sR, gL_rI, gL_rL, gR_sI, gR_sL, gR_sR, gR_rI, gR_rL, aI_tI, aI_tL, aI_qI, aI_qL, aI_tN, aI_tE, aL_tI, aL_tL, aL_qI, aL_qL, aL_tN, aL_tE, an_tI, an_tL, an_qI, an_qL, an_tN, an_tE, ae_tI, ae_tL, ae_qI, ae_qL, ae_tN, ae_tE] <;> repeat (first | rw [if_neg (by omega)] | rw [if_pos (by omega)]))) (fun _ _ _ _ => rfl)
  · exact HY_cong h7 (by intros; first | with_reducible rfl | (simp only [gI_sI, gI_sL, gI_sR, gI_rI, gI_rL, gL_sI, gL_sL, gL_sR, gL_rI, gL_rL, gR_sI, gR_sL, gR_sR, gR_rI, gR_rL, aI_tI, aI_tL, aI_qI, aI_qL, aI_tN, aI_tE, aL_tI, aL_tL, aL_qI, aL_qL, aL_tN, aL_tE, an_tI, an_tL, an_qI, an_qL, an_tN, an_tE, ae_tI, ae_tL, ae_qI, ae_qL, ae_tN, ae_tE] <;> repeat (first | rw [if_neg (by omega)] | rw [if_pos (by omega)]))) (fun _ => rfl) (fun _ _ _ _ => rfl) (fun _ => rfl)
  · exact HL_cong h8 rfl rfl (by intros; first | with_reducible rfl | (simp only [gI_sI, gI_sL, gI_sR, gI_rI, gI_rL, gL_sI, gL_sL, gL_sR, gL_rI, gL_rL, gR_sI, gR_sL, gR_sR, gR_rI, gR_rL, aI_tI, aI_tL, aI_qI, aI_qL, aI_tN, aI_tE, aL_tI, aL_tL, aL_qI, aL_qL, aL_tN, aL_tE, an_tI, an_tL, an_qI, an_qL, an_tN, an_tE, ae_tI, ae_tL, ae_qI, ae_qL, ae_tN, ae_tE] <;> repeat (first | rw [if_neg (by omega)] | rw [if_pos (by omega)]))) (fun _ _ _ _ => rfl)
theorem Wf_st {A : Ab} (v : Int32) (h : Wf A) : Wf (st A v) := by
  obtain ⟨h1, h2, h3, h4, h5, h6⟩ := h
  refine ⟨?_, ?_, ?_, ?_, ?_, ?_⟩
  · exact WT_cong h1 rfl (by unfold st; exact (by intros; first | with_reducible rfl | (simp only [gI_sI, gI_sL, gI_sR, gI_rI, gI_rL, gL_sI, gL_sL, gL_sR, gL_rI, gL_rL, gR_sI, gR_sL, gR_sR, gR_rI, gR_rL, aI_tI, aI_tL, aI_qI, aI_qL, aI_tN, aI_tE, aL_tI, aL_tL, aL_qI, aL_qL, aL_tN, aL_tE, an_tI, an_tL, an_qI, an_qL, an_tN, an_tE, ae_tI, ae_tL, ae_qI, ae_qL, ae_tN, ae_tE] <;> repeat (first | rw [if_neg (by omega)] | rw [if_pos (by omega)]))))
  · exact WD_cong h2 rfl (by unfold st; exact (by intros; first | with_reducible rfl | (simp only [gI_sI, gI_sL, gI_sR, gI_rI, gI_rL, gL_sI, gL_sL, gL_sR, gL_rI, gL_rL, gR_sI, gR_sL, gR_sR, gR_rI, gR_rL, aI_tI, aI_tL, aI_qI, aI_qL, aI_tN, aI_tE, aL_tI, aL_tL, aL_qI, aL_qL, aL_tN, aL_tE, an_tI, an_tL, an_qI, an_qL, an_tN, an_tE, ae_tI, ae_tL, ae_qI, ae_qL, ae_tN, ae_tE] <;> repeat (first | rw [if_neg (by omega)] | rw [if_pos (by omega)]))))
  · exact WD_cong h3 rfl (by unfold st; exact (by intros; first | with_reducible rfl | (simp only [gI_sI, gI_sL, gI_sR, gI_rI, gI_rL, gL_sI, gL_sL, gL_sR, gL_rI, gL_rL, gR_sI, gR_sL, gR_sR, gR_rI, gR_rL, aI_tI, aI_tL, aI_qI, aI_qL, aI_tN, aI_tE, aL_tI, aL_tL, aL_qI, aL_qL, aL_tN, aL_tE, an_tI, an_tL, an_qI, an_qL, an_tN, an_tE, ae_tI, ae_tL, ae_qI, ae_qL, ae_tN, ae_tE] <;> repeat (first | rw [if_neg (by omega)] | rw [if_pos (by omega)]))))
  · exact WD_cong h4 rfl (by unfold st; exact (by intros; first | with_reducible rfl | (simp only [gI_sI, gI_sL, gI_sR, gI_rI, gI_rL, gL_sI, gL_sL, gL_sR, gL_rI, gL_rL, gR_sI, gR_sL, gR_sR, gR_rI, gR_rL, aI_tI, aI_tL, aI_qI, aI_qL, aI_tN, aI_tE, aL_tI, aL_tL, aL_qI, aL_qL, aL_tN, aL_tE, an_tI, an_tL, an_qI, an_qL, an_tN, an_tE, ae_tI, ae_tL, ae_qI, ae_qL, ae_tN, ae_tE] <;> repeat (first | rw [if_neg (by omega)] | rw [if_pos (by omega)]))))
  · exact WY_cong h5 (by unfold st; exact (by intros; first | with_reducible rfl | (simp only [gI_sI, gI_sL, gI_sR, gI_rI, gI_rL, gL_sI, gL_sL, gL_sR, gL_rI, gL_rL, gR_sI, gR_sL, gR_sR, gR_rI, gR_rL, aI_tI, aI_tL, aI_qI, aI_qL, aI_tN, aI_tE, aL_tI, aL_tL, aL_qI, aL_qL, aL_tN, aL_tE, an_tI, an_tL, an_qI, an_qL, an_tN, an_tE, ae_tI, ae_tL, ae_qI, ae_qL, ae_tN, ae_tE] <;> repeat (first | rw [if_neg (by omega)] | rw [if_pos (by omega)]))))
  · exact WL_cong h6 rfl (by unfold st; exact (by intros; first | with_reducible rfl | (simp only [gI_sI, gI_sL, gI_sR, gI_rI, gI_rL, gL_sI, gL_sL, gL_sR, gL_rI, gL_rL, gR_sI, gR_sL, gR_sR, gR_rI, gR_rL, aI_tI, aI_tL, aI_qI, aI_qL, aI_tN, aI_tE, aL_tI, aL_tL, aL_qI, aL_qL, aL_tN, aL_tE, an_tI, an_tL, an_qI, an_qL, an_tN, an_tE, ae_tI, ae_tL, ae_qI, ae_qL, ae_tN, ae_tE] <;> repeat (first | rw [if_neg (by omega)] | rw [if_pos (by omega)]))))
theorem st_st (A : Ab) (a b : Int32) : st (st A a) b = st A b := by
  unfold st tI
  simp only [Prod.mk.injEq, true_and, and_true]
  funext r k
  simp only [up2]
  split <;> rfl
theorem keepM.rf {u : Mm} : keepM u u := ⟨Nat.le_refl _, fun _ _ _ => ⟨fun _ => rfl, fun _ => rfl, fun _ => rfl⟩⟩
theorem keepC.rf {u : Mm} : keepC u u := ⟨rfl, fun _ _ => ⟨fun _ => rfl, fun _ => rfl, fun _ => rfl⟩⟩
theorem keepM.sI {u v : Mm} {r k : Nat} {x : Int32} (h : keepM u v) (hr : r < 33 ∨ 60 ≤ r) : keepM u (sI v r k x) := ⟨h.1, fun a h1 h2 => ⟨fun j => by rw [gI_sI, if_neg (by omega)]; exact (h.2 a h1 h2).1 j, (h.2 a h1 h2).2⟩⟩
theorem keepM.sL {u v : Mm} {r k : Nat} {x : Int64} (h : keepM u v) (hr : r < 33 ∨ 60 ≤ r) : keepM u (sL v r k x) := ⟨h.1, fun a h1 h2 => ⟨(h.2 a h1 h2).1, fun j => by rw [gL_sL, if_neg (by omega)]; exact (h.2 a h1 h2).2.1 j, (h.2 a h1 h2).2.2⟩⟩
theorem keepM.sR {u v : Mm} {r k : Nat} {x : Option Nat} (h : keepM u v) (hr : r < 33 ∨ 60 ≤ r) : keepM u (sR v r k x) := ⟨h.1, fun a h1 h2 => ⟨(h.2 a h1 h2).1, (h.2 a h1 h2).2.1, fun j => by rw [gR_sR, if_neg (by omega)]; exact (h.2 a h1 h2).2.2 j⟩⟩
theorem keepM.rI {u v : Mm} {r : Nat} {g : Nat → Int32} (h : keepM u v) (hr : r < 33 ∨ 60 ≤ r) : keepM u (rI v r g) := ⟨h.1, fun a h1 h2 => ⟨fun j => by rw [gI_rI, if_neg (by omega)]; exact (h.2 a h1 h2).1 j, (h.2 a h1 h2).2⟩⟩
theorem keepM.rL {u v : Mm} {r : Nat} {g : Nat → Int64} (h : keepM u v) (hr : r < 33 ∨ 60 ≤ r) : keepM u (rL v r g) := ⟨h.1, fun a h1 h2 => ⟨(h.2 a h1 h2).1, fun j => by rw [gL_rL, if_neg (by omega)]; exact (h.2 a h1 h2).2.1 j, (h.2 a h1 h2).2.2⟩⟩
theorem keepM.nw {u v : Mm} (h : keepM u v) (hv : 60 ≤ v.1) : keepM u (nw v) := ⟨Nat.le_succ_of_le h.1, fun a h1 h2 => ⟨fun j => by show (if a = v.1 then _ else _) = _; rw [if_neg (by omega)]; exact (h.2 a h1 h2).1 j, fun j => by show (if a = v.1 then _ else _) = _; rw [if_neg (by omega)]; exact (h.2 a h1 h2).2.1 j, fun j => by show (if a = v.1 then _ else _) = _; rw [if_neg (by omega)]; exact (h.2 a h1 h2).2.2 j⟩⟩
theorem keepC.sI {u v : Mm} {r k : Nat} {x : Int32} (h : keepC u v) (hr : 33 ≤ r ∧ r < 60) : keepC u (sI v r k x) := ⟨h.1, fun a h1 => ⟨fun j => by rw [gI_sI, if_neg (by omega)]; exact (h.2 a h1).1 j, (h.2 a h1).2⟩⟩
theorem keepC.sL {u v : Mm} {r k : Nat} {x : Int64} (h : keepC u v) (hr : 33 ≤ r ∧ r < 60) : keepC u (sL v r k x) := ⟨h.1, fun a h1 => ⟨(h.2 a h1).1, fun j => by rw [gL_sL, if_neg (by omega)]; exact (h.2 a h1).2.1 j, (h.2 a h1).2.2⟩⟩
theorem keepM.trans {u v w : Mm} (h : keepM u v) (h2 : keepM v w) : keepM u w := ⟨Nat.le_trans h.1 h2.1, fun a p q => ⟨fun j => ((h2.2 a p q).1 j).trans ((h.2 a p q).1 j), fun j => ((h2.2 a p q).2.1 j).trans ((h.2 a p q).2.1 j), fun j => ((h2.2 a p q).2.2 j).trans ((h.2 a p q).2.2 j)⟩⟩
theorem keepC.trans {u v w : Mm} (h : keepC u v) (h2 : keepC v w) : keepC u w := ⟨h2.1.trans h.1, fun a p => ⟨fun j => ((h2.2 a p).1 j).trans ((h.2 a p).1 j), fun j => ((h2.2 a p).2.1 j).trans ((h.2 a p).2.1 j), fun j => ((h2.2 a p).2.2 j).trans ((h.2 a p).2.2 j)⟩⟩
theorem CR.keep {u v : Mm} {A : Ab} (h : CR u A) (k : keepC u v) : CR v A := by
  obtain ⟨h1, h2, h3, h4, h5, h6, h7, h8, h9⟩ := h
  obtain ⟨k0, k1⟩ := k
  refine ⟨RC_cong h1 (fun r j hr _ _ => (k1 r (by omega)).2.2 j), ⟨by rw [k0]; exact h2.1, by rw [(k1 2 (by omega)).1]; exact h2.2⟩, by rw [(k1 0 (by omega)).1]; exact h3, ⟨by rw [(k1 0 (by omega)).2.1]; exact h4.1, by rw [(k1 0 (by omega)).2.1]; exact h4.2⟩, ?_, ?_, ?_, ?_, ?_⟩
  · exact GT_cong h5 rfl (fun r j hr => (k1 r (by omega)).1 j) (fun r j hr => (k1 r (by omega)).2.2 j) (fun j => (k1 3 (by omega)).2.2 j) (fun _ _ _ _ => rfl)
  · exact GP_cong h6 rfl (fun i => (k1 _ (by omega)).1 _) (fun _ => rfl)
  · exact GY_cong h7 (fun r j _ _ => (k1 r (by omega)).1 j) (fun r j _ _ => (k1 r (by omega)).2.1 j) (fun _ _ _ _ => rfl) (fun _ => rfl)
  · exact GL_cong h8 rfl (fun r j _ _ => (k1 r (by omega)).1 j) (fun _ _ _ _ => rfl)
  · exact GS_cong h9 rfl (fun r j _ => (k1 r (by omega)).1 j) (fun _ _ _ _ => rfl)
theorem MR.keep {u v : Mm} {A : Ab} (h : MR u A) (k : keepM u v) : MR v A := by
  obtain ⟨h1, h2, h3, h4, h5, h6, h7, h8⟩ := h
  obtain ⟨k0, k1⟩ := k
  refine ⟨RM_cong h1 (fun j => (k1 33 (by omega) (by omega)).2.2 j), Nat.le_trans h2 k0, by rw [(k1 33 (by omega) (by omega)).1]; exact h3, by rw [(k1 33 (by omega) (by omega)).1]; exact h4, ⟨by rw [(k1 33 (by omega) (by omega)).2.1]; exact h5.1, by rw [(k1 33 (by omega) (by omega)).2.1]; exact h5.2⟩, ?_, ?_, ?_⟩
  · exact HT_cong h6 rfl (fun r j _ _ => (k1 r (by omega) (by omega)).1 j) (fun _ _ _ _ => rfl)
  · exact HY_cong h7 (fun r j _ _ => (k1 r (by omega) (by omega)).1 j) (fun j => (k1 36 (by omega) (by omega)).2.1 j) (fun _ _ _ _ => rfl) (fun _ => rfl)
  · exact HL_cong h8 rfl ((k1 33 (by omega) (by omega)).1 _) (fun r j _ _ => (k1 r (by omega) (by omega)).1 j) (fun _ _ _ _ => rfl)
/-- a call: the class answers and comes to its cells of A', the reference answers the same and comes to its cells of A' -/
theorem Inv.step {u1 u2 : Mm} {A' : Ab} (hW : Wf A') (h1 : CR u1 A') (h2 : MR u2 A') (k : keepC u1 u2) : Inv u2 := ⟨A', hW, h1.keep k, h2⟩
