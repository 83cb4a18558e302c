/-! NUMBER -/
/-- all but the class's scratch cells as they were -/
def scr (u v : Mm) : Prop := v.1 = u.1 ∧ (∀ r k, r ≠ 4 → gR v r k = gR u r k) ∧ (∀ r k, gL v r k = gL u r k) ∧ ∀ r k, r < 4 ∨ (6 ≤ r ∧ r ≤ 9) ∨ r = 12 ∨ r = 13 ∨ r = 17 ∨ 25 ≤ r → gI v r k = gI u r k
theorem scr.rf {u : Mm} : scr u u := ⟨rfl, fun _ _ _ => rfl, fun _ _ => rfl, fun _ _ _ => rfl⟩
theorem scr.trans {u v w : Mm} (h : scr u v) (h2 : scr v w) : scr u w := ⟨h2.1.trans h.1, fun r k hr => (h2.2.1 r k hr).trans (h.2.1 r k hr), fun r k => (h2.2.2.1 r k).trans (h.2.2.1 r k), fun r k hr => (h2.2.2.2 r k hr).trans (h.2.2.2 r k hr)⟩
theorem scr.sI {u v : Mm} {r k : Nat} {x : Int32} (h : scr u v) (hr : r = 4 ∨ r = 5 ∨ r = 10 ∨ r = 11 ∨ (14 ≤ r ∧ r ≤ 16) ∨ (18 ≤ r ∧ r ≤ 24)) : scr u (sI v r k x) := ⟨h.1, h.2.1, h.2.2.1, fun a j ha => by rw [gI_sI, if_neg (by omega)]; exact h.2.2.2 a j ha⟩
theorem scr.sR {u v : Mm} {k : Nat} {x : Option Nat} (h : scr u v) : scr u (sR v 4 k x) := ⟨h.1, fun a j ha => by rw [gR_sR, if_neg (by omega)]; exact h.2.1 a j ha, h.2.2.1, h.2.2.2⟩
theorem CR.scr {u v : Mm} {A : Ab} (hC : CR u A) (k : scr u v) : CR v A := by
  obtain ⟨h1, h2, h3, h4, h5, h6, h7, h8, h9⟩ := hC
  obtain ⟨k0, kR, kL, kI⟩ := k
  refine ⟨RC_cong h1 (fun r j _ _ h => kR r j h), ⟨by rw [k0]; exact h2.1, by rw [kI 2 1 (by omega)]; exact h2.2⟩, by rw [kI 0 5 (by omega)]; exact h3, ⟨by rw [kL]; exact h4.1, by rw [kL]; exact h4.2⟩, ?_, ?_, ?_, ?_, ?_⟩
  · exact GT_cong h5 rfl (fun r j hr => kI r j (by omega)) (fun r j hr => kR r j (by omega)) (fun j => kR 3 j (by omega)) (fun _ _ _ _ => rfl)
  · exact GP_cong h6 rfl (fun i => kI _ _ (by omega)) (fun _ => rfl)
  · exact GY_cong h7 (fun r j _ _ => kI r j (by omega)) (fun r j _ _ => kL r j) (fun _ _ _ _ => rfl) (fun _ => rfl)
  · exact GL_cong h8 rfl (fun r j _ _ => kI r j (by omega)) (fun _ _ _ _ => rfl)
  · exact GS_cong h9 rfl (fun r j _ => kI r j (by omega)) (fun _ _ _ _ => rfl)
theorem scr.keepM {u v : Mm} (h : scr u v) : keepM u v := ⟨Nat.le_of_eq h.1.symm, fun r h1 h2 => ⟨fun k => h.2.2.2 r k (by omega), fun k => h.2.2.1 r k, fun k => h.2.1 r k (by omega)⟩⟩
/-- t is in the line -/
theorem part_l {u : Mm} {A : Ab} (hW : Wf A) (hC : CR u A) {r t : Nat} {k : Option Nat → Option Int32} : ∀ x : Option Nat, (∀ i, x = some i → i < an A) → ∀ n, dpt x < n → L_X5_isPartOf_2 r (some (60 + 2 * t)) u k n (pC x) = k (if t ∈ lineO A x then some (60 + 2 * t) else none) := by
  refine line_ind hW ?_ ?_
  · intro n hn
    obtain ⟨n, rfl⟩ : ∃ a, n = a + 1 := ⟨n - 1, by omega⟩
    rw [if_neg (by simp [lineO])]
    rfl
  · intro i hi ih n hn
    obtain ⟨n, rfl⟩ : ∃ a, n = a + 1 := ⟨n - 1, by omega⟩
    have hd := dpt_par hW hi
    have hN := hC.2.1.1
    obtain ⟨-, -, -, t4, -⟩ := hC.2.2.2.2.1 i hi
    have e : lineO A (some i) = i :: lineO A (par A i) := line_eq hW hi
    rw [e]
    show L_X5_isPartOf_2 r (some (60 + 2 * t)) u k (n + 1) (some (60 + 2 * i)) = _
    rw [L_X5_isPartOf_2, cs_s]
    by_cases c : i = t
    · subst c
      rw [if_pos rfl, if_pos (by simp)]
    · rw [if_neg (fun q => c (by have := Option.some.inj q; omega)), oT (by omega), gd_t, bb_e, t4, ih n (by omega)]
      have : (t ∈ i :: lineO A (par A i)) ↔ t ∈ lineO A (par A i) := by
        rw [List.mem_cons]
        exact ⟨fun h => h.resolve_left (fun q => c q.symm), Or.inr⟩
      simp only [this]
theorem part_t {u : Mm} {A : Ab} (hW : Wf A) (hC : CR u A) {i t : Nat} (hi : i < an A) : f_X5_isPartOf (60 + 2 * i) (some (60 + 2 * t)) u = some (b2i (decide (t ∈ line A i))) := by
  have h80 := hW.1.1
  have := part_l hW hC (r := 60 + 2 * i) (t := t) (k := fun a5 => cs a5 (some 0) (fun k6 => some 1)) (some i) (fun j h => by cases h; exact hi) 1000 (by simp only [dpt]; omega)
  rw [f_X5_isPartOf]
  refine this.trans ?_
  show cs (if t ∈ line A i then _ else _) _ _ = _
  by_cases c : t ∈ line A i
  · rw [if_pos c, cs_s]; simp [c, b2i]
  · rw [if_neg c, cs_n]; simp [c, b2i]
theorem part8_l {u : Mm} {A : Ab} (hW : Wf A) (hM : MR u A) {t : Nat} (ht : t < 2 ^ 31) {q : Int32} {k : Int32 → Option Int32} : ∀ x : Option Nat, (∀ i, x = some i → i < an A) → ∀ n, dpt x < n → L_X8_isPart_2 33 q (nI t) u k n (pI x) = k (if t ∈ lineO A x then nI t else -1) := by
  have h80 := hW.1.1
  refine line_ind hW ?_ ?_
  · intro n hn
    obtain ⟨n, rfl⟩ : ∃ a, n = a + 1 := ⟨n - 1, by omega⟩
    rw [if_neg (by simp [lineO]), L_X8_isPart_2, if_pos (by decide)]
    rfl
  · intro i hi ih n hn
    obtain ⟨n, rfl⟩ : ∃ a, n = a + 1 := ⟨n - 1, by omega⟩
    have hd := dpt_par hW hi
    obtain ⟨hRM, h60, -, -, -, hT, -⟩ := id hM
    have k2 := (hT.1 i hi).2.1
    have e : lineO A (some i) = i :: lineO A (par A i) := line_eq hW hi
    rw [e]
    show L_X8_isPart_2 33 q (nI t) u k (n + 1) (nI i) = _
    rw [L_X8_isPart_2, if_neg (nI_pos (by omega))]
    by_cases c : i = t
    · subst c
      rw [if_pos rfl, if_pos (by simp)]
    · rw [if_neg (by rw [nI_eq (by omega) ht]; exact c)]
      simp (disch := first | exact h60 | omega | with_unfolding_all exact h60) only [↓bb_e, ↓c_sI, ↓o_sI, ↓a_sI, ↓c_sL, ↓o_sL, ↓a_sL, ↓c_rI, ↓o_rI, ↓a_rI, ↓c_rL, ↓o_rL, ↓a_rL, ↓c_rngI, ↓o_rngI, ↓a_rngI, ↓c_rngL, ↓o_rngL, ↓a_rngL, ↓bd_s, ↓cs_s, ↓cs_n, ↓gd_t, ↓gB0, ↓gB1, ↓gOT, ↓gAS, ↓gOY, ↓gAY, ↓reduceIte, d10, nI_clamp, nI_1', i0eq, ↓gO33 h60, ↓gA34 h60, ↓gA35 h60, ↓gA36 h60, ↓gA37 h60, ↓gA38 h60, ↓gA39 h60, ↓gA40 h60, ↓gA41 h60, ↓gA42 h60, ↓gA43 h60, ↓gA44 h60, ↓gA45 h60, ↓gA46 h60, ↓gA47 h60, ↓gA48 h60, ↓gA49 h60, ↓gA50 h60, ↓gA51 h60, ↓gA52 h60, ↓gA53 h60, ↓gA54 h60, ↓gA55 h60, ↓gA56 h60, ↓gA57 h60, ↓gA58 h60, ↓gA59 h60, ↓cM_4 hRM, ↓cM_5 hRM, ↓cM_6 hRM, ↓cM_8 hRM, ↓cM_9 hRM, ↓cM_10 hRM, ↓cM_11 hRM, ↓cM_12 hRM, ↓cM_13 hRM, ↓cM_14 hRM, ↓cM_15 hRM, ↓cM_16 hRM, ↓cM_17 hRM, ↓cM_18 hRM, ↓cM_19 hRM, ↓cM_20 hRM, ↓cM_21 hRM, ↓cM_23 hRM, ↓cM_24 hRM, ↓cM_25 hRM, ↓cM_26 hRM, ↓cM_27 hRM, ↓cM_28 hRM, ↓cM_29 hRM, ↓cM_30 hRM, ↓cM_32 hRM, ↓bno8, ↓brf8, k2, par_pI hW hi]
      rw [ih n (by omega)]
      have : (t ∈ i :: lineO A (par A i)) ↔ t ∈ lineO A (par A i) := by
        rw [List.mem_cons]
        exact ⟨fun h => h.resolve_left (fun q => c q.symm), Or.inr⟩
      simp only [this]
theorem part8_t {u : Mm} {A : Ab} (hW : Wf A) (hM : MR u A) {i t : Nat} (hi : i < an A) (ht : t < 2 ^ 31) : f_X8_isPart 33 (nI i) (nI t) u = some (b2i (decide (t ∈ line A i))) := by
  have h80 := hW.1.1
  have := part8_l hW hM (t := t) ht (q := nI i) (k := fun a8 => (if a8 = nI t then some 1 else some 0)) (some i) (fun j h => by cases h; exact hi) 1000 (by simp only [dpt]; omega)
  rw [f_X8_isPart]
  refine this.trans ?_
  show (if (if t ∈ line A i then nI t else -1) = nI t then _ else _) = _
  by_cases c : t ∈ line A i
  · rw [if_pos c, if_pos rfl]; simp [c, b2i]
  · rw [if_neg c, if_neg (by rw [i_eq, li_m1, nI_toInt ht]; omega)]; simp [c, b2i]
/-- a part of t that is seen -/
def V (A : Ab) (t : Nat) (p d : Int32) (j : Nat) : Bool := decide (t ∈ line A j) && seen A p d (line A j)
def VL (A : Ab) (t : Nat) (p d l : Int32) (j : Nat) : Bool := decide (aI A 37 j = l) && V A t p d j
theorem ps_t {u : Mm} {A : Ab} (hW : Wf A) (hC : CR u A) {i t : Nat} (hi : i < an A) (l p d : Int32) : f_X0_isPartSeen (some (60 + 2 * i)) (some (60 + 2 * t)) l p d u = some (b2i (VL A t p d l i)) := by
  have hn := hC.2.1.1
  obtain ⟨-, -, t3, -⟩ := hC.2.2.2.2.1 i hi
  rw [f_X0_isPartSeen, cs_s, oT (by omega), gd_t, t3, part_t hW hC hi, bd_s, isSeen_t hW hC hi, bd_s]
  unfold VL V
  by_cases c : aI A 37 i = l
  · rw [if_pos c]
    by_cases c2 : t ∈ line A i
    · cases c3 : seen A p d (line A i) <;> simp [c, c2, b2i]
    · simp [c2, b2i]
  · rw [if_neg c]
    simp [c, b2i]
theorem pts_l {u : Mm} {A : Ab} (hW : Wf A) (hC : CR u A) {t : Nat} {l p d' : Int32} {k : Int32 → Int32 → Option Int32} : ∀ (d n j c : Nat), j + d = an A → d < n → L_X0_partsSeen_6 2 (some (60 + 2 * t)) l p d' u k n (nI c) (nI j) = k (nI (c + cf (VL A t p d' l) j d)) (nI (an A)) := by
  have h80 := hW.1.1
  obtain ⟨hRC, hN, -, -, hT, -⟩ := id hC
  have hn := hN.1
  have h60 : 60 ≤ u.1 := by omega
  intro d
  induction d with
  | zero =>
    intro n j c h1 h2
    obtain ⟨n, rfl⟩ : ∃ m, n = m + 1 := ⟨n - 1, by omega⟩
    have e : j = an A := by omega
    subst e
    rw [L_X0_partsSeen_6, oO2 h60, gd_t, hN.2, if_pos (nI_le (Nat.le_refl _) (by omega))]
    rfl
  | succ d ih =>
    intro n j c h1 h2
    obtain ⟨n, rfl⟩ : ∃ m, n = m + 1 := ⟨n - 1, by omega⟩
    obtain ⟨t1, -⟩ := hT j (by omega)
    have hp := ps_t hW hC (t := t) (show j < an A by omega) l p d'
    have hnl : ¬ nI (an A) ≤ nI j := nI_ge (by omega) (by omega)
    have h7 := hN.2
    have e : f_X0_isPartSeen (gR u 3 j) (some (60 + 2 * t)) l p d' u = some (b2i (VL A t p d' l j)) := by rw [t1]; exact hp
    cases hv : VL A t p d' l j with
    | true =>
      rw [hv, b2i_t] at e
      simp (disch := first | exact h60 | omega | with_unfolding_all exact h60) only [L_X0_partsSeen_6, h7, eq_false hnl, ↓bd_of e, ↓bb_e, ↓c_sI, ↓o_sI, ↓a_sI, ↓c_sL, ↓o_sL, ↓a_sL, ↓c_rI, ↓o_rI, ↓a_rI, ↓c_rL, ↓o_rL, ↓a_rL, ↓c_rngI, ↓o_rngI, ↓a_rngI, ↓c_rngL, ↓o_rngL, ↓a_rngL, ↓bd_s, ↓cs_s, ↓cs_n, ↓gd_t, ↓gB0, ↓gB1, ↓gOT, ↓gAS, ↓gOY, ↓gAY, ↓reduceIte, d10, nI_clamp, nI_1', i0eq, ↓gO0 h60, ↓gO2 h60, ↓gO6 h60, ↓gO10 h60, ↓gO11 h60, ↓gO14 h60, ↓gO21 h60, ↓gA1 h60, ↓gA3 h60, ↓gA4 h60, ↓gA5 h60, ↓gA7 h60, ↓gA8 h60, ↓gA9 h60, ↓gA12 h60, ↓gA13 h60, ↓gA15 h60, ↓gA16 h60, ↓gA17 h60, ↓gA18 h60, ↓gA19 h60, ↓gA20 h60, ↓gA22 h60, ↓gA23 h60, ↓gA24 h60, ↓cC_0_0 hRC, ↓cC_0_1 hRC, ↓cC_0_2 hRC, ↓cC_0_3 hRC, ↓cC_0_4 hRC, ↓cC_2_0 hRC, ↓cC_2_2 hRC, ↓cC_2_3 hRC, ↓cC_6_0 hRC, ↓cC_6_1 hRC, ↓cC_6_2 hRC, ↓cC_10_0 hRC, ↓cC_10_1 hRC, ↓cC_10_2 hRC, ↓cC_10_3 hRC, ↓cC_10_4 hRC, ↓cC_10_5 hRC, ↓cC_11_0 hRC, ↓cC_11_1 hRC, ↓cC_14_0 hRC, ↓cC_14_1 hRC, ↓cC_21_0 hRC, ↓cC_21_1 hRC, ↓cC_21_2 hRC, ↓bdn7, ↓brf7, ↓bgr7, ↓ban7]
      rw [ih n (j + 1) (c + 1) (by omega) (by omega), cf, if_pos hv]
      simp only [Nat.add_assoc]
    | false =>
      rw [hv, b2i_f] at e
      simp (disch := first | exact h60 | omega | with_unfolding_all exact h60) only [L_X0_partsSeen_6, h7, eq_false hnl, ↓bd_of e, ↓bb_e, ↓c_sI, ↓o_sI, ↓a_sI, ↓c_sL, ↓o_sL, ↓a_sL, ↓c_rI, ↓o_rI, ↓a_rI, ↓c_rL, ↓o_rL, ↓a_rL, ↓c_rngI, ↓o_rngI, ↓a_rngI, ↓c_rngL, ↓o_rngL, ↓a_rngL, ↓bd_s, ↓cs_s, ↓cs_n, ↓gd_t, ↓gB0, ↓gB1, ↓gOT, ↓gAS, ↓gOY, ↓gAY, ↓reduceIte, d10, nI_clamp, nI_1', i0eq, ↓gO0 h60, ↓gO2 h60, ↓gO6 h60, ↓gO10 h60, ↓gO11 h60, ↓gO14 h60, ↓gO21 h60, ↓gA1 h60, ↓gA3 h60, ↓gA4 h60, ↓gA5 h60, ↓gA7 h60, ↓gA8 h60, ↓gA9 h60, ↓gA12 h60, ↓gA13 h60, ↓gA15 h60, ↓gA16 h60, ↓gA17 h60, ↓gA18 h60, ↓gA19 h60, ↓gA20 h60, ↓gA22 h60, ↓gA23 h60, ↓gA24 h60, ↓cC_0_0 hRC, ↓cC_0_1 hRC, ↓cC_0_2 hRC, ↓cC_0_3 hRC, ↓cC_0_4 hRC, ↓cC_2_0 hRC, ↓cC_2_2 hRC, ↓cC_2_3 hRC, ↓cC_6_0 hRC, ↓cC_6_1 hRC, ↓cC_6_2 hRC, ↓cC_10_0 hRC, ↓cC_10_1 hRC, ↓cC_10_2 hRC, ↓cC_10_3 hRC, ↓cC_10_4 hRC, ↓cC_10_5 hRC, ↓cC_11_0 hRC, ↓cC_11_1 hRC, ↓cC_14_0 hRC, ↓cC_14_1 hRC, ↓cC_21_0 hRC, ↓cC_21_1 hRC, ↓cC_21_2 hRC, ↓bdn7, ↓brf7, ↓bgr7, ↓ban7]
      rw [ih n (j + 1) c (by omega) (by omega), cf, hv, if_neg (by decide), Nat.zero_add]
/-- sums -/
def sm (g : Nat → Nat) : Nat → Nat → Nat
  | _, 0 => 0
  | j, d + 1 => g j + sm g (j + 1) d
def m39 (A : Ab) (j : Nat) : Nat := (aI A 39 j).toInt.toNat
def uS (A : Ab) (t : Nat) (p d : Int32) (j : Nat) : Nat := if VL A t p d 2 j = true then m39 A j else 0
theorem unc_l {u : Mm} {A : Ab} (hW : Wf A) (hC : CR u A) {t : Nat} {p d' : Int32} {k : Int32 → Int32 → Option Int32} : ∀ (d n j c : Nat), j + d = an A → d < n → L_X0_uncataloguedSeen_6 2 (some (60 + 2 * t)) p d' u k n (nI c) (nI j) = k (nI (c + sm (uS A t p d') j d)) (nI (an A)) := by
  have h80 := hW.1.1
  obtain ⟨hRC, hN, -, -, hT, -⟩ := id hC
  have hn := hN.1
  have h60 : 60 ≤ u.1 := by omega
  intro d
  induction d with
  | zero =>
    intro n j c h1 h2
    obtain ⟨n, rfl⟩ : ∃ m, n = m + 1 := ⟨n - 1, by omega⟩
    have e : j = an A := by omega
    subst e
    rw [L_X0_uncataloguedSeen_6, oO2 h60, gd_t, hN.2, if_pos (nI_le (Nat.le_refl _) (by omega))]
    rfl
  | succ d ih =>
    intro n j c h1 h2
    obtain ⟨n, rfl⟩ : ∃ m, n = m + 1 := ⟨n - 1, by omega⟩
    have hj : j < an A := by omega
    obtain ⟨t1, -, -, -, -, -, -, t8, -⟩ := hT j hj
    have hp := ps_t hW hC (t := t) hj 2 p d'
    have hnl : ¬ nI (an A) ≤ nI j := nI_ge (by omega) (by omega)
    have h7 := hN.2
    have hr := (hW.1.2 j hj).2.2.1
    by_cases a1 : aI A 39 j = -1
    · have hm : uS A t p d' j = 0 := by unfold uS m39; rw [a1, li_m1]; simp
      simp (disch := first | exact h60 | omega | with_unfolding_all exact h60) only [L_X0_uncataloguedSeen_6, h7, eq_false hnl, ↓cs_of t1, t8, eq_true a1, ↓bb_e, ↓c_sI, ↓o_sI, ↓a_sI, ↓c_sL, ↓o_sL, ↓a_sL, ↓c_rI, ↓o_rI, ↓a_rI, ↓c_rL, ↓o_rL, ↓a_rL, ↓c_rngI, ↓o_rngI, ↓a_rngI, ↓c_rngL, ↓o_rngL, ↓a_rngL, ↓bd_s, ↓cs_s, ↓cs_n, ↓gd_t, ↓gB0, ↓gB1, ↓gOT, ↓gAS, ↓gOY, ↓gAY, ↓reduceIte, d10, nI_clamp, nI_1', i0eq, ↓gO0 h60, ↓gO2 h60, ↓gO6 h60, ↓gO10 h60, ↓gO11 h60, ↓gO14 h60, ↓gO21 h60, ↓gA1 h60, ↓gA3 h60, ↓gA4 h60, ↓gA5 h60, ↓gA7 h60, ↓gA8 h60, ↓gA9 h60, ↓gA12 h60, ↓gA13 h60, ↓gA15 h60, ↓gA16 h60, ↓gA17 h60, ↓gA18 h60, ↓gA19 h60, ↓gA20 h60, ↓gA22 h60, ↓gA23 h60, ↓gA24 h60, ↓cC_0_0 hRC, ↓cC_0_1 hRC, ↓cC_0_2 hRC, ↓cC_0_3 hRC, ↓cC_0_4 hRC, ↓cC_2_0 hRC, ↓cC_2_2 hRC, ↓cC_2_3 hRC, ↓cC_6_0 hRC, ↓cC_6_1 hRC, ↓cC_6_2 hRC, ↓cC_10_0 hRC, ↓cC_10_1 hRC, ↓cC_10_2 hRC, ↓cC_10_3 hRC, ↓cC_10_4 hRC, ↓cC_10_5 hRC, ↓cC_11_0 hRC, ↓cC_11_1 hRC, ↓cC_14_0 hRC, ↓cC_14_1 hRC, ↓cC_21_0 hRC, ↓cC_21_1 hRC, ↓cC_21_2 hRC, ↓bdn7, ↓brf7, ↓bgr7, ↓ban7]
      rw [ih n (j + 1) c (by omega) (by omega), sm, hm, Nat.zero_add]
    · have a2 := i_ne a1
      have hm : aI A 39 j = nI (m39 A j) := i_nI (by unfold m39; omega)
      cases hv : VL A t p d' 2 j with
      | true =>
        rw [hv, b2i_t] at hp
        simp (disch := first | exact h60 | omega | with_unfolding_all exact h60) only [L_X0_uncataloguedSeen_6, h7, eq_false hnl, ↓cs_of t1, t8, eq_false a1, ↓bd_of hp, ↓bb_e, ↓c_sI, ↓o_sI, ↓a_sI, ↓c_sL, ↓o_sL, ↓a_sL, ↓c_rI, ↓o_rI, ↓a_rI, ↓c_rL, ↓o_rL, ↓a_rL, ↓c_rngI, ↓o_rngI, ↓a_rngI, ↓c_rngL, ↓o_rngL, ↓a_rngL, ↓bd_s, ↓cs_s, ↓cs_n, ↓gd_t, ↓gB0, ↓gB1, ↓gOT, ↓gAS, ↓gOY, ↓gAY, ↓reduceIte, d10, nI_clamp, nI_1', i0eq, ↓gO0 h60, ↓gO2 h60, ↓gO6 h60, ↓gO10 h60, ↓gO11 h60, ↓gO14 h60, ↓gO21 h60, ↓gA1 h60, ↓gA3 h60, ↓gA4 h60, ↓gA5 h60, ↓gA7 h60, ↓gA8 h60, ↓gA9 h60, ↓gA12 h60, ↓gA13 h60, ↓gA15 h60, ↓gA16 h60, ↓gA17 h60, ↓gA18 h60, ↓gA19 h60, ↓gA20 h60, ↓gA22 h60, ↓gA23 h60, ↓gA24 h60, ↓cC_0_0 hRC, ↓cC_0_1 hRC, ↓cC_0_2 hRC, ↓cC_0_3 hRC, ↓cC_0_4 hRC, ↓cC_2_0 hRC, ↓cC_2_2 hRC, ↓cC_2_3 hRC, ↓cC_6_0 hRC, ↓cC_6_1 hRC, ↓cC_6_2 hRC, ↓cC_10_0 hRC, ↓cC_10_1 hRC, ↓cC_10_2 hRC, ↓cC_10_3 hRC, ↓cC_10_4 hRC, ↓cC_10_5 hRC, ↓cC_11_0 hRC, ↓cC_11_1 hRC, ↓cC_14_0 hRC, ↓cC_14_1 hRC, ↓cC_21_0 hRC, ↓cC_21_1 hRC, ↓cC_21_2 hRC, ↓bdn7, ↓brf7, ↓bgr7, ↓ban7]
        rw [hm, nI_add, ih n (j + 1) (c + m39 A j) (by omega) (by omega), sm, uS, if_pos hv]
        simp only [Nat.add_assoc]
      | false =>
        rw [hv, b2i_f] at hp
        simp (disch := first | exact h60 | omega | with_unfolding_all exact h60) only [L_X0_uncataloguedSeen_6, h7, eq_false hnl, ↓cs_of t1, t8, eq_false a1, ↓bd_of hp, ↓bb_e, ↓c_sI, ↓o_sI, ↓a_sI, ↓c_sL, ↓o_sL, ↓a_sL, ↓c_rI, ↓o_rI, ↓a_rI, ↓c_rL, ↓o_rL, ↓a_rL, ↓c_rngI, ↓o_rngI, ↓a_rngI, ↓c_rngL, ↓o_rngL, ↓a_rngL, ↓bd_s, ↓cs_s, ↓cs_n, ↓gd_t, ↓gB0, ↓gB1, ↓gOT, ↓gAS, ↓gOY, ↓gAY, ↓reduceIte, d10, nI_clamp, nI_1', i0eq, ↓gO0 h60, ↓gO2 h60, ↓gO6 h60, ↓gO10 h60, ↓gO11 h60, ↓gO14 h60, ↓gO21 h60, ↓gA1 h60, ↓gA3 h60, ↓gA4 h60, ↓gA5 h60, ↓gA7 h60, ↓gA8 h60, ↓gA9 h60, ↓gA12 h60, ↓gA13 h60, ↓gA15 h60, ↓gA16 h60, ↓gA17 h60, ↓gA18 h60, ↓gA19 h60, ↓gA20 h60, ↓gA22 h60, ↓gA23 h60, ↓gA24 h60, ↓cC_0_0 hRC, ↓cC_0_1 hRC, ↓cC_0_2 hRC, ↓cC_0_3 hRC, ↓cC_0_4 hRC, ↓cC_2_0 hRC, ↓cC_2_2 hRC, ↓cC_2_3 hRC, ↓cC_6_0 hRC, ↓cC_6_1 hRC, ↓cC_6_2 hRC, ↓cC_10_0 hRC, ↓cC_10_1 hRC, ↓cC_10_2 hRC, ↓cC_10_3 hRC, ↓cC_10_4 hRC, ↓cC_10_5 hRC, ↓cC_11_0 hRC, ↓cC_11_1 hRC, ↓cC_14_0 hRC, ↓cC_14_1 hRC, ↓cC_21_0 hRC, ↓cC_21_1 hRC, ↓cC_21_2 hRC, ↓bdn7, ↓brf7, ↓bgr7, ↓ban7]
        rw [ih n (j + 1) c (by omega) (by omega), sm, uS, hv, if_neg (by decide), Nat.zero_add]
theorem ex_snoc (P : Nat → Bool) : ∀ (d j : Nat), ex P j (d + 1) = (ex P j d || P (j + d))
  | 0, j => by simp [ex]
  | d + 1, j => by
    have := ex_snoc P d (j + 1)
    rw [ex, this, ex, show j + 1 + d = j + (d + 1) by omega, Bool.or_assoc]
/-- the first of its piece that is seen -/
def isFst (A : Ab) (t : Nat) (p d : Int32) (j : Nat) : Bool := !ex (fun i => VL A t p d 3 i && decide (aI A 40 i = aI A 40 j)) 0 j
def pS (A : Ab) (t : Nat) (p d : Int32) (j : Nat) : Bool := VL A t p d 3 j && isFst A t p d j
theorem clr_l {u : Mm} {A : Ab} (hW : Wf A) (hC : CR u A) {x : Option Nat} {p d' : Int32} {k : Int32 → Mm → Option (Int32 × Mm)} : ∀ (d n j : Nat), j + d = an A → d < n → ∀ v, scr u v → (∀ q, q < j → gI v 5 q = 0) → ∃ v', scr u v' ∧ (∀ q, q < an A → gI v' 5 q = 0) ∧ L_X0_piecesSeen_3 2 x p d' k n (nI j) v = k (nI (an A)) v' := by
  have h80 := hW.1.1
  intro d
  induction d with
  | zero =>
    intro n j h1 h2 v hs hz
    obtain ⟨n, rfl⟩ : ∃ m, n = m + 1 := ⟨n - 1, by omega⟩
    have e : j = an A := by omega
    subst e
    obtain ⟨hRC, hN, -⟩ := hC.scr hs
    have hn := hN.1
    have h60 : 60 ≤ v.1 := by omega
    refine ⟨v, hs, hz, ?_⟩
    rw [L_X0_piecesSeen_3, oO2 h60, gd_t, hN.2, if_pos (nI_le (Nat.le_refl _) (by omega))]
  | succ d ih =>
    intro n j h1 h2 v hs hz
    obtain ⟨n, rfl⟩ : ∃ m, n = m + 1 := ⟨n - 1, by omega⟩
    obtain ⟨hRC, hN, -⟩ := hC.scr hs
    have hn := hN.1
    have h60 : 60 ≤ v.1 := by omega
    have hnl : ¬ nI (an A) ≤ nI j := nI_ge (by omega) (by omega)
    have h7 := hN.2
    obtain ⟨v', a, b, c⟩ := ih n (j + 1) (by omega) (by omega) (sI v 5 j 0) (hs.sI (by omega)) (fun q hq => by
      rw [gI_sI]
      by_cases e : q = j
      · rw [if_pos ⟨rfl, e⟩]
      · rw [if_neg (by omega)]; exact hz q (by omega))
    refine ⟨v', a, b, ?_⟩
    rw [← c]
    simp (disch := first | exact h60 | omega | with_unfolding_all exact h60) only [L_X0_piecesSeen_3, h7, eq_false hnl, ↓bb_e, ↓c_sI, ↓o_sI, ↓a_sI, ↓c_sL, ↓o_sL, ↓a_sL, ↓c_rI, ↓o_rI, ↓a_rI, ↓c_rL, ↓o_rL, ↓a_rL, ↓c_rngI, ↓o_rngI, ↓a_rngI, ↓c_rngL, ↓o_rngL, ↓a_rngL, ↓bd_s, ↓cs_s, ↓cs_n, ↓gd_t, ↓gB0, ↓gB1, ↓gOT, ↓gAS, ↓gOY, ↓gAY, ↓reduceIte, d10, nI_clamp, nI_1', i0eq, ↓gO0 h60, ↓gO2 h60, ↓gO6 h60, ↓gO10 h60, ↓gO11 h60, ↓gO14 h60, ↓gO21 h60, ↓gA1 h60, ↓gA3 h60, ↓gA4 h60, ↓gA5 h60, ↓gA7 h60, ↓gA8 h60, ↓gA9 h60, ↓gA12 h60, ↓gA13 h60, ↓gA15 h60, ↓gA16 h60, ↓gA17 h60, ↓gA18 h60, ↓gA19 h60, ↓gA20 h60, ↓gA22 h60, ↓gA23 h60, ↓gA24 h60, ↓cC_0_0 hRC, ↓cC_0_1 hRC, ↓cC_0_2 hRC, ↓cC_0_3 hRC, ↓cC_0_4 hRC, ↓cC_2_0 hRC, ↓cC_2_2 hRC, ↓cC_2_3 hRC, ↓cC_6_0 hRC, ↓cC_6_1 hRC, ↓cC_6_2 hRC, ↓cC_10_0 hRC, ↓cC_10_1 hRC, ↓cC_10_2 hRC, ↓cC_10_3 hRC, ↓cC_10_4 hRC, ↓cC_10_5 hRC, ↓cC_11_0 hRC, ↓cC_11_1 hRC, ↓cC_14_0 hRC, ↓cC_14_1 hRC, ↓cC_21_0 hRC, ↓cC_21_1 hRC, ↓cC_21_2 hRC, ↓bdn7, ↓brf7, ↓bgr7, ↓ban7]
theorem pcs_l {u : Mm} {A : Ab} (hW : Wf A) (hC : CR u A) {t : Nat} {p d' : Int32} {k : Int32 → Int32 → Mm → Option (Int32 × Mm)} : ∀ (d n j c : Nat), j + d = an A → d < n → ∀ v, scr u v → (∀ q, q < an A → gI v 5 q = b2i (ex (fun i => VL A t p d' 3 i && decide (gI u (60 + 2 * i) 10 = nI q)) 0 j)) → ∃ v', scr u v' ∧ L_X0_piecesSeen_32 2 (some (60 + 2 * t)) p d' k n (nI c) (nI j) v = k (nI (c + cf (pS A t p d') j d)) (nI (an A)) v' := by
  have h80 := hW.1.1
  intro d
  induction d with
  | zero =>
    intro n j c h1 h2 v hs hz
    obtain ⟨n, rfl⟩ : ∃ m, n = m + 1 := ⟨n - 1, by omega⟩
    have e : j = an A := by omega
    subst e
    obtain ⟨hRC, hN, -⟩ := hC.scr hs
    have hn := hN.1
    have h60 : 60 ≤ v.1 := by omega
    refine ⟨v, hs, ?_⟩
    rw [L_X0_piecesSeen_32, oO2 h60, gd_t, hN.2, if_pos (nI_le (Nat.le_refl _) (by omega))]
    rfl
  | succ d ih =>
    intro n j c h1 h2 v hs hz
    obtain ⟨n, rfl⟩ : ∃ m, n = m + 1 := ⟨n - 1, by omega⟩
    have hj : j < an A := by omega
    have hC' := hC.scr hs
    obtain ⟨hRC, hN, -, -, hT, hPc, -⟩ := id hC'
    have hn := hN.1
    have h60 : 60 ≤ v.1 := by omega
    have hnl : ¬ nI (an A) ≤ nI j := nI_ge (by omega) (by omega)
    have h7 := hN.2
    obtain ⟨t1, -⟩ := hT j hj
    have e10 : ∀ i, gI v (60 + 2 * i) 10 = gI u (60 + 2 * i) 10 := fun i => hs.2.2.2 _ _ (by omega)
    have e : f_X0_isPartSeen (gR v 3 j) (some (60 + 2 * t)) 3 p d' v = some (b2i (VL A t p d' 3 j)) := by rw [t1]; exact ps_t hW hC' hj 3 p d'
    obtain ⟨q, hq, hq10⟩ := hC.2.2.2.2.2.1.1 j hj
    have hpq := hC.2.2.2.2.2.1.2
    cases hv : VL A t p d' 3 j with
    | true =>
      rw [hv, b2i_t] at e
      have hmet := hz q hq
      have hfst : isFst A t p d' j = !(ex (fun i => VL A t p d' 3 i && decide (gI u (60 + 2 * i) 10 = nI q)) 0 j) := by
        unfold isFst
        have : ∀ (m s : Nat), s + m = j → ex (fun i => VL A t p d' 3 i && decide (aI A 40 i = aI A 40 j)) s m = ex (fun i => VL A t p d' 3 i && decide (gI u (60 + 2 * i) 10 = nI q)) s m := by
          intro m
          induction m with
          | zero => intro s _; rfl
          | succ m ihm =>
            intro s hsm
            have := hpq s j (by omega) hj
            rw [hq10] at this
            rw [ex, ex, ihm (s + 1) (by omega)]
            by_cases c1 : aI A 40 s = aI A 40 j
            · simp only [c1, decide_true, this.mpr c1]
            · simp only [c1, decide_false, show ¬ gI u (60 + 2 * s) 10 = nI q from fun x => c1 (this.mp x)]
        rw [this j 0 (by omega)]
      cases hex : ex (fun i => VL A t p d' 3 i && decide (gI u (60 + 2 * i) 10 = nI q)) 0 j with
      | true =>
        rw [hex, b2i_t] at hmet
        rw [hex] at hfst
        obtain ⟨v', a, b⟩ := ih n (j + 1) c (by omega) (by omega) v hs (fun x hx => by
          rw [hz x hx, ex_snoc, Nat.zero_add]
          by_cases c1 : x = q
          · subst c1; rw [hex, Bool.true_or]
          · rw [hq10, show decide (nI q = nI x) = false from by rw [decide_eq_false_iff_not, nI_eq (by omega) (by omega)]; omega, Bool.and_false, Bool.or_false])
        refine ⟨v', a, ?_⟩
        rw [cf, show pS A t p d' j = false from by unfold pS; rw [hfst]; simp, if_neg (by decide), Nat.zero_add, ← b]
        simp (disch := first | exact h60 | omega | with_unfolding_all exact h60) only [L_X0_piecesSeen_32, h7, eq_false hnl, ↓bd_of e, ↓cs_of t1, e10, hq10, hmet, ↓bb_e, ↓c_sI, ↓o_sI, ↓a_sI, ↓c_sL, ↓o_sL, ↓a_sL, ↓c_rI, ↓o_rI, ↓a_rI, ↓c_rL, ↓o_rL, ↓a_rL, ↓c_rngI, ↓o_rngI, ↓a_rngI, ↓c_rngL, ↓o_rngL, ↓a_rngL, ↓bd_s, ↓cs_s, ↓cs_n, ↓gd_t, ↓gB0, ↓gB1, ↓gOT, ↓gAS, ↓gOY, ↓gAY, ↓reduceIte, d10, nI_clamp, nI_1', i0eq, ↓gO0 h60, ↓gO2 h60, ↓gO6 h60, ↓gO10 h60, ↓gO11 h60, ↓gO14 h60, ↓gO21 h60, ↓gA1 h60, ↓gA3 h60, ↓gA4 h60, ↓gA5 h60, ↓gA7 h60, ↓gA8 h60, ↓gA9 h60, ↓gA12 h60, ↓gA13 h60, ↓gA15 h60, ↓gA16 h60, ↓gA17 h60, ↓gA18 h60, ↓gA19 h60, ↓gA20 h60, ↓gA22 h60, ↓gA23 h60, ↓gA24 h60, ↓cC_0_0 hRC, ↓cC_0_1 hRC, ↓cC_0_2 hRC, ↓cC_0_3 hRC, ↓cC_0_4 hRC, ↓cC_2_0 hRC, ↓cC_2_2 hRC, ↓cC_2_3 hRC, ↓cC_6_0 hRC, ↓cC_6_1 hRC, ↓cC_6_2 hRC, ↓cC_10_0 hRC, ↓cC_10_1 hRC, ↓cC_10_2 hRC, ↓cC_10_3 hRC, ↓cC_10_4 hRC, ↓cC_10_5 hRC, ↓cC_11_0 hRC, ↓cC_11_1 hRC, ↓cC_14_0 hRC, ↓cC_14_1 hRC, ↓cC_21_0 hRC, ↓cC_21_1 hRC, ↓cC_21_2 hRC, ↓bdn7, ↓brf7, ↓bgr7, ↓ban7]
      | false =>
        rw [hex, b2i_f] at hmet
        rw [hex] at hfst
        obtain ⟨v', a, b⟩ := ih n (j + 1) (c + 1) (by omega) (by omega) (sI v 5 q 1) (hs.sI (by omega)) (fun x hx => by
          rw [gI_sI, ex_snoc, Nat.zero_add]
          by_cases c1 : x = q
          · subst c1; rw [if_pos ⟨rfl, rfl⟩, hv, hq10]; simp [b2i]
          · rw [if_neg (by omega), hz x hx, hq10, show decide (nI q = nI x) = false from by rw [decide_eq_false_iff_not, nI_eq (by omega) (by omega)]; omega, Bool.and_false, Bool.or_false])
        refine ⟨v', a, ?_⟩
        rw [cf, show pS A t p d' j = true from by unfold pS; rw [hfst, hv]; rfl, if_pos rfl, ← Nat.add_assoc, ← b]
        simp (disch := first | exact h60 | omega | with_unfolding_all exact h60) only [L_X0_piecesSeen_32, h7, eq_false hnl, ↓bd_of e, ↓cs_of t1, e10, hq10, hmet, ↓bb_e, ↓c_sI, ↓o_sI, ↓a_sI, ↓c_sL, ↓o_sL, ↓a_sL, ↓c_rI, ↓o_rI, ↓a_rI, ↓c_rL, ↓o_rL, ↓a_rL, ↓c_rngI, ↓o_rngI, ↓a_rngI, ↓c_rngL, ↓o_rngL, ↓a_rngL, ↓bd_s, ↓cs_s, ↓cs_n, ↓gd_t, ↓gB0, ↓gB1, ↓gOT, ↓gAS, ↓gOY, ↓gAY, ↓reduceIte, d10, nI_clamp, nI_1', i0eq, ↓gO0 h60, ↓gO2 h60, ↓gO6 h60, ↓gO10 h60, ↓gO11 h60, ↓gO14 h60, ↓gO21 h60, ↓gA1 h60, ↓gA3 h60, ↓gA4 h60, ↓gA5 h60, ↓gA7 h60, ↓gA8 h60, ↓gA9 h60, ↓gA12 h60, ↓gA13 h60, ↓gA15 h60, ↓gA16 h60, ↓gA17 h60, ↓gA18 h60, ↓gA19 h60, ↓gA20 h60, ↓gA22 h60, ↓gA23 h60, ↓gA24 h60, ↓cC_0_0 hRC, ↓cC_0_1 hRC, ↓cC_0_2 hRC, ↓cC_0_3 hRC, ↓cC_0_4 hRC, ↓cC_2_0 hRC, ↓cC_2_2 hRC, ↓cC_2_3 hRC, ↓cC_6_0 hRC, ↓cC_6_1 hRC, ↓cC_6_2 hRC, ↓cC_10_0 hRC, ↓cC_10_1 hRC, ↓cC_10_2 hRC, ↓cC_10_3 hRC, ↓cC_10_4 hRC, ↓cC_10_5 hRC, ↓cC_11_0 hRC, ↓cC_11_1 hRC, ↓cC_14_0 hRC, ↓cC_14_1 hRC, ↓cC_21_0 hRC, ↓cC_21_1 hRC, ↓cC_21_2 hRC, ↓bdn7, ↓brf7, ↓bgr7, ↓ban7]
    | false =>
      rw [hv, b2i_f] at e
      obtain ⟨v', a, b⟩ := ih n (j + 1) c (by omega) (by omega) v hs (fun x hx => by
        rw [hz x hx, ex_snoc, Nat.zero_add, hv, Bool.false_and, Bool.or_false])
      refine ⟨v', a, ?_⟩
      rw [cf, show pS A t p d' j = false from by unfold pS; rw [hv]; rfl, if_neg (by decide), Nat.zero_add, ← b]
      simp (disch := first | exact h60 | omega | with_unfolding_all exact h60) only [L_X0_piecesSeen_32, h7, eq_false hnl, ↓bd_of e, ↓bb_e, ↓c_sI, ↓o_sI, ↓a_sI, ↓c_sL, ↓o_sL, ↓a_sL, ↓c_rI, ↓o_rI, ↓a_rI, ↓c_rL, ↓o_rL, ↓a_rL, ↓c_rngI, ↓o_rngI, ↓a_rngI, ↓c_rngL, ↓o_rngL, ↓a_rngL, ↓bd_s, ↓cs_s, ↓cs_n, ↓gd_t, ↓gB0, ↓gB1, ↓gOT, ↓gAS, ↓gOY, ↓gAY, ↓reduceIte, d10, nI_clamp, nI_1', i0eq, ↓gO0 h60, ↓gO2 h60, ↓gO6 h60, ↓gO10 h60, ↓gO11 h60, ↓gO14 h60, ↓gO21 h60, ↓gA1 h60, ↓gA3 h60, ↓gA4 h60, ↓gA5 h60, ↓gA7 h60, ↓gA8 h60, ↓gA9 h60, ↓gA12 h60, ↓gA13 h60, ↓gA15 h60, ↓gA16 h60, ↓gA17 h60, ↓gA18 h60, ↓gA19 h60, ↓gA20 h60, ↓gA22 h60, ↓gA23 h60, ↓gA24 h60, ↓cC_0_0 hRC, ↓cC_0_1 hRC, ↓cC_0_2 hRC, ↓cC_0_3 hRC, ↓cC_0_4 hRC, ↓cC_2_0 hRC, ↓cC_2_2 hRC, ↓cC_2_3 hRC, ↓cC_6_0 hRC, ↓cC_6_1 hRC, ↓cC_6_2 hRC, ↓cC_10_0 hRC, ↓cC_10_1 hRC, ↓cC_10_2 hRC, ↓cC_10_3 hRC, ↓cC_10_4 hRC, ↓cC_10_5 hRC, ↓cC_11_0 hRC, ↓cC_11_1 hRC, ↓cC_14_0 hRC, ↓cC_14_1 hRC, ↓cC_21_0 hRC, ↓cC_21_1 hRC, ↓cC_21_2 hRC, ↓bdn7, ↓brf7, ↓bgr7, ↓ban7]
