theorem merge_iff {α β : Type} [DecidableEq α] [DecidableEq β] {ci cj ca cb : α} {mi mj ma mb lo hi : β} (h1 : ci = cj ↔ mi = mj) (h2 : ci = ca ↔ mi = ma) (h3 : ci = cb ↔ mi = mb) (h4 : cj = ca ↔ mj = ma) (h5 : cj = cb ↔ mj = mb) (hl : (lo = ma ∧ hi = mb) ∨ (lo = mb ∧ hi = ma)) :
    ((if ci = cb then ca else ci) = (if cj = cb then ca else cj)) ↔ ((if mi = hi then lo else mi) = (if mj = hi then lo else mj)) := by
  rcases hl with ⟨rfl, rfl⟩ | ⟨rfl, rfl⟩ <;> grind
/-- the things below j with piece b get piece a -/
def uni (u : Mm) (a b : Int32) (j : Nat) : Mm := (u.1, fun r k => if 60 ≤ r ∧ r % 2 = 0 ∧ r < 60 + 2 * j ∧ k = 10 ∧ u.2.1 r k = b then a else u.2.1 r k, u.2.2.1, u.2.2.2)
theorem gI_uni (u : Mm) (a b : Int32) (j r k : Nat) : gI (uni u a b j) r k = if 60 ≤ r ∧ r % 2 = 0 ∧ r < 60 + 2 * j ∧ k = 10 ∧ gI u r k = b then a else gI u r k := rfl
theorem uni_0 (u : Mm) (a b : Int32) : uni u a b 0 = u := by
  obtain ⟨n, i, l, q⟩ := u
  simp only [uni, Prod.mk.injEq, true_and, and_true]
  funext r k
  rw [if_neg (by omega)]
theorem uni_y (u : Mm) (a b : Int32) (j : Nat) (h : gI u (60 + 2 * j) 10 = b) : sI (uni u a b j) (60 + 2 * j) 10 a = uni u a b (j + 1) := by
  obtain ⟨n, i, l, q⟩ := u
  simp only [uni, sI, Prod.mk.injEq, true_and, and_true]
  funext r k
  simp only [up2]
  have h : i (60 + 2 * j) 10 = b := h
  by_cases c : r = 60 + 2 * j ∧ k = 10
  · obtain ⟨rfl, rfl⟩ := c
    rw [if_pos ⟨rfl, rfl⟩, if_pos ⟨by omega, by omega, by omega, rfl, h⟩]
  · rw [if_neg c]
    by_cases c2 : 60 ≤ r ∧ r % 2 = 0 ∧ r < 60 + 2 * j ∧ k = 10 ∧ i r k = b
    · rw [if_pos c2, if_pos ⟨c2.1, c2.2.1, by omega, c2.2.2.2⟩]
    · rw [if_neg c2, if_neg (fun q => c2 ⟨q.1, q.2.1, by omega, q.2.2.2⟩)]
theorem uni_n (u : Mm) (a b : Int32) (j : Nat) (h : gI u (60 + 2 * j) 10 ≠ b) : uni u a b j = uni u a b (j + 1) := by
  obtain ⟨n, i, l, q⟩ := u
  simp only [uni, Prod.mk.injEq, true_and, and_true]
  funext r k
  have h : i (60 + 2 * j) 10 ≠ b := h
  by_cases c : r = 60 + 2 * j ∧ k = 10
  · obtain ⟨rfl, rfl⟩ := c
    rw [if_neg (by omega), if_neg (fun q => h q.2.2.2.2)]
  · by_cases c2 : 60 ≤ r ∧ r % 2 = 0 ∧ r < 60 + 2 * j ∧ k = 10 ∧ i r k = b
    · rw [if_pos c2, if_pos ⟨c2.1, c2.2.1, by omega, c2.2.2.2⟩]
    · rw [if_neg c2, if_neg (fun q => c2 ⟨q.1, q.2.1, by omega, q.2.2.2⟩)]
theorem okO_uni (u : Mm) (a b : Int32) (j r c : Nat) : okO (uni u a b j) r c = okO u r c := rfl
theorem okA_uni (u : Mm) (a b : Int32) (j r c : Nat) (i : Int32) : okA (uni u a b j) r c i = okA u r c i := rfl
theorem gR_uni (u : Mm) (a b : Int32) (j r k : Nat) : gR (uni u a b j) r k = gR u r k := rfl
theorem uni_l {u : Mm} {A : Ab} (hW : Wf A) (hC : CR u A) {a b : Int32} : ∀ (d n j : Nat), j + d = an A → d < n → L_X0_unite_2 2 a b (fun _ w => some w) n (nI j) (uni u a b j) = some (uni u a b (an A)) := by
  have h80 := hW.1.1
  obtain ⟨hRC, hN, -, -, hT, -⟩ := id hC
  have hn := hN.1
  have h60 : 60 ≤ u.1 := by omega
  have hs : ∀ j, gI (uni u a b j) 2 1 = nI (an A) := fun j => by rw [gI_uni, if_neg (by omega)]; exact hN.2
  intro d
  induction d with
  | zero =>
    intro n j h1 h2
    obtain ⟨n, rfl⟩ : ∃ m, n = m + 1 := ⟨n - 1, by omega⟩
    have e : j = an A := by omega
    subst e
    rw [L_X0_unite_2, okO_uni, oO2 h60, gd_t, hs, if_pos (nI_le (Nat.le_refl _) (by omega))]
  | succ d ih =>
    intro n j h1 h2
    obtain ⟨n, rfl⟩ : ∃ m, n = m + 1 := ⟨n - 1, by omega⟩
    obtain ⟨t1, -⟩ := hT j (by omega)
    have ih := ih n (j + 1) (by omega) (by omega)
    have e : gI (uni u a b j) (60 + 2 * j) 10 = gI u (60 + 2 * j) 10 := by rw [gI_uni, if_neg (by omega)]
    rw [L_X0_unite_2, okO_uni, oO2 h60, gd_t, hs, if_neg (nI_ge (by omega) (by omega))]
    simp only [bb_e, gR_uni, rc_2_0 hRC, cs_s, gd_t, okA_uni, okO_uni, oA3 h60 (show j < 80 by omega), nI_clamp (show j < 2 ^ 31 by omega), t1, oT (show 60 + 2 * j < u.1 by omega), e, nI_1']
    by_cases c : gI u (60 + 2 * j) 10 = b
    · rw [if_pos c, uni_y u a b j c]; exact ih
    · rw [if_neg c, uni_n u a b j c]; exact ih
/-- the places below j of row 40 with b get a -/
def uniM (u : Mm) (a b : Int32) (j : Nat) : Mm := (u.1, fun r k => if r = 40 ∧ k < j ∧ u.2.1 r k = b then a else u.2.1 r k, u.2.2.1, u.2.2.2)
theorem gI_uniM (u : Mm) (a b : Int32) (j r k : Nat) : gI (uniM u a b j) r k = if r = 40 ∧ k < j ∧ gI u r k = b then a else gI u r k := rfl
theorem uniM_0 (u : Mm) (a b : Int32) : uniM u a b 0 = u := by
  obtain ⟨n, i, l, q⟩ := u
  simp only [uniM, Prod.mk.injEq, true_and, and_true]
  funext r k
  rw [if_neg (by omega)]
theorem uniM_y (u : Mm) (a b : Int32) (j : Nat) (h : gI u 40 j = b) : sI (uniM u a b j) 40 j a = uniM u a b (j + 1) := by
  obtain ⟨n, i, l, q⟩ := u
  simp only [uniM, sI, Prod.mk.injEq, true_and, and_true]
  funext r k
  simp only [up2]
  have h : i 40 j = b := h
  by_cases c : r = 40 ∧ k = j
  · obtain ⟨rfl, rfl⟩ := c
    rw [if_pos ⟨rfl, rfl⟩, if_pos ⟨rfl, by omega, h⟩]
  · rw [if_neg c]
    by_cases c2 : r = 40 ∧ k < j ∧ i r k = b
    · rw [if_pos c2, if_pos ⟨c2.1, by omega, c2.2.2⟩]
    · rw [if_neg c2, if_neg (fun q => c2 ⟨q.1, by omega, q.2.2⟩)]
theorem uniM_n (u : Mm) (a b : Int32) (j : Nat) (h : gI u 40 j ≠ b) : uniM u a b j = uniM u a b (j + 1) := by
  obtain ⟨n, i, l, q⟩ := u
  simp only [uniM, Prod.mk.injEq, true_and, and_true]
  funext r k
  have h : i 40 j ≠ b := h
  by_cases c : r = 40 ∧ k = j
  · obtain ⟨rfl, rfl⟩ := c
    rw [if_neg (by omega), if_neg (fun q => h q.2.2)]
  · by_cases c2 : r = 40 ∧ k < j ∧ i r k = b
    · rw [if_pos c2, if_pos ⟨c2.1, by omega, c2.2.2⟩]
    · rw [if_neg c2, if_neg (fun q => c2 ⟨q.1, by omega, q.2.2⟩)]
theorem okO_uniM (u : Mm) (a b : Int32) (j r c : Nat) : okO (uniM u a b j) r c = okO u r c := rfl
theorem okA_uniM (u : Mm) (a b : Int32) (j r c : Nat) (i : Int32) : okA (uniM u a b j) r c i = okA u r c i := rfl
theorem gR_uniM (u : Mm) (a b : Int32) (j r k : Nat) : gR (uniM u a b j) r k = gR u r k := rfl
theorem uniM_l {u : Mm} {A : Ab} (hW : Wf A) (hM : MR u A) {x y a b : Int32} : ∀ (d n j : Nat), j + d = an A → d < n → L_X8_join_128 33 x y a b (fun _ w => some (1, w)) n (nI j) (uniM u a b j) = some (1, uniM u a b (an A)) := by
  have h80 := hW.1.1
  obtain ⟨hRM, h60, h7, -⟩ := id hM
  have hs : ∀ j, gI (uniM u a b j) 33 7 = nI (an A) := fun j => by rw [gI_uniM, if_neg (by omega)]; exact h7
  intro d
  induction d with
  | zero =>
    intro n j h1 h2
    obtain ⟨n, rfl⟩ : ∃ m, n = m + 1 := ⟨n - 1, by omega⟩
    have e : j = an A := by omega
    subst e
    rw [L_X8_join_128, okO_uniM, oO33 h60, gd_t, hs, if_pos (nI_le (Nat.le_refl _) (by omega))]
  | succ d ih =>
    intro n j h1 h2
    obtain ⟨n, rfl⟩ : ∃ m, n = m + 1 := ⟨n - 1, by omega⟩
    have ih := ih n (j + 1) (by omega) (by omega)
    have e : gI (uniM u a b j) 40 j = gI u 40 j := by rw [gI_uniM, if_neg (by omega)]
    rw [L_X8_join_128, okO_uniM, oO33 h60, gd_t, hs, if_neg (nI_ge (by omega) (by omega))]
    simp only [bb_e, gR_uniM, rm_11 hRM, cs_s, gd_t, okA_uniM, oA40 h60 (show j < 80 by omega), nI_clamp (show j < 2 ^ 31 by omega), e, nI_1']
    by_cases c : gI u 40 j = b
    · rw [if_pos c, uniM_y u a b j c]; exact ih
    · rw [if_neg c, uniM_n u a b j c]; exact ih
abbrev jA (A : Ab) (lo hi : Int32) : Ab := qI A 40 (fun k => if aI A 40 k = hi then lo else aI A 40 k)
theorem CR_join {u : Mm} {A : Ab} (hC : CR u A) {i j : Nat} (hi : i < an A) (hj : j < an A) {lo up : Int32} (hl : (lo = aI A 40 i ∧ up = aI A 40 j) ∨ (lo = aI A 40 j ∧ up = aI A 40 i)) : CR (uni u (gI u (60 + 2 * i) 10) (gI u (60 + 2 * j) 10) (an A)) (jA A lo up) := by
  obtain ⟨c1, c2, c3, c4, c5, c6, c7, c8, c9⟩ := hC
  generalize ha : gI u (60 + 2 * i) 10 = a
  generalize hb : gI u (60 + 2 * j) 10 = b
  have hI : ∀ r k, k ≠ 10 ∨ r < 60 ∨ r % 2 = 1 → gI (uni u a b (an A)) r k = gI u r k := fun r k h => by rw [gI_uni, if_neg (by omega)]
  have hA : ∀ r k, r ≠ 40 → aI (jA A lo up) r k = aI A r k := fun r k h => by rw [aI_qI, if_neg h]
  have hp : ∀ t, t < an A → gI (uni u a b (an A)) (60 + 2 * t) 10 = if gI u (60 + 2 * t) 10 = b then a else gI u (60 + 2 * t) 10 := fun t ht => by
    rw [gI_uni]
    by_cases c : gI u (60 + 2 * t) 10 = b
    · rw [if_pos ⟨by omega, by omega, by omega, rfl, c⟩, if_pos c]
    · rw [if_neg (fun q => c q.2.2.2.2), if_neg c]
  refine ⟨RC_cong c1 (fun _ _ _ _ _ => rfl), ⟨c2.1, by rw [hI 2 1 (by omega)]; exact c2.2⟩, by rw [hI 0 5 (by omega), hA 33 0 (by omega)]; exact c3, c4, ?_, ⟨fun t ht => ?_, fun s t hs ht => ?_⟩, ?_, ?_, ?_⟩
  · intro t ht
    have q := c5 t ht
    have hpar : par (jA A lo up) t = par A t := by simp only [par, hA 38 t (by omega)]
    have hI61 : ∀ f, gI (uni u a b (an A)) (61 + 2 * t) f = gI u (61 + 2 * t) f := fun f => hI _ _ (by omega)
    unfold GT1 at q ⊢
    simp only [hpar, hI (60 + 2 * t) 0 (by omega), hI (60 + 2 * t) 1 (by omega), hI (60 + 2 * t) 4 (by omega), hI (60 + 2 * t) 5 (by omega), hI (60 + 2 * t) 6 (by omega), hI (60 + 2 * t) 7 (by omega), hI (60 + 2 * t) 8 (by omega), hI (60 + 2 * t) 9 (by omega), hI61, gR_uni, hA 37 _ (by omega), hA 39 _ (by omega), hA 41 _ (by omega), hA 42 _ (by omega), hA 43 _ (by omega), hA 44 _ (by omega), hA 45 _ (by omega), hA 46 _ (by omega)]
    exact q
  · have ht : t < an A := ht
    rw [hp t ht]
    split
    · rw [← ha]; exact c6.1 i hi
    · exact c6.1 t ht
  · have hs : s < an A := hs
    have ht : t < an A := ht
    rw [hp s hs, hp t ht, aI_qI, aI_qI, if_pos rfl, if_pos rfl]
    refine merge_iff (c6.2 s t hs ht) (ma := aI A 40 i) (mb := aI A 40 j) ?_ ?_ ?_ ?_ hl
    · rw [← ha]; exact c6.2 s i hs hi
    · rw [← hb]; exact c6.2 s j hs hj
    · rw [← ha]; exact c6.2 t i ht hi
    · rw [← hb]; exact c6.2 t j ht hj
  · exact GY_cong c7 (fun r k _ _ => hI r k (by omega)) (fun _ _ _ _ => rfl) (fun r k _ _ => hA r k (by omega)) (fun _ => rfl)
  · exact GL_cong c8 rfl (fun r k _ _ => hI r k (by omega)) (fun r k _ _ => hA r k (by omega))
  · exact GS_cong c9 rfl (fun r k _ => hI r k (by omega)) (fun r k _ _ => hA r k (by omega))
theorem MR_join {u : Mm} {A : Ab} (hM : MR u A) {lo up : Int32} : MR (uniM u lo up (an A)) (jA A lo up) := by
  obtain ⟨c1, c2, c3, c4, c5, c6, c7, c8⟩ := hM
  have hI : ∀ r k, r ≠ 40 → gI (uniM u lo up (an A)) r k = gI u r k := fun r k h => by rw [gI_uniM, if_neg (by omega)]
  have hA : ∀ r k, r ≠ 40 → aI (jA A lo up) r k = aI A r k := fun r k h => by rw [aI_qI, if_neg h]
  refine ⟨RM_cong c1 (fun _ => rfl), c2, by rw [hI 33 7 (by omega)]; exact c3, by rw [hI 33 0 (by omega), hA 33 0 (by omega)]; exact c4, c5, ⟨fun t ht => ?_, fun t h1 h2 => by rw [hI 45 t (by omega)]; exact c6.2 t h1 h2⟩, ?_, ?_⟩
  · have ht : t < an A := ht
    have q := c6.1 t ht
    unfold HT1 at q ⊢
    simp only [hI 37 _ (by omega), hI 38 _ (by omega), hI 39 _ (by omega), hI 41 _ (by omega), hI 42 _ (by omega), hI 43 _ (by omega), hI 44 _ (by omega), hI 45 _ (by omega), hI 46 _ (by omega), hI 47 _ (by omega), hI 48 _ (by omega), hA 37 _ (by omega), hA 38 _ (by omega), hA 39 _ (by omega), hA 41 _ (by omega), hA 42 _ (by omega), hA 43 _ (by omega), hA 44 _ (by omega), hA 45 _ (by omega), hA 46 _ (by omega), hA 47 _ (by omega), hA 48 _ (by omega)]
    obtain ⟨q1, q2, q3, q4, q5⟩ := q
    refine ⟨q1, q2, q3, ?_, q5⟩
    rw [gI_uniM, aI_qI, if_pos rfl, q4]
    by_cases c : aI A 40 t = up
    · rw [if_pos ⟨rfl, ht, c⟩, if_pos c]
    · rw [if_neg (fun q => c q.2.2), if_neg c]
  · exact HY_cong c7 (fun r k _ _ => hI r k (by omega)) (fun _ => rfl) (fun r k _ _ => hA r k (by omega)) (fun _ => rfl)
  · exact HL_cong c8 rfl (hI 33 22 (by omega)) (fun r k _ _ => hI r k (by omega)) (fun r k _ _ => hA r k (by omega))
theorem Wf_join {A : Ab} (hW : Wf A) {lo up : Nat} (h : lo ≤ up) (hu : up < 80) : Wf (jA A (nI lo) (nI up)) := by
  have hA : ∀ r k, r ≠ 40 → aI (jA A (nI lo) (nI up)) r k = aI A r k := fun r k h => by rw [aI_qI, if_neg h]
  obtain ⟨c1, c2, c3, c4, c5, c6⟩ := hW
  have h80 := c1.1
  refine ⟨⟨c1.1, fun t ht => ?_⟩, WD_cong c2 rfl (fun k => hA 46 k (by omega)), WD_cong c3 rfl (fun k => hA 47 k (by omega)), WD_cong c4 rfl (fun k => hA 48 k (by omega)), WY_cong c5 (fun r k _ _ => hA r k (by omega)), WL_cong c6 rfl (fun r k _ _ => hA r k (by omega))⟩
  have ht : t < an A := ht
  have q := c1.2 t ht
  unfold WT1 at q ⊢
  simp only [hA 37 _ (by omega), hA 38 _ (by omega), hA 39 _ (by omega), hA 41 _ (by omega), hA 42 _ (by omega), hA 43 _ (by omega), hA 44 _ (by omega), hA 46 _ (by omega), hA 47 _ (by omega), hA 48 _ (by omega)]
  obtain ⟨q1, q2, q3, ⟨z, hz, q4⟩, q5⟩ := q
  refine ⟨q1, q2, q3, ?_, q5⟩
  rw [aI_qI, if_pos rfl]
  by_cases c : aI A 40 t = nI up
  · rw [if_pos c]
    rw [c, nI_eq (by omega) (by omega)] at q4
    exact ⟨lo, by omega, rfl⟩
  · rw [if_neg c]
    exact ⟨z, hz, q4⟩
theorem jA_st (A : Ab) (c lo up : Int32) : jA (st A c) lo up = st (jA A lo up) c := by
  unfold jA
  simp only [aI_st (show 40 ≠ 33 by omega)]
  unfold st qI tI
  simp only [Prod.mk.injEq, true_and, and_true]
  funext r k
  simp only [upr, up2]
  by_cases h : r = 40
  · subst h; simp
  · simp [h]
theorem M_join {v : Mm} {A : Ab} (hW : Wf A) (h60 : 60 ≤ v.1) (hM : MR (m0 v) A) {i j : Nat} (hi : i < an A) (hj : j < an A) (e : i ≠ j) (g1 : aI A 37 i = 3) (g2 : aI A 37 j = 3) {x y lo up : Nat} (ex : aI A 40 i = nI x) (ey : aI A 40 j = nI y) (hx : x < 80) (hy : y < 80) (hlu : (lo = x ∧ up = y ∧ x < y) ∨ (lo = y ∧ up = x ∧ y < x)) : f_X8_join 33 (nI i) (nI j) v = some (1, uniM (m0 v) (nI lo) (nI up) (an A)) := by
  have h80 := hW.1.1
  rw [f_X8_join, oO33 h60, gd_t]
  unfold m0 at hM ⊢
  generalize sI (sI v 33 1 0) 33 0 0 = w at *
  clear h60
  have hun8 := uniM_l hW hM (x := nI i) (y := nI j) (a := nI lo) (b := nI up) (an A) 1000 0 (by omega) (by omega)
  rw [uniM_0, nI_0] at hun8
  have hb := mt_some hM hW hi
  have hb2 := mt_some hM hW hj
  obtain ⟨hRM, h60, -, -, -, hT, -⟩ := hM
  obtain ⟨k1, -, -, k4, -⟩ := hT.1 i hi
  obtain ⟨l1, -, -, l4, -⟩ := hT.1 j hj
  rw [g1] at k1
  rw [g2] at l1
  rw [ex] at k4
  rw [ey] at l4
  have n1 : ¬ nI i = nI j := by rw [nI_eq (by omega) (by omega)]; exact e
  have n2 : ¬ nI x = nI y := by rw [nI_eq (by omega) (by omega)]; omega
  have d0 : ¬ (1 : Int32) = 0 := by decide
  simp only [hb, hb2, bd_s, bb_e, cs_s, gd_t, rm_8 hRM, rm_11 hRM, oA37 h60 (show i < 80 by omega), oA37 h60 (show j < 80 by omega), oA40 h60 (show i < 80 by omega), oA40 h60 (show j < 80 by omega), nI_clamp (show i < 2 ^ 31 by omega), nI_clamp (show j < 2 ^ 31 by omega), k1, l1, k4, l4, if_neg n1, if_neg n2, if_neg d0, if_true]
  rcases hlu with ⟨rfl, rfl, h⟩ | ⟨rfl, rfl, h⟩
  · rw [if_neg (by rw [i_lt, nI_toInt (by omega), nI_toInt (by omega)]; omega), if_pos (by rw [i_lt, nI_toInt (by omega), nI_toInt (by omega)]; omega)]
    exact hun8
  · rw [if_pos (by rw [i_lt, nI_toInt (by omega), nI_toInt (by omega)]; omega), if_neg (by rw [i_lt, nI_toInt (by omega), nI_toInt (by omega)]; omega)]
    exact hun8
theorem M_joinR {v : Mm} {A : Ab} (hW : Wf A) (h60 : 60 ≤ v.1) (hM : MR (m0 v) A) {i j : Nat} (hi : i < an A) (hj : j < an A) (e : i ≠ j) {c : Int32} (g : ((aI A 37 i ≠ 3 ∨ aI A 37 j ≠ 3) ∧ c = 8) ∨ (aI A 37 i = 3 ∧ aI A 37 j = 3 ∧ aI A 40 i = aI A 40 j ∧ c = 10)) : f_X8_join 33 (nI i) (nI j) v = some (0, sI (m0 v) 33 0 c) := by
  have h80 := hW.1.1
  rw [f_X8_join, oO33 h60, gd_t]
  unfold m0 at hM ⊢
  generalize sI (sI v 33 1 0) 33 0 0 = w at *
  clear h60
  have hb := mt_some hM hW hi
  have hb2 := mt_some hM hW hj
  obtain ⟨hRM, h60, -, -, -, hT, -⟩ := hM
  obtain ⟨k1, -, -, k4, -⟩ := hT.1 i hi
  obtain ⟨l1, -, -, l4, -⟩ := hT.1 j hj
  have n1 : ¬ nI i = nI j := by rw [nI_eq (by omega) (by omega)]; exact e
  have d0 : ¬ (1 : Int32) = 0 := by decide
  have hno : ∀ c, f_X8_no 33 c w = some (0, sI w 33 0 c) := fun c => by rw [f_X8_no, oO33 h60, gd_t]
  simp only [hb, hb2, bd_s, bb_e, cs_s, gd_t, rm_8 hRM, rm_11 hRM, oA37 h60 (show i < 80 by omega), oA37 h60 (show j < 80 by omega), oA40 h60 (show i < 80 by omega), oA40 h60 (show j < 80 by omega), nI_clamp (show i < 2 ^ 31 by omega), nI_clamp (show j < 2 ^ 31 by omega), k1, l1, k4, l4, if_neg n1, if_neg d0, if_true, hno, isB_0]
  rcases g with ⟨g, rfl⟩ | ⟨g1, g2, g3, rfl⟩
  · by_cases h : aI A 37 i = 3
    · rw [if_pos h, if_neg (g.resolve_left (fun q => q h))]
    · rw [if_neg h]
  · rw [if_pos g1, if_pos g2, if_pos g3]
theorem keepM.uni {u : Mm} {a b : Int32} {j : Nat} : keepM u (uni u a b j) := ⟨Nat.le_refl _, fun r h1 h2 => ⟨fun k => by rw [gI_uni, if_neg (by omega)], fun _ => rfl, fun _ => rfl⟩⟩
theorem keepC.uniM {u v : Mm} {a b : Int32} {j : Nat} (h : keepC u v) : keepC u (uniM v a b j) := ⟨h.1, fun r h1 => ⟨fun k => by rw [gI_uniM, if_neg (by omega)]; exact (h.2 r h1).1 k, (h.2 r h1).2⟩⟩
-- JOIN
theorem P_join {u : Mm} (hI : Inv u) (p1 p2 : Int32) : Pq (f_X7_join 0 p1 p2) (f_X8_join 33 p1 p2) u := by
  obtain ⟨A, hW, hC, hM⟩ := hI
  obtain ⟨hRC, hN, hS, hF, hT, hPc, hY, hLg, hSh⟩ := id hC
  obtain ⟨hRM, h60, h7, hMs, hMf, hMt, hMy, hMl⟩ := id hM
  have h80 : an A ≤ 80 := hW.1.1
  have hn := hN.1
  by_cases hp : isT A p1
  · obtain ⟨i, hi, rfl⟩ := isT_ex hp
    have ha := at_some hC hW hi
    have hb := fun c => mt_some (MR_k hM c) (Wf_st 0 hW) hi
    by_cases hq : isT A p2
    · obtain ⟨j, hj, rfl⟩ := isT_ex hq
      have ha2 := at_some hC hW hj
      have hb2 := fun c => mt_some (MR_k hM c) (Wf_st 0 hW) hj
      by_cases e : i = j
      · subst e
        clear hT hMt hSh hY hMy hPc hF hMf hS hMs hLg hMl
        refine leaf_st (A := A) 0 5 0 hW hC hM ?_ ?_
        · simp (disch := omega) only [f_X7_join, ha, f_X7_deny, gd_t, bb_e, bd_s, cs_n, cs_s, okO_sI, okO_sL, okO_sR, okO_rI, okO_rL, okA_sI, okA_sL, okA_sR, okA_rI, okA_rL, gI_sI, gI_sL, gI_sR, gI_rI, gI_rL, gL_sI, gL_sL, gL_sR, gL_rI, gL_rL, gR_sI, gR_sL, gR_sR, gR_rI, gR_rL, oT, oS, oY, oYn, i_lt, i_le, i_eq, nI_toInt, nI_clamp, ↓reduceIte, false_and, and_false, and_self, true_and, and_true, if_pos, if_neg, ite_self, isB_0, isB_1, ix6, ix40, li_0, li_1, li_2, li_3, li_4, li_5, li_6, li_7, li_8, li_9, li_10, li_11, li_12, li_15, li_16, li_20, li_39, li_40, li_80, li_200, li_400, li_999, li_9999, li_100000, li_200000, li_300000, li_65535, li_m1, oO0 h60, oO2 h60, oO6 h60, oO10 h60, oO11 h60, oO14 h60, oO21 h60, oA1 h60, oA3 h60, oA4 h60, oA5 h60, oA7 h60, oA8 h60, oA9 h60, oA12 h60, oA13 h60, oA15 h60, oA16 h60, oA17 h60, oA18 h60, oA19 h60, oA20 h60, oA22 h60, oA23 h60, oA24 h60, rc_0_0 hRC, rc_0_1 hRC, rc_0_2 hRC, rc_0_3 hRC, rc_0_4 hRC, rc_2_0 hRC, rc_2_2 hRC, rc_2_3 hRC, rc_6_0 hRC, rc_6_1 hRC, rc_6_2 hRC, rc_10_0 hRC, rc_10_1 hRC, rc_10_2 hRC, rc_10_3 hRC, rc_10_4 hRC, rc_10_5 hRC, rc_11_0 hRC, rc_11_1 hRC, rc_14_0 hRC, rc_14_1 hRC, rc_21_0 hRC, rc_21_1 hRC, rc_21_2 hRC]
        · simp (disch := omega) only [f_X8_join, hb 5, hb2 5, f_X8_no, gd_t, bb_e, bd_s, cs_n, cs_s, okO_sI, okO_sL, okO_sR, okO_rI, okO_rL, okA_sI, okA_sL, okA_sR, okA_rI, okA_rL, gI_sI, gI_sL, gI_sR, gI_rI, gI_rL, gL_sI, gL_sL, gL_sR, gL_rI, gL_rL, gR_sI, gR_sL, gR_sR, gR_rI, gR_rL, oT, oS, oY, oYn, i_lt, i_le, i_eq, nI_toInt, nI_clamp, ↓reduceIte, false_and, and_false, and_self, true_and, and_true, if_pos, if_neg, ite_self, isB_0, isB_1, ix6, ix40, li_0, li_1, li_2, li_3, li_4, li_5, li_6, li_7, li_8, li_9, li_10, li_11, li_12, li_15, li_16, li_20, li_39, li_40, li_80, li_200, li_400, li_999, li_9999, li_100000, li_200000, li_300000, li_65535, li_m1, oO33 h60, oA34 h60, oA35 h60, oA36 h60, oA37 h60, oA38 h60, oA39 h60, oA40 h60, oA41 h60, oA42 h60, oA43 h60, oA44 h60, oA45 h60, oA46 h60, oA47 h60, oA48 h60, oA49 h60, oA50 h60, oA51 h60, oA52 h60, oA53 h60, oA54 h60, oA55 h60, oA56 h60, oA57 h60, oA58 h60, oA59 h60, rm_4 hRM, rm_5 hRM, rm_6 hRM, rm_8 hRM, rm_9 hRM, rm_10 hRM, rm_11 hRM, rm_12 hRM, rm_13 hRM, rm_14 hRM, rm_15 hRM, rm_16 hRM, rm_17 hRM, rm_18 hRM, rm_19 hRM, rm_20 hRM, rm_21 hRM, rm_23 hRM, rm_24 hRM, rm_25 hRM, rm_26 hRM, rm_27 hRM, rm_28 hRM, rm_29 hRM, rm_30 hRM, rm_32 hRM]
      · obtain ⟨-, -, t3, -⟩ := hT i hi
        obtain ⟨-, -, s3, -⟩ := hT j hj
        obtain ⟨k1, -, -, k4, -⟩ := hMt.1 i hi
        obtain ⟨l1, -, -, l4, -⟩ := hMt.1 j hj
        have hpq := hPc.2 i j hi hj
        obtain ⟨x, hx, ex1⟩ := (hW.1.2 i hi).2.2.2.1
        obtain ⟨y, hy, ey1⟩ := (hW.1.2 j hj).2.2.2.1
        have hCj := fun lo up hl => CR_join hC hi hj (lo := lo) (up := up) hl
        have hun := uni_l hW hC (a := gI u (60 + 2 * i) 10) (b := gI u (60 + 2 * j) 10) (an A) 1000 0 (by omega) (by omega)
        rw [uni_0, nI_0] at hun
        have hM1 : MR (sI (uni u (gI u (60 + 2 * i) 10) (gI u (60 + 2 * j) 10) (an A)) 0 5 0) A := hM.keep (keepM.uni.sI (by omega))
        have hb3 := mt_some (MR_m0 hM1) (Wf_st 0 hW) hi
        have hb4 := mt_some (MR_m0 hM1) (Wf_st 0 hW) hj
        clear hT hMt hSh hY hMy hPc hF hMf hS hMs hLg hMl
        by_cases g1 : (aI A 37 i).toInt = 3
        · by_cases g2 : (aI A 37 j).toInt = 3
          · by_cases g3 : aI A 40 i = aI A 40 j
            · have g4 := hpq.mpr g3
              have g5 : (aI A 40 i).toInt = (aI A 40 j).toInt := by rw [g3]
              have g6 : (gI u (60 + 2 * i) 10).toInt = (gI u (60 + 2 * j) 10).toInt := by rw [g4]
              refine leaf_st (A := A) 0 10 0 hW hC hM ?_ ?_
              · simp (disch := omega) only [f_X7_join, ha, ha2, t3, s3, f_X7_deny, gd_t, bb_e, bd_s, cs_n, cs_s, okO_sI, okO_sL, okO_sR, okO_rI, okO_rL, okA_sI, okA_sL, okA_sR, okA_rI, okA_rL, gI_sI, gI_sL, gI_sR, gI_rI, gI_rL, gL_sI, gL_sL, gL_sR, gL_rI, gL_rL, gR_sI, gR_sL, gR_sR, gR_rI, gR_rL, oT, oS, oY, oYn, i_lt, i_le, i_eq, nI_toInt, nI_clamp, ↓reduceIte, false_and, and_false, and_self, true_and, and_true, if_pos, if_neg, ite_self, isB_0, isB_1, ix6, ix40, li_0, li_1, li_2, li_3, li_4, li_5, li_6, li_7, li_8, li_9, li_10, li_11, li_12, li_15, li_16, li_20, li_39, li_40, li_80, li_200, li_400, li_999, li_9999, li_100000, li_200000, li_300000, li_65535, li_m1, oO0 h60, oO2 h60, oO6 h60, oO10 h60, oO11 h60, oO14 h60, oO21 h60, oA1 h60, oA3 h60, oA4 h60, oA5 h60, oA7 h60, oA8 h60, oA9 h60, oA12 h60, oA13 h60, oA15 h60, oA16 h60, oA17 h60, oA18 h60, oA19 h60, oA20 h60, oA22 h60, oA23 h60, oA24 h60, rc_0_0 hRC, rc_0_1 hRC, rc_0_2 hRC, rc_0_3 hRC, rc_0_4 hRC, rc_2_0 hRC, rc_2_2 hRC, rc_2_3 hRC, rc_6_0 hRC, rc_6_1 hRC, rc_6_2 hRC, rc_10_0 hRC, rc_10_1 hRC, rc_10_2 hRC, rc_10_3 hRC, rc_10_4 hRC, rc_10_5 hRC, rc_11_0 hRC, rc_11_1 hRC, rc_14_0 hRC, rc_14_1 hRC, rc_21_0 hRC, rc_21_1 hRC, rc_21_2 hRC]
              · exact M_joinR (v := sI u 0 5 10) (Wf_st 0 hW) h60 (MR_k hM 10) hi hj e (Or.inr ⟨by rw [aI_st (by omega), i_eq, g1]; rfl, by rw [aI_st (by omega), i_eq, g2]; rfl, by rw [aI_st (by omega), aI_st (by omega)]; exact g3, rfl⟩)
            · have g4 : gI u (60 + 2 * i) 10 ≠ gI u (60 + 2 * j) 10 := fun q => g3 (hpq.mp q)
              have g6 : (gI u (60 + 2 * i) 10).toInt ≠ (gI u (60 + 2 * j) 10).toInt := fun q => g4 (by rw [i_eq, q])
              rw [ex1, ey1] at g3
              have g5 : x ≠ y := fun q => g3 (by rw [q])
              have hxy : ∀ lo up, (lo = x ∧ up = y ∧ x < y) ∨ (lo = y ∧ up = x ∧ y < x) → Pq (f_X7_join 0 (nI i) (nI j)) (f_X8_join 33 (nI i) (nI j)) u := by
                intro lo up hlu
                have hun8 := uniM_l (Wf_st 0 hW) (MR_m0 hM1) (x := nI i) (y := nI j) (a := nI lo) (b := nI up) (an A) 1000 0 (by show 0 + an A = an A; omega) (by omega)
                rw [uniM_0, nI_0] at hun8
                have hMj := MR_join (MR_m0 hM1) (lo := nI lo) (up := nI up)
                rw [jA_st] at hMj
                refine leaf_ok (u1 := uni u (gI u (60 + 2 * i) 10) (gI u (60 + 2 * j) 10) (an A)) (v := uniM (m0 (sI (uni u (gI u (60 + 2 * i) 10) (gI u (60 + 2 * j) 10) (an A)) 0 5 0)) (nI lo) (nI up) (an A)) (A' := jA A (nI lo) (nI up)) 1 ?_ ?_ (Wf_join hW (by omega) (by omega)) (hCj _ _ (by rw [ex1, ey1]; rcases hlu with ⟨rfl, rfl, -⟩ | ⟨rfl, rfl, -⟩; exact Or.inl ⟨rfl, rfl⟩; exact Or.inr ⟨rfl, rfl⟩)) hMj ((keepC.rf.sI (by omega)).sI (by omega)).uniM
                · clear hCj hMj hun8
                  simp (disch := omega) only [f_X7_join, ha, ha2, t3, s3, f_X0_unite, hun, okO_uni, f_X7_grant, gd_t, bb_e, bd_s, cs_n, cs_s, okO_sI, okO_sL, okO_sR, okO_rI, okO_rL, okA_sI, okA_sL, okA_sR, okA_rI, okA_rL, gI_sI, gI_sL, gI_sR, gI_rI, gI_rL, gL_sI, gL_sL, gL_sR, gL_rI, gL_rL, gR_sI, gR_sL, gR_sR, gR_rI, gR_rL, oT, oS, oY, oYn, i_lt, i_le, i_eq, nI_toInt, nI_clamp, ↓reduceIte, false_and, and_false, and_self, true_and, and_true, if_pos, if_neg, ite_self, isB_0, isB_1, ix6, ix40, li_0, li_1, li_2, li_3, li_4, li_5, li_6, li_7, li_8, li_9, li_10, li_11, li_12, li_15, li_16, li_20, li_39, li_40, li_80, li_200, li_400, li_999, li_9999, li_100000, li_200000, li_300000, li_65535, li_m1, oO0 h60, oO2 h60, oO6 h60, oO10 h60, oO11 h60, oO14 h60, oO21 h60, oA1 h60, oA3 h60, oA4 h60, oA5 h60, oA7 h60, oA8 h60, oA9 h60, oA12 h60, oA13 h60, oA15 h60, oA16 h60, oA17 h60, oA18 h60, oA19 h60, oA20 h60, oA22 h60, oA23 h60, oA24 h60, rc_0_0 hRC, rc_0_1 hRC, rc_0_2 hRC, rc_0_3 hRC, rc_0_4 hRC, rc_2_0 hRC, rc_2_2 hRC, rc_2_3 hRC, rc_6_0 hRC, rc_6_1 hRC, rc_6_2 hRC, rc_10_0 hRC, rc_10_1 hRC, rc_10_2 hRC, rc_10_3 hRC, rc_10_4 hRC, rc_10_5 hRC, rc_11_0 hRC, rc_11_1 hRC, rc_14_0 hRC, rc_14_1 hRC, rc_21_0 hRC, rc_21_1 hRC, rc_21_2 hRC]
                · exact M_join (Wf_st 0 hW) hM1.2.1 (MR_m0 hM1) hi hj e (by rw [aI_st (by omega), i_eq, g1]; rfl) (by rw [aI_st (by omega), i_eq, g2]; rfl) (by rw [aI_st (by omega)]; exact ex1) (by rw [aI_st (by omega)]; exact ey1) (by omega) (by omega) hlu
              rcases Nat.lt_or_gt_of_ne g5 with q | q
              · exact hxy x y (Or.inl ⟨rfl, rfl, q⟩)
              · exact hxy y x (Or.inr ⟨rfl, rfl, q⟩)
          · refine leaf_st (A := A) 0 8 0 hW hC hM ?_ ?_
            · simp (disch := omega) only [f_X7_join, ha, ha2, t3, s3, f_X7_deny, gd_t, bb_e, bd_s, cs_n, cs_s, okO_sI, okO_sL, okO_sR, okO_rI, okO_rL, okA_sI, okA_sL, okA_sR, okA_rI, okA_rL, gI_sI, gI_sL, gI_sR, gI_rI, gI_rL, gL_sI, gL_sL, gL_sR, gL_rI, gL_rL, gR_sI, gR_sL, gR_sR, gR_rI, gR_rL, oT, oS, oY, oYn, i_lt, i_le, i_eq, nI_toInt, nI_clamp, ↓reduceIte, false_and, and_false, and_self, true_and, and_true, if_pos, if_neg, ite_self, isB_0, isB_1, ix6, ix40, li_0, li_1, li_2, li_3, li_4, li_5, li_6, li_7, li_8, li_9, li_10, li_11, li_12, li_15, li_16, li_20, li_39, li_40, li_80, li_200, li_400, li_999, li_9999, li_100000, li_200000, li_300000, li_65535, li_m1, oO0 h60, oO2 h60, oO6 h60, oO10 h60, oO11 h60, oO14 h60, oO21 h60, oA1 h60, oA3 h60, oA4 h60, oA5 h60, oA7 h60, oA8 h60, oA9 h60, oA12 h60, oA13 h60, oA15 h60, oA16 h60, oA17 h60, oA18 h60, oA19 h60, oA20 h60, oA22 h60, oA23 h60, oA24 h60, rc_0_0 hRC, rc_0_1 hRC, rc_0_2 hRC, rc_0_3 hRC, rc_0_4 hRC, rc_2_0 hRC, rc_2_2 hRC, rc_2_3 hRC, rc_6_0 hRC, rc_6_1 hRC, rc_6_2 hRC, rc_10_0 hRC, rc_10_1 hRC, rc_10_2 hRC, rc_10_3 hRC, rc_10_4 hRC, rc_10_5 hRC, rc_11_0 hRC, rc_11_1 hRC, rc_14_0 hRC, rc_14_1 hRC, rc_21_0 hRC, rc_21_1 hRC, rc_21_2 hRC]
            · exact M_joinR (v := sI u 0 5 8) (Wf_st 0 hW) h60 (MR_k hM 8) hi hj e (Or.inl ⟨Or.inr (by rw [aI_st (by omega)]; intro q; exact g2 (by rw [q]; rfl)), rfl⟩)
        · refine leaf_st (A := A) 0 8 0 hW hC hM ?_ ?_
          · simp (disch := omega) only [f_X7_join, ha, ha2, t3, s3, f_X7_deny, gd_t, bb_e, bd_s, cs_n, cs_s, okO_sI, okO_sL, okO_sR, okO_rI, okO_rL, okA_sI, okA_sL, okA_sR, okA_rI, okA_rL, gI_sI, gI_sL, gI_sR, gI_rI, gI_rL, gL_sI, gL_sL, gL_sR, gL_rI, gL_rL, gR_sI, gR_sL, gR_sR, gR_rI, gR_rL, oT, oS, oY, oYn, i_lt, i_le, i_eq, nI_toInt, nI_clamp, ↓reduceIte, false_and, and_false, and_self, true_and, and_true, if_pos, if_neg, ite_self, isB_0, isB_1, ix6, ix40, li_0, li_1, li_2, li_3, li_4, li_5, li_6, li_7, li_8, li_9, li_10, li_11, li_12, li_15, li_16, li_20, li_39, li_40, li_80, li_200, li_400, li_999, li_9999, li_100000, li_200000, li_300000, li_65535, li_m1, oO0 h60, oO2 h60, oO6 h60, oO10 h60, oO11 h60, oO14 h60, oO21 h60, oA1 h60, oA3 h60, oA4 h60, oA5 h60, oA7 h60, oA8 h60, oA9 h60, oA12 h60, oA13 h60, oA15 h60, oA16 h60, oA17 h60, oA18 h60, oA19 h60, oA20 h60, oA22 h60, oA23 h60, oA24 h60, rc_0_0 hRC, rc_0_1 hRC, rc_0_2 hRC, rc_0_3 hRC, rc_0_4 hRC, rc_2_0 hRC, rc_2_2 hRC, rc_2_3 hRC, rc_6_0 hRC, rc_6_1 hRC, rc_6_2 hRC, rc_10_0 hRC, rc_10_1 hRC, rc_10_2 hRC, rc_10_3 hRC, rc_10_4 hRC, rc_10_5 hRC, rc_11_0 hRC, rc_11_1 hRC, rc_14_0 hRC, rc_14_1 hRC, rc_21_0 hRC, rc_21_1 hRC, rc_21_2 hRC]
          · exact M_joinR (v := sI u 0 5 8) (Wf_st 0 hW) h60 (MR_k hM 8) hi hj e (Or.inl ⟨Or.inl (by rw [aI_st (by omega)]; intro q; exact g1 (by rw [q]; rfl)), rfl⟩)
    · refine leaf_st (A := A) 0 2 0 hW hC hM ?_ ?_
      · simp (disch := omega) only [f_X7_join, ha, at_none hC hW hq, f_X7_deny, gd_t, bb_e, bd_s, cs_n, cs_s, okO_sI, okO_sL, okO_sR, okO_rI, okO_rL, okA_sI, okA_sL, okA_sR, okA_rI, okA_rL, gI_sI, gI_sL, gI_sR, gI_rI, gI_rL, gL_sI, gL_sL, gL_sR, gL_rI, gL_rL, gR_sI, gR_sL, gR_sR, gR_rI, gR_rL, oT, oS, oY, oYn, i_lt, i_le, i_eq, nI_toInt, nI_clamp, ↓reduceIte, false_and, and_false, and_self, true_and, and_true, if_pos, if_neg, ite_self, isB_0, isB_1, ix6, ix40, li_0, li_1, li_2, li_3, li_4, li_5, li_6, li_7, li_8, li_9, li_10, li_11, li_12, li_15, li_16, li_20, li_39, li_40, li_80, li_200, li_400, li_999, li_9999, li_100000, li_200000, li_300000, li_65535, li_m1, oO0 h60, oO2 h60, oO6 h60, oO10 h60, oO11 h60, oO14 h60, oO21 h60, oA1 h60, oA3 h60, oA4 h60, oA5 h60, oA7 h60, oA8 h60, oA9 h60, oA12 h60, oA13 h60, oA15 h60, oA16 h60, oA17 h60, oA18 h60, oA19 h60, oA20 h60, oA22 h60, oA23 h60, oA24 h60, rc_0_0 hRC, rc_0_1 hRC, rc_0_2 hRC, rc_0_3 hRC, rc_0_4 hRC, rc_2_0 hRC, rc_2_2 hRC, rc_2_3 hRC, rc_6_0 hRC, rc_6_1 hRC, rc_6_2 hRC, rc_10_0 hRC, rc_10_1 hRC, rc_10_2 hRC, rc_10_3 hRC, rc_10_4 hRC, rc_10_5 hRC, rc_11_0 hRC, rc_11_1 hRC, rc_14_0 hRC, rc_14_1 hRC, rc_21_0 hRC, rc_21_1 hRC, rc_21_2 hRC]
      · simp (disch := omega) only [f_X8_join, hb 2, mt_none (MR_k hM 2) (Wf_st 0 hW) hq, f_X8_no, gd_t, bb_e, bd_s, cs_n, cs_s, okO_sI, okO_sL, okO_sR, okO_rI, okO_rL, okA_sI, okA_sL, okA_sR, okA_rI, okA_rL, gI_sI, gI_sL, gI_sR, gI_rI, gI_rL, gL_sI, gL_sL, gL_sR, gL_rI, gL_rL, gR_sI, gR_sL, gR_sR, gR_rI, gR_rL, oT, oS, oY, oYn, i_lt, i_le, i_eq, nI_toInt, nI_clamp, ↓reduceIte, false_and, and_false, and_self, true_and, and_true, if_pos, if_neg, ite_self, isB_0, isB_1, ix6, ix40, li_0, li_1, li_2, li_3, li_4, li_5, li_6, li_7, li_8, li_9, li_10, li_11, li_12, li_15, li_16, li_20, li_39, li_40, li_80, li_200, li_400, li_999, li_9999, li_100000, li_200000, li_300000, li_65535, li_m1, oO33 h60, oA34 h60, oA35 h60, oA36 h60, oA37 h60, oA38 h60, oA39 h60, oA40 h60, oA41 h60, oA42 h60, oA43 h60, oA44 h60, oA45 h60, oA46 h60, oA47 h60, oA48 h60, oA49 h60, oA50 h60, oA51 h60, oA52 h60, oA53 h60, oA54 h60, oA55 h60, oA56 h60, oA57 h60, oA58 h60, oA59 h60, rm_4 hRM, rm_5 hRM, rm_6 hRM, rm_8 hRM, rm_9 hRM, rm_10 hRM, rm_11 hRM, rm_12 hRM, rm_13 hRM, rm_14 hRM, rm_15 hRM, rm_16 hRM, rm_17 hRM, rm_18 hRM, rm_19 hRM, rm_20 hRM, rm_21 hRM, rm_23 hRM, rm_24 hRM, rm_25 hRM, rm_26 hRM, rm_27 hRM, rm_28 hRM, rm_29 hRM, rm_30 hRM, rm_32 hRM]
  · refine leaf_st (A := A) 0 2 0 hW hC hM ?_ ?_
    · by_cases hq : isT A p2
      · obtain ⟨j, hj, rfl⟩ := isT_ex hq
        simp (disch := omega) only [f_X7_join, at_none hC hW hp, at_some hC hW hj, f_X7_deny, gd_t, bb_e, bd_s, cs_n, cs_s, okO_sI, okO_sL, okO_sR, okO_rI, okO_rL, okA_sI, okA_sL, okA_sR, okA_rI, okA_rL, gI_sI, gI_sL, gI_sR, gI_rI, gI_rL, gL_sI, gL_sL, gL_sR, gL_rI, gL_rL, gR_sI, gR_sL, gR_sR, gR_rI, gR_rL, oT, oS, oY, oYn, i_lt, i_le, i_eq, nI_toInt, nI_clamp, ↓reduceIte, false_and, and_false, and_self, true_and, and_true, if_pos, if_neg, ite_self, isB_0, isB_1, ix6, ix40, li_0, li_1, li_2, li_3, li_4, li_5, li_6, li_7, li_8, li_9, li_10, li_11, li_12, li_15, li_16, li_20, li_39, li_40, li_80, li_200, li_400, li_999, li_9999, li_100000, li_200000, li_300000, li_65535, li_m1, oO0 h60, oO2 h60, oO6 h60, oO10 h60, oO11 h60, oO14 h60, oO21 h60, oA1 h60, oA3 h60, oA4 h60, oA5 h60, oA7 h60, oA8 h60, oA9 h60, oA12 h60, oA13 h60, oA15 h60, oA16 h60, oA17 h60, oA18 h60, oA19 h60, oA20 h60, oA22 h60, oA23 h60, oA24 h60, rc_0_0 hRC, rc_0_1 hRC, rc_0_2 hRC, rc_0_3 hRC, rc_0_4 hRC, rc_2_0 hRC, rc_2_2 hRC, rc_2_3 hRC, rc_6_0 hRC, rc_6_1 hRC, rc_6_2 hRC, rc_10_0 hRC, rc_10_1 hRC, rc_10_2 hRC, rc_10_3 hRC, rc_10_4 hRC, rc_10_5 hRC, rc_11_0 hRC, rc_11_1 hRC, rc_14_0 hRC, rc_14_1 hRC, rc_21_0 hRC, rc_21_1 hRC, rc_21_2 hRC]
      · simp (disch := omega) only [f_X7_join, at_none hC hW hp, at_none hC hW hq, f_X7_deny, gd_t, bb_e, bd_s, cs_n, cs_s, okO_sI, okO_sL, okO_sR, okO_rI, okO_rL, okA_sI, okA_sL, okA_sR, okA_rI, okA_rL, gI_sI, gI_sL, gI_sR, gI_rI, gI_rL, gL_sI, gL_sL, gL_sR, gL_rI, gL_rL, gR_sI, gR_sL, gR_sR, gR_rI, gR_rL, oT, oS, oY, oYn, i_lt, i_le, i_eq, nI_toInt, nI_clamp, ↓reduceIte, false_and, and_false, and_self, true_and, and_true, if_pos, if_neg, ite_self, isB_0, isB_1, ix6, ix40, li_0, li_1, li_2, li_3, li_4, li_5, li_6, li_7, li_8, li_9, li_10, li_11, li_12, li_15, li_16, li_20, li_39, li_40, li_80, li_200, li_400, li_999, li_9999, li_100000, li_200000, li_300000, li_65535, li_m1, oO0 h60, oO2 h60, oO6 h60, oO10 h60, oO11 h60, oO14 h60, oO21 h60, oA1 h60, oA3 h60, oA4 h60, oA5 h60, oA7 h60, oA8 h60, oA9 h60, oA12 h60, oA13 h60, oA15 h60, oA16 h60, oA17 h60, oA18 h60, oA19 h60, oA20 h60, oA22 h60, oA23 h60, oA24 h60, rc_0_0 hRC, rc_0_1 hRC, rc_0_2 hRC, rc_0_3 hRC, rc_0_4 hRC, rc_2_0 hRC, rc_2_2 hRC, rc_2_3 hRC, rc_6_0 hRC, rc_6_1 hRC, rc_6_2 hRC, rc_10_0 hRC, rc_10_1 hRC, rc_10_2 hRC, rc_10_3 hRC, rc_10_4 hRC, rc_10_5 hRC, rc_11_0 hRC, rc_11_1 hRC, rc_14_0 hRC, rc_14_1 hRC, rc_21_0 hRC, rc_21_1 hRC, rc_21_2 hRC]
    · simp (disch := omega) only [f_X8_join, mt_none (MR_k hM 2) (Wf_st 0 hW) hp, f_X8_no, gd_t, bb_e, bd_s, cs_n, cs_s, okO_sI, okO_sL, okO_sR, okO_rI, okO_rL, okA_sI, okA_sL, okA_sR, okA_rI, okA_rL, gI_sI, gI_sL, gI_sR, gI_rI, gI_rL, gL_sI, gL_sL, gL_sR, gL_rI, gL_rL, gR_sI, gR_sL, gR_sR, gR_rI, gR_rL, oT, oS, oY, oYn, i_lt, i_le, i_eq, nI_toInt, nI_clamp, ↓reduceIte, false_and, and_false, and_self, true_and, and_true, if_pos, if_neg, ite_self, isB_0, isB_1, ix6, ix40, li_0, li_1, li_2, li_3, li_4, li_5, li_6, li_7, li_8, li_9, li_10, li_11, li_12, li_15, li_16, li_20, li_39, li_40, li_80, li_200, li_400, li_999, li_9999, li_100000, li_200000, li_300000, li_65535, li_m1, oO33 h60, oA34 h60, oA35 h60, oA36 h60, oA37 h60, oA38 h60, oA39 h60, oA40 h60, oA41 h60, oA42 h60, oA43 h60, oA44 h60, oA45 h60, oA46 h60, oA47 h60, oA48 h60, oA49 h60, oA50 h60, oA51 h60, oA52 h60, oA53 h60, oA54 h60, oA55 h60, oA56 h60, oA57 h60, oA58 h60, oA59 h60, rm_4 hRM, rm_5 hRM, rm_6 hRM, rm_8 hRM, rm_9 hRM, rm_10 hRM, rm_11 hRM, rm_12 hRM, rm_13 hRM, rm_14 hRM, rm_15 hRM, rm_16 hRM, rm_17 hRM, rm_18 hRM, rm_19 hRM, rm_20 hRM, rm_21 hRM, rm_23 hRM, rm_24 hRM, rm_25 hRM, rm_26 hRM, rm_27 hRM, rm_28 hRM, rm_29 hRM, rm_30 hRM, rm_32 hRM]
