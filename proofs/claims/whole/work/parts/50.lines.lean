/-- a thing and what it lies in, upwards -/
def lnA (A : Ab) : Nat → Nat → List Nat
  | 0, _ => []
  | k + 1, i => i :: (match par A i with
    | none => []
    | some j => lnA A k j)
def line (A : Ab) (i : Nat) : List Nat := lnA A (i + 1) i
def lineO (A : Ab) (x : Option Nat) : List Nat := match x with
  | none => []
  | some i => line A i
/-- a pointer as the reference writes it, as the class holds it -/
def pI (x : Option Nat) : Int32 := match x with
  | none => -1
  | some j => nI j
abbrev pC (x : Option Nat) : Option Nat := x.map (fun j => 60 + 2 * j)
theorem par_lt {A : Ab} (hW : Wf A) {i j : Nat} (hi : i < an A) (h : par A i = some j) : j < i := by
  have q := (hW.1.2 i hi).2.1
  unfold par at h
  split at h
  · cases h
  · rename_i h1
    have h2 : (aI A 38 i).toInt ≠ -1 := fun e => h1 (by rw [i_eq, e]; rfl)
    cases h
    rw [i_clamp]
    omega
theorem par_pI {A : Ab} (hW : Wf A) {i : Nat} (hi : i < an A) : aI A 38 i = pI (par A i) := by
  have q := (hW.1.2 i hi).2.1
  unfold par
  split
  · rename_i h; exact h
  · rename_i h1
    have h2 : (aI A 38 i).toInt ≠ -1 := fun e => h1 (by rw [i_eq, e]; rfl)
    exact i_nI (by rw [i_clamp]; omega)
theorem ln_irr {A : Ab} (hW : Wf A) : ∀ (N i k m : Nat), i < N → i < an A → i < k → i < m → lnA A k i = lnA A m i := by
  intro N
  induction N with
  | zero => intro i k m h; omega
  | succ N ih =>
    intro i k m h0 hi hk hm
    obtain ⟨k, rfl⟩ : ∃ a, k = a + 1 := ⟨k - 1, by omega⟩
    obtain ⟨m, rfl⟩ : ∃ a, m = a + 1 := ⟨m - 1, by omega⟩
    simp only [lnA]
    cases h : par A i with
    | none => rfl
    | some j =>
      have := par_lt hW hi h
      simp only
      rw [ih j k m (by omega) (by omega) (by omega) (by omega)]
theorem line_eq {A : Ab} (hW : Wf A) {i : Nat} (hi : i < an A) : line A i = i :: lineO A (par A i) := by
  unfold line
  rw [lnA]
  cases h : par A i with
  | none => rfl
  | some j =>
    have := par_lt hW hi h
    simp only [lineO, line]
    rw [ln_irr hW (j + 1) j i (j + 1) (by omega) (by omega) (by omega) (by omega)]
/-- induction along a line -/
theorem line_ind {A : Ab} (hW : Wf A) {P : Option Nat → Prop} (h0 : P none) (hs : ∀ i, i < an A → P (par A i) → P (some i)) : ∀ x : Option Nat, (∀ i, x = some i → i < an A) → P x := by
  have key : ∀ N i, i < N → i < an A → P (some i) := by
    intro N
    induction N with
    | zero => intro i h; omega
    | succ N ih =>
      intro i h1 h2
      refine hs i h2 ?_
      cases h : par A i with
      | none => exact h0
      | some j =>
        have := par_lt hW h2 h
        exact ih j (by omega) (by omega)
  intro x hx
  cases x with
  | none => exact h0
  | some i => exact key (i + 1) i (by omega) (hx i rfl)
/-- how long a line can be: the fuel that it needs -/
def dpt (x : Option Nat) : Nat := match x with
  | none => 0
  | some i => i + 1
theorem dpt_par {A : Ab} (hW : Wf A) {i : Nat} (hi : i < an A) : dpt (par A i) < dpt (some i) := by
  cases h : par A i with
  | none => simp [dpt]
  | some j =>
    have := par_lt hW hi h
    simp only [dpt]
    omega
-- who sees what
def clo (A : Ab) (p d : Int32) (i : Nat) : Bool := !decide (aI A 44 i ≤ d) && decide (((aI A 45 i) >>> (p &&& 31)) &&& 1 = 0)
def seen (A : Ab) (p d : Int32) (l : List Nat) : Bool := l.all (fun i => !clo A p d i)
def b2i (b : Bool) : Int32 := if b = true then 1 else 0
theorem isClosed_t {u : Mm} {A : Ab} (hC : CR u A) {i : Nat} (hi : i < an A) (p d : Int32) : f_X5_isClosedTo (60 + 2 * i) p d u = some (b2i (clo A p d i)) := by
  obtain ⟨-, hN, -, -, hT, -⟩ := hC
  have hn := hN.1
  obtain ⟨-, -, -, -, -, -, -, -, t9, t10, -⟩ := hT i hi
  rw [f_X5_isClosedTo, oT (by omega), gd_t, t9, t10]
  unfold clo b2i
  by_cases h1 : aI A 44 i ≤ d
  · simp [h1]
  · by_cases h2 : ((aI A 45 i) >>> (p &&& 31)) &&& 1 = 0 <;> simp [h1, h2]
theorem isSeen_l {u : Mm} {A : Ab} (hW : Wf A) (hC : CR u A) (r : Nat) (p d : Int32) : ∀ x : Option Nat, (∀ i, x = some i → i < an A) → ∀ n, dpt x < n → L_X5_isSeen_2 r p d u (fun a6 => cs a6 (some 1) (fun _ => some 0)) n (pC x) = some (b2i (seen A p d (lineO A x))) := by
  refine line_ind hW ?_ ?_
  · intro n hn
    obtain ⟨n, rfl⟩ : ∃ a, n = a + 1 := ⟨n - 1, by omega⟩
    rfl
  · intro i hi ih n hn
    obtain ⟨n, rfl⟩ : ∃ a, n = a + 1 := ⟨n - 1, by omega⟩
    have hd := dpt_par hW hi
    have hN := hC.2.1.1
    obtain ⟨-, -, -, t4, -⟩ := hC.2.2.2.2.1 i hi
    show L_X5_isSeen_2 r p d u _ (n + 1) (some (60 + 2 * i)) = _
    rw [L_X5_isSeen_2, cs_s, oT (by omega), gd_t, isClosed_t hC hi, bd_s, bb_e, t4]
    have e : lineO A (some i) = i :: lineO A (par A i) := line_eq hW hi
    rw [e]
    simp only [seen, List.all_cons]
    cases hc : clo A p d i with
    | true => simp [b2i, cs]
    | false =>
      simp only [b2i, Bool.false_eq_true, ↓reduceIte, Bool.not_false, Bool.true_and]
      exact ih n (by omega)
theorem isSeen_t {u : Mm} {A : Ab} (hW : Wf A) (hC : CR u A) {i : Nat} (hi : i < an A) (p d : Int32) : f_X5_isSeen (60 + 2 * i) p d u = some (b2i (seen A p d (line A i))) := by
  have h80 := hW.1.1
  exact isSeen_l hW hC _ p d (some i) (fun j h => by cases h; exact hi) 1000 (by simp only [dpt]; omega)
theorem seesOf_l {u : Mm} {A : Ab} (hW : Wf A) (hM : MR u A) (q p d : Int32) : ∀ x : Option Nat, (∀ i, x = some i → i < an A) → ∀ n, dpt x < n → L_X8_seesOf_3 33 q p d u (fun _ => some 1) n (pI x) = some (b2i (seen A p d (lineO A x))) := by
  refine line_ind hW ?_ ?_
  · intro n hn
    obtain ⟨n, rfl⟩ : ∃ a, n = a + 1 := ⟨n - 1, by omega⟩
    rw [L_X8_seesOf_3, if_pos (by decide)]
    rfl
  · intro i hi ih n hn
    obtain ⟨n, rfl⟩ : ∃ a, n = a + 1 := ⟨n - 1, by omega⟩
    have hd := dpt_par hW hi
    obtain ⟨hRM, h60, -, -, -, hT, -⟩ := id hM
    obtain ⟨k1, k2, k3, k4, k5, k6, k7, k8, -⟩ := hT.1 i hi
    have h80 := hW.1.1
    have e : lineO A (some i) = i :: lineO A (par A i) := line_eq hW hi
    rw [e]
    have q1 : ¬ nI i < 0 := nI_pos (by omega)
    have ih := ih n (by omega)
    show L_X8_seesOf_3 33 q p d u _ (n + 1) (nI i) = _
    rw [L_X8_seesOf_3, if_neg q1]
    simp only [oO33 h60, gd_t, bb_e, rm_15 hRM, rm_9 hRM, rm_16 hRM, cs_s, oA44 h60 (show i < 80 by omega), oA38 h60 (show i < 80 by omega), oA45 h60 (show i < 80 by omega), nI_clamp (show i < 2 ^ 31 by omega), k2, k7, k8, par_pI hW hi, ih]
    simp only [seen, List.all_cons]
    by_cases h1 : aI A 44 i ≤ d
    · simp [clo, h1]
    · by_cases h2 : ((aI A 45 i) >>> (p &&& 31)) &&& 1 = 0 <;> simp [clo, h1, h2, b2i]
theorem seesOf_t {u : Mm} {A : Ab} (hW : Wf A) (hM : MR u A) {i : Nat} (hi : i < an A) (p d : Int32) : f_X8_seesOf 33 (nI i) p d u = some (b2i (seen A p d (line A i))) := by
  have h80 := hW.1.1
  exact seesOf_l hW hM _ p d (some i) (fun j h => by cases h; exact hi) 1000 (by simp only [dpt]; omega)
-- what is said
def sd (A : Ab) (f : Nat) : List Nat → Int32
  | [] => -1
  | i :: l => if aI A 41 (6 * i + f) = -1 then sd A f l else aI A 41 (6 * i + f)
theorem said_l {u : Mm} {A : Ab} (hW : Wf A) (hC : CR u A) (r : Nat) {f : Nat} (hf : f < 6) : ∀ x : Option Nat, (∀ i, x = some i → i < an A) → ∀ n, dpt x < n → L_X5_saidInLine_4 r (nI f) u (fun a9 _ => some a9) n (-1) (pC x) = some (sd A f (lineO A x)) := by
  refine line_ind hW ?_ ?_
  · intro n hn
    obtain ⟨n, rfl⟩ : ∃ a, n = a + 1 := ⟨n - 1, by omega⟩
    rfl
  · intro i hi ih n hn
    obtain ⟨n, rfl⟩ : ∃ a, n = a + 1 := ⟨n - 1, by omega⟩
    have hd := dpt_par hW hi
    have hN := hC.2.1.1
    obtain ⟨-, -, -, t4, t5, -, -, -, -, -, -, t12⟩ := hC.2.2.2.2.1 i hi
    have e : lineO A (some i) = i :: lineO A (par A i) := line_eq hW hi
    rw [e]
    show L_X5_saidInLine_4 r (nI f) u _ (n + 1) (-1) (some (60 + 2 * i)) = _
    rw [L_X5_saidInLine_4, cs_s, if_pos rfl, oT (by omega), gd_t, bb_e, t5, cs_s, oS (by omega) hf, gd_t, bb_e, bb_e, nI_clamp (by omega), t12 f hf, t4]
    simp only [sd]
    by_cases h : aI A 41 (6 * i + f) = -1
    · rw [if_pos h, h]
      exact ih n (by omega)
    · rw [if_neg h]
      obtain ⟨n, rfl⟩ : ∃ a, n = a + 1 := ⟨n - 1, by have : dpt (some i) = i + 1 := rfl; omega⟩
      rw [L_X5_saidInLine_4]
      cases par A i with
      | none => rfl
      | some j =>
        show cs (some (60 + 2 * j)) _ _ = _
        rw [cs_s, if_neg h]
theorem said_t {u : Mm} {A : Ab} (hW : Wf A) (hC : CR u A) {f : Nat} (hf : f < 6) {i : Nat} (hi : i < an A) : f_X5_saidInLine (60 + 2 * i) (nI f) u = some (sd A f (line A i)) := by
  have h80 := hW.1.1
  exact said_l hW hC _ hf (some i) (fun j h => by cases h; exact hi) 1000 (by simp only [dpt]; omega)
theorem hasOf_l {u : Mm} {A : Ab} (hW : Wf A) (hM : MR u A) (q : Int32) {f : Nat} (hf : f < 6) : ∀ x : Option Nat, (∀ i, x = some i → i < an A) → ∀ n, dpt x < n → L_X8_hasOf_2 33 q (nI f) u (fun a11 => (if 0 ≤ a11 then gd (okO u 33 8) (bb (gR u 33 12) (fun x14 => cs x14 none (fun k15 => gd (okA u k15 9 (((6 : Int32) * a11) + nI f)) (some (gI u k15 (Int32.toNatClampNeg (((6 : Int32) * a11) + nI f))))))) else some (-1 : Int32))) n (pI x) = some (sd A f (lineO A x)) := by
  refine line_ind hW ?_ ?_
  · intro n hn
    obtain ⟨n, rfl⟩ : ∃ a, n = a + 1 := ⟨n - 1, by omega⟩
    rw [L_X8_hasOf_2, if_pos (by decide), if_neg (by decide)]
    rfl
  · intro i hi ih n hn
    obtain ⟨n, rfl⟩ : ∃ a, n = a + 1 := ⟨n - 1, by omega⟩
    have hd := dpt_par hW hi
    obtain ⟨hRM, h60, -, -, -, hT, -⟩ := id hM
    obtain ⟨k1, k2, k3, k4, k5, k6, k7, k8, k9, k10, k11, k12⟩ := hT.1 i hi
    have h80 := hW.1.1
    have hs := (hW.1.2 i hi).2.2.2.2.2.2.2.2.2.2 f hf
    have e : lineO A (some i) = i :: lineO A (par A i) := line_eq hW hi
    rw [e]
    have q1 : ¬ nI i < 0 := nI_pos (by omega)
    have q2 : 0 ≤ nI i := nI_pos' (by omega)
    have ih := ih n (by omega)
    show L_X8_hasOf_2 33 q (nI f) u _ (n + 1) (nI i) = _
    rw [L_X8_hasOf_2, if_neg q1]
    simp only [oO33 h60, gd_t, bb_e, rm_12 hRM, rm_9 hRM, cs_s, ix6, oA41 h60 (show 6 * i + f < 480 by omega), oA38 h60 (show i < 80 by omega), nI_clamp (show i < 2 ^ 31 by omega), nI_clamp (show 6 * i + f < 2 ^ 31 by omega), k2, k12 f hf, par_pI hW hi, if_pos q2] at ih ⊢
    rw [ih]
    simp only [sd]
    by_cases h : aI A 41 (6 * i + f) = -1
    · rw [if_pos h, if_neg (by rw [h]; decide)]
    · rw [if_neg h, if_pos]
      have h2 : (aI A 41 (6 * i + f)).toInt ≠ -1 := fun e => h (by rw [i_eq, e]; rfl)
      rw [i_le, li_0]
      omega
theorem hasOf_t {u : Mm} {A : Ab} (hW : Wf A) (hM : MR u A) {f : Nat} (hf : f < 6) {i : Nat} (hi : i < an A) : f_X8_hasOf 33 (nI i) (nI f) u = some (sd A f (line A i)) := by
  have h80 := hW.1.1
  exact hasOf_l hW hM _ hf (some i) (fun j h => by cases h; exact hi) 1000 (by simp only [dpt]; omega)
theorem sd_range {A : Ab} (hW : Wf A) {f : Nat} (hf : f < 6) : ∀ x : Option Nat, (∀ i, x = some i → i < an A) → -1 ≤ (sd A f (lineO A x)).toInt ∧ (sd A f (lineO A x)).toInt ≤ 999 := by
  refine line_ind hW ?_ ?_
  · show -1 ≤ (-1 : Int32).toInt ∧ (-1 : Int32).toInt ≤ 999
    decide
  · intro i hi ih
    have e : lineO A (some i) = i :: lineO A (par A i) := line_eq hW hi
    rw [e, sd]
    split
    · exact ih
    · exact (hW.1.2 i hi).2.2.2.2.2.2.2.2.2.2 f hf
