/-! SEARCH: numbers -/
theorem l_mod (x : Int) (h : -9223372036854775808 ≤ x ∧ x ≤ 9223372036854775807) : x.bmod (2 ^ 64) = x := Int.bmod_eq_of_le (by omega) (by omega)
theorem l_rng (a : Int64) : -9223372036854775808 ≤ a.toInt ∧ a.toInt ≤ 9223372036854775807 := by
  have h1 := Int64.le_toInt a
  have h2 := Int64.toInt_lt a
  omega
theorem l_rem {a b : Int64} (ha : 0 ≤ a.toInt) (hb : 0 < b.toInt) : (a - a / b * b).toInt = a.toInt % b.toInt := by
  have ra := l_rng a
  have rb := l_rng b
  have hb1 : b ≠ -1 := fun e => by rw [e] at hb; exact absurd hb (by decide)
  have e1 : (a / b).toInt = a.toInt / b.toInt := by rw [Int64.toInt_div_of_ne_right a b hb1, Int.tdiv_eq_ediv_of_nonneg ha]
  have q1 := Int.emod_nonneg a.toInt (show b.toInt ≠ 0 by omega)
  have q2 := Int.emod_lt_of_pos a.toInt hb
  have q3 := Int.mul_ediv_add_emod a.toInt b.toInt
  have e2 : (a / b * b).toInt = a.toInt / b.toInt * b.toInt := by
    rw [Int64.toInt_mul, e1, l_mod]
    rw [Int.mul_comm]
    generalize b.toInt * (a.toInt / b.toInt) = z at *
    omega
  rw [Int64.toInt_sub, e2, l_mod]
  · rw [Int.mul_comm]
    generalize b.toInt * (a.toInt / b.toInt) = z at *
    omega
  · rw [Int.mul_comm]
    generalize b.toInt * (a.toInt / b.toInt) = z at *
    omega
/-- a rest of a rest is less than half -/
theorem half {b r : Int} (h1 : 0 < r) (h2 : r ≤ b) : 2 * (b % r) < b := by
  have q1 := Int.emod_nonneg b (show r ≠ 0 by omega)
  have q2 := Int.emod_lt_of_pos b h1
  have q3 := Int.mul_ediv_add_emod b r
  have q4 : 1 ≤ b / r := by
    have := Int.ediv_le_ediv h1 h2
    rw [Int.ediv_self (by omega)] at this
    exact this
  have q5 : r * 1 ≤ r * (b / r) := Int.mul_le_mul_of_nonneg_left q4 (by omega)
  generalize r * (b / r) = z at *
  omega
theorem l_zero {b : Int64} (h : b.toInt = 0) : b = 0 := Int64.toInt_inj.mp (by rw [h]; rfl)
/-- Euclid, on both sides -/
theorem euc : ∀ (s : Nat) (a b : Int64), 0 < a.toInt → 0 ≤ b.toInt → b.toInt < 2 ^ s → ∃ (r : Int64) (c : Nat), 0 < r.toInt ∧ c ≤ 2 * s ∧
    (∀ (u : Mm) (x y : Int64) (k : Int64 → Int64 → Int32 → Option Int64) (n c0 : Nat), c < n → c0 + c < 200 → L_X7_commonDivisor_9 x y u k n a b (nI c0) = k r 0 (nI (c0 + c))) ∧
    (∀ (w : Mm) (p1 p2 p3 : Int32) (x y z : Int64) (k : Int64 → Int64 → Option (Int32 × Mm)) (n : Nat), c < n → L_X8_search_322 33 p1 p2 p3 x y z w k n a b = k r 0) := by
  have stop : ∀ (s : Nat) (a : Int64), 0 < a.toInt → ∃ (r : Int64) (c : Nat), 0 < r.toInt ∧ c ≤ 2 * s ∧
    (∀ (u : Mm) (x y : Int64) (k : Int64 → Int64 → Int32 → Option Int64) (n c0 : Nat), c < n → c0 + c < 200 → L_X7_commonDivisor_9 x y u k n a 0 (nI c0) = k r 0 (nI (c0 + c))) ∧
    (∀ (w : Mm) (p1 p2 p3 : Int32) (x y z : Int64) (k : Int64 → Int64 → Option (Int32 × Mm)) (n : Nat), c < n → L_X8_search_322 33 p1 p2 p3 x y z w k n a 0 = k r 0) := fun s a ha => by
    refine ⟨a, 0, ha, by omega, fun u x y k n c0 h1 h2 => ?_, fun w p1 p2 p3 x y z k n h1 => ?_⟩
    · obtain ⟨n, rfl⟩ : ∃ b, n = b + 1 := ⟨n - 1, by omega⟩
      rw [L_X7_commonDivisor_9, if_neg (by rw [show (200 : Int32) = nI 200 from rfl]; exact nI_ge (by omega) (by omega)), if_pos (by decide)]
      rfl
    · obtain ⟨n, rfl⟩ : ∃ b, n = b + 1 := ⟨n - 1, by omega⟩
      rw [L_X8_search_322, if_pos (by decide)]
  intro s
  induction s with
  | zero =>
    intro a b ha hb hs
    have e : b = 0 := l_zero (by omega)
    subst e
    exact stop 0 a ha
  | succ s ih =>
    intro a b ha hb hs
    by_cases c1 : b.toInt = 0
    · have e : b = 0 := l_zero c1
      subst e
      exact stop (s + 1) a ha
    · have hbp : 0 < b.toInt := by omega
      have hb0 : ¬ b = 0 := fun e => c1 (by rw [e]; rfl)
      have bc : ¬ lg_cmp b 0 = 0 := fun e => hb0 ((lg_cmp_eq b 0).mp e)
      have r1 := l_rem (a := a) (b := b) (by omega) hbp
      have m1 := Int.emod_nonneg a.toInt (show b.toInt ≠ 0 by omega)
      have m2 := Int.emod_lt_of_pos a.toInt hbp
      generalize hr : a - a / b * b = r at *
      have st7 : ∀ (u : Mm) (x y : Int64) (k : Int64 → Int64 → Int32 → Option Int64) (n c0 : Nat), c0 < 200 → L_X7_commonDivisor_9 x y u k (n + 1) a b (nI c0) = L_X7_commonDivisor_9 x y u k n b r (nI (c0 + 1)) := fun u x y k n c0 h => by
        rw [L_X7_commonDivisor_9, if_neg (by rw [show (200 : Int32) = nI 200 from rfl]; exact nI_ge (by omega) (by omega)), if_neg bc, decide_eq_true hb0, gd_t, bb_e, bb_e, hr, nI_1]
      have st8 : ∀ (w : Mm) (p1 p2 p3 : Int32) (x y z : Int64) (k : Int64 → Int64 → Option (Int32 × Mm)) (n : Nat), L_X8_search_322 33 p1 p2 p3 x y z w k (n + 1) a b = L_X8_search_322 33 p1 p2 p3 x y z w k n b r := fun w p1 p2 p3 x y z k n => by
        rw [L_X8_search_322, if_neg bc, decide_eq_true hb0, gd_t, bb_e, hr]
      by_cases c2 : r.toInt = 0
      · have e : r = 0 := l_zero c2
        subst e
        obtain ⟨r', c, q1, q2, q3, q4⟩ := stop 0 b hbp
        refine ⟨r', c + 1, q1, by omega, fun u x y k n c0 h1 h2 => ?_, fun w p1 p2 p3 x y z k n h1 => ?_⟩
        · obtain ⟨n, rfl⟩ : ∃ b, n = b + 1 := ⟨n - 1, by omega⟩
          rw [st7 _ _ _ _ _ _ (by omega), q3 _ _ _ _ _ _ (by omega) (by omega), Nat.add_assoc, Nat.add_comm 1 c]
        · obtain ⟨n, rfl⟩ : ∃ b, n = b + 1 := ⟨n - 1, by omega⟩
          rw [st8, q4 _ _ _ _ _ _ _ _ _ (by omega)]
      · have hrp : 0 < r.toInt := by omega
        have hr0 : ¬ r = 0 := fun e => c2 (by rw [e]; rfl)
        have rc : ¬ lg_cmp r 0 = 0 := fun e => hr0 ((lg_cmp_eq r 0).mp e)
        have r2 := l_rem (a := b) (b := r) (by omega) hrp
        have hh := half (b := b.toInt) (r := r.toInt) hrp (by omega)
        have m3 := Int.emod_nonneg b.toInt (show r.toInt ≠ 0 by omega)
        generalize hq : b - b / r * r = q at *
        obtain ⟨r', c, q1, q2, q3, q4⟩ := ih r q hrp (by omega) (by
          rw [Int.pow_succ] at hs
          omega)
        refine ⟨r', c + 2, q1, by omega, fun u x y k n c0 h1 h2 => ?_, fun w p1 p2 p3 x y z k n h1 => ?_⟩
        · obtain ⟨n, rfl⟩ : ∃ b, n = b + 2 := ⟨n - 2, by omega⟩
          rw [st7 _ _ _ _ _ _ (by omega), L_X7_commonDivisor_9, if_neg (by rw [show (200 : Int32) = nI 200 from rfl]; exact nI_ge (by omega) (by omega)), if_neg rc, decide_eq_true hr0, gd_t, bb_e, bb_e, hq, nI_1, q3 _ _ _ _ _ _ (by omega) (by omega)]
          rw [show c0 + 1 + 1 + c = c0 + (c + 2) by omega]
        · obtain ⟨n, rfl⟩ : ∃ b, n = b + 2 := ⟨n - 2, by omega⟩
          rw [st8, L_X8_search_322, if_neg rc, decide_eq_true hr0, gd_t, bb_e, hq, q4 _ _ _ _ _ _ _ _ _ (by omega)]
/-- the order of looking -/
def chp (wt ct : Nat → Int64) (x y : Nat) : Bool := decide (ct x * wt y < ct y * wt x)
def pos (C : Nat → Bool) (g : Nat → Nat) : Nat → Nat
  | 0 => 0
  | a + 1 => if C (g a) = true then pos C g a else a + 1
def ins (g : Nat → Nat) (b x : Nat) : Nat → Nat := fun i => if i < b then g i else if i = b then x else g (i - 1)
def ord (wt ct : Nat → Int64) : Nat → Nat → Nat
  | 0 => fun _ => 0
  | m + 1 => ins (ord wt ct m) (pos (chp wt ct m) (ord wt ct m) m) m
theorem pos_le (C : Nat → Bool) (g : Nat → Nat) : ∀ a, pos C g a ≤ a
  | 0 => Nat.le_refl _
  | a + 1 => by
    unfold pos
    split
    · exact Nat.le_succ_of_le (pos_le C g a)
    · exact Nat.le_refl _
theorem ord_lt (wt ct : Nat → Int64) : ∀ m i, i < m → ord wt ct m i < m
  | 0, i, h => by omega
  | m + 1, i, h => by
    have hp := pos_le (chp wt ct m) (ord wt ct m) m
    show ins (ord wt ct m) (pos (chp wt ct m) (ord wt ct m) m) m i < m + 1
    unfold ins
    by_cases c1 : i < pos (chp wt ct m) (ord wt ct m) m
    · rw [if_pos c1]
      have := ord_lt wt ct m i (by omega)
      omega
    · rw [if_neg c1]
      by_cases c2 : i = pos (chp wt ct m) (ord wt ct m) m
      · rw [if_pos c2]; omega
      · rw [if_neg c2]
        have := ord_lt wt ct m (i - 1) (by omega)
        omega
def cc (ct : Nat → Int64) (g : Nat → Nat) : Nat → Int64
  | 0 => 0
  | i + 1 => cc ct g i + ct (g i)
def wc (wt ct : Nat → Int64) (g : Nat → Nat) : Nat → Int64
  | 0 => 0
  | i + 1 => wc wt ct g i + wt (g i) * cc ct g (i + 1)
theorem cc_ext {ct : Nat → Int64} {g g' : Nat → Nat} : ∀ m, (∀ i, i < m → g i = g' i) → cc ct g m = cc ct g' m
  | 0, _ => rfl
  | m + 1, h => by rw [cc, cc, h m (by omega), cc_ext m (fun i hi => h i (by omega))]
theorem cc_ins {ct : Nat → Int64} {g : Nat → Nat} {b x : Nat} : ∀ m, b ≤ m → cc ct (ins g b x) (m + 1) = cc ct g m + ct x
  | m, h => by
    by_cases e : b = m
    · subst e
      rw [cc, cc_ext (g' := g) b (fun i hi => by unfold ins; rw [if_pos hi])]
      unfold ins
      rw [if_neg (by omega), if_pos rfl]
    · obtain ⟨m, rfl⟩ : ∃ a, m = a + 1 := ⟨m - 1, by omega⟩
      rw [cc, cc_ins m (by omega), cc]
      have : ins g b x (m + 1) = g m := by
        unfold ins
        rw [if_neg (by omega), if_neg (by omega), Nat.add_sub_cancel]
      rw [this, Int64.add_assoc, Int64.add_assoc, Int64.add_comm (ct x)]
theorem cc_ord (wt ct : Nat → Int64) : ∀ m, cc wt (ord wt ct m) m = cc wt (fun i => i) m
  | 0 => rfl
  | m + 1 => by
    show cc wt (ins (ord wt ct m) (pos (chp wt ct m) (ord wt ct m) m) m) (m + 1) = _
    rw [cc_ins m (pos_le _ _ _), cc_ord wt ct m, cc]
def fit (x : Int64) : Prop := 1 ≤ x.toInt ∧ x.toInt ≤ 999
theorem cc_r {ct : Nat → Int64} {g : Nat → Nat} {M : Nat} (hM : M ≤ 20) (hf : ∀ i, i < M → fit (ct (g i))) : ∀ m, m ≤ M → (m : Int) ≤ (cc ct g m).toInt ∧ (cc ct g m).toInt ≤ 999 * (m : Int)
  | 0, _ => by rw [cc, Int64.toInt_zero]; omega
  | m + 1, h => by
    have ih := cc_r hM hf m (by omega)
    have h1 := hf m (by omega)
    unfold fit at h1
    rw [cc, Int64.toInt_add, l_mod _ (by omega)]
    omega
theorem wc_r {wt ct : Nat → Int64} {g : Nat → Nat} {M : Nat} (hM : M ≤ 20) (hf : ∀ i, i < M → fit (wt (g i)) ∧ fit (ct (g i))) : ∀ m, m ≤ M → (m : Int) ≤ (wc wt ct g m).toInt ∧ (wc wt ct g m).toInt ≤ 19960020 * (m : Int)
  | 0, _ => by rw [wc, Int64.toInt_zero]; omega
  | m + 1, h => by
    have ih := wc_r hM hf m (by omega)
    obtain ⟨h1, h2⟩ := (hf m (by omega)).1
    have h3 := cc_r hM (fun i hi => (hf i hi).2) (m + 1) h
    have p1 : (wt (g m)).toInt * (cc ct g (m + 1)).toInt ≤ 999 * 19980 := Int.mul_le_mul h2 (by omega) (by omega) (by omega)
    have p2 : 1 * 1 ≤ (wt (g m)).toInt * (cc ct g (m + 1)).toInt := Int.mul_le_mul h1 (by omega) (by omega) (by omega)
    have e : (wt (g m) * cc ct g (m + 1)).toInt = (wt (g m)).toInt * (cc ct g (m + 1)).toInt := by rw [Int64.toInt_mul, l_mod _ (by omega)]
    rw [wc, Int64.toInt_add, e, l_mod _ (by omega)]
    omega
