/-! PLAN: the steps, without any memory -/
def emp (f : Nat → Int32) (p : Int32) : Bool := !ex (fun i => decide (f i = p)) 0 80
def ast (G f : Nat → Int32) (i : Nat) : Bool := !decide (f i = -1) && (!decide (G i = -1) && !decide (f i = G i))
def gop (G f : Nat → Int32) (i : Nat) : Bool := ast G f i && emp f (G i)
def nxt (G f : Nat → Int32) : Option Nat := match kth (gop G f) 0 80 0 with
  | some b => some b
  | none => kth (ast G f) 0 80 0
def lem (f : Nat → Int32) : Option Nat := kth (fun p => emp f (nI p)) 0 40 0
def dst (G f : Nat → Int32) (b : Nat) : Option Int32 := if emp f (G b) = true then some (G b) else (lem f).map nI
abbrev PS : Type := (Nat → Int32) × Nat × (Nat → Int32) × (Nat → Int32) × (Nat → Int32)
def u1 (g : Nat → Int32) (k : Nat) (v : Int32) : Nat → Int32 := fun j => if j = k then v else g j
theorem u1_e {g : Nat → Int32} {k : Nat} {v : Int32} : u1 g k v k = v := if_pos rfl
theorem u1_n {g : Nat → Int32} {k j : Nat} {v : Int32} (h : j ≠ k) : u1 g k v j = g j := if_neg h
def mvS (s : PS) (b : Nat) (p : Int32) : PS := (u1 s.1 b p, s.2.1 + 1, u1 s.2.2.1 s.2.1 (nI b), u1 s.2.2.2.1 s.2.1 (s.1 b), u1 s.2.2.2.2 s.2.1 p)
def pl (G : Nat → Int32) : Nat → PS → Option PS
  | 0, s => some s
  | n + 1, s => match nxt G s.1 with
    | none => some s
    | some b => match dst G s.1 b with
      | none => none
      | some p => pl G n (mvS s b p)
theorem pl_0 {G : Nat → Int32} {n : Nat} {s : PS} (h : nxt G s.1 = none) : pl G n s = some s := by
  cases n with
  | zero => rfl
  | succ n => rw [pl.eq_def]; simp only [h]
theorem pl_n {G : Nat → Int32} {n b : Nat} {s : PS} (h : nxt G s.1 = some b) (h2 : dst G s.1 b = none) : pl G (n + 1) s = none := by rw [pl.eq_def]; simp only [h, h2]
theorem pl_s {G : Nat → Int32} {n b : Nat} {p : Int32} {s : PS} (h : nxt G s.1 = some b) (h2 : dst G s.1 b = some p) : pl G (n + 1) s = pl G n (mvS s b p) := by rw [pl.eq_def]; simp only [h, h2]
theorem emp_t {f : Nat → Int32} {p : Int32} (h : emp f p = true) : ∀ i, i < 80 → f i ≠ p := by
  intro i hi
  have h : ex (fun i => decide (f i = p)) 0 80 = false := by unfold emp at h; simpa using h
  have := ex_no h i (by omega) (by omega)
  exact of_decide_eq_false this
theorem emp_f {f : Nat → Int32} {p : Int32} (h : emp f p = false) : ∃ i, i < 80 ∧ f i = p := by
  have h : ex (fun i => decide (f i = p)) 0 80 = true := by unfold emp at h; simpa using h
  obtain ⟨k, _, k2, k3⟩ := ex_yes h
  exact ⟨k, by omega, of_decide_eq_true k3⟩
theorem emp_i {f : Nat → Int32} {p : Int32} (h : ∀ i, i < 80 → f i ≠ p) : emp f p = true := by
  cases c : emp f p with
  | true => rfl
  | false => obtain ⟨i, h1, h2⟩ := emp_f c; exact absurd h2 (h i h1)
theorem ast_t {G f : Nat → Int32} {i : Nat} : ast G f i = true ↔ f i ≠ -1 ∧ G i ≠ -1 ∧ f i ≠ G i := by
  simp only [ast, Bool.and_eq_true, Bool.not_eq_true', decide_eq_false_iff_not, ne_eq]
theorem kth0_y {P : Nat → Bool} : ∀ {d j b : Nat}, kth P j d 0 = some b → P b = true ∧ ∀ i, j ≤ i → i < b → P i = false
  | 0, j, b, h => by rw [kth.eq_def] at h; cases h
  | d + 1, j, b, h => by
    by_cases c : P j = true
    · rw [kth_0 c] at h; cases h
      exact ⟨c, fun i h1 h2 => by omega⟩
    · have c : P j = false := by simpa using c
      rw [kth_f c] at h
      obtain ⟨h1, h2⟩ := kth0_y h
      refine ⟨h1, fun i h3 h4 => ?_⟩
      by_cases e : i = j
      · subst e; exact c
      · exact h2 i (by omega) h4
theorem kth0_n {P : Nat → Bool} : ∀ {d j : Nat}, kth P j d 0 = none → ∀ i, j ≤ i → i < j + d → P i = false
  | 0, j, h => fun i h1 h2 => by omega
  | d + 1, j, h => by
    by_cases c : P j = true
    · rw [kth_0 c] at h; cases h
    · have c : P j = false := by simpa using c
      rw [kth_f c] at h
      intro i h1 h2
      by_cases e : i = j
      · subst e; exact c
      · exact kth0_n h i (by omega) (by omega)
theorem kth0_none {P : Nat → Bool} : ∀ {d j : Nat}, (∀ i, j ≤ i → i < j + d → P i = false) → kth P j d 0 = none
  | 0, j, h => by rw [kth.eq_def]
  | d + 1, j, h => by
    rw [kth_f (h j (by omega) (by omega))]
    exact kth0_none (fun i h1 h2 => h i (by omega) (by omega))
theorem nxt_s {G f : Nat → Int32} {b : Nat} (h : nxt G f = some b) : b < 80 ∧ ast G f b = true ∧ (emp f (G b) = true ∨ ∀ a, a < 80 → gop G f a = false) := by
  unfold nxt at h
  cases hk : kth (gop G f) 0 80 0 with
  | some b' =>
    rw [hk] at h; cases h
    have h1 := kth_lt hk
    have h2 := (kth0_y hk).1
    simp only [gop, Bool.and_eq_true] at h2
    exact ⟨by omega, h2.1, Or.inl h2.2⟩
  | none =>
    rw [hk] at h
    have h : kth (ast G f) 0 80 0 = some b := h
    have h1 := kth_lt h
    exact ⟨by omega, (kth0_y h).1, Or.inr (fun a ha => kth0_n hk a (by omega) (by omega))⟩
theorem nxt_n {G f : Nat → Int32} (h : nxt G f = none) : ∀ a, a < 80 → ast G f a = false := by
  unfold nxt at h
  cases hk : kth (gop G f) 0 80 0 with
  | some b' => rw [hk] at h; cases h
  | none =>
    rw [hk] at h
    have h : kth (ast G f) 0 80 0 = none := h
    exact fun a ha => kth0_n h a (by omega) (by omega)
theorem nxt_none {G f : Nat → Int32} (h : ∀ a, a < 80 → ast G f a = false) : nxt G f = none := by
  have h1 : kth (gop G f) 0 80 0 = none := kth0_none (fun i _ hi => by simp only [gop, h i (by omega), Bool.false_and])
  have h2 : kth (ast G f) 0 80 0 = none := kth0_none (fun i _ hi => h i (by omega))
  unfold nxt
  rw [h1]
  exact h2
theorem dst_s {G f : Nat → Int32} {b : Nat} {p : Int32} (hb : 0 ≤ (G b).toInt ∧ (G b).toInt < 40) (h : dst G f b = some p) : (0 ≤ p.toInt ∧ p.toInt < 40) ∧ emp f p = true ∧ (emp f (G b) = true → p = G b) := by
  unfold dst at h
  by_cases c : emp f (G b) = true
  · rw [if_pos c] at h; cases h
    exact ⟨hb, c, fun _ => rfl⟩
  · rw [if_neg c] at h
    cases hl : lem f with
    | none => rw [hl] at h; cases h
    | some q =>
      rw [hl] at h; cases h
      have h1 := kth_lt hl
      have h2 := (kth0_y hl).1
      refine ⟨?_, h2, fun q => absurd q c⟩
      rw [nI_toInt (by omega)]; omega
-- counting
theorem cf_ext {P Q : Nat → Bool} : ∀ (d j : Nat), (∀ i, j ≤ i → i < j + d → P i = Q i) → cf P j d = cf Q j d
  | 0, j, h => rfl
  | d + 1, j, h => by
    rw [cf, cf, h j (by omega) (by omega), cf_ext d (j + 1) (fun i h1 h2 => h i (by omega) (by omega))]
theorem cf_flip {P Q : Nat → Bool} {b : Nat} (hP : P b = true) (hQ : Q b = false) : ∀ (d j : Nat), j ≤ b → b < j + d → (∀ i, j ≤ i → i < j + d → i ≠ b → P i = Q i) → cf P j d = cf Q j d + 1
  | 0, j, h1, h2, h => by omega
  | d + 1, j, h1, h2, h => by
    rw [cf, cf]
    by_cases e : j = b
    · subst e
      rw [hP, hQ, cf_ext d (j + 1) (fun i a1 a2 => h i (by omega) (by omega) (by omega))]
      simp only [↓reduceIte, Bool.false_eq_true]
      omega
    · rw [h j (by omega) (by omega) e, cf_flip hP hQ d (j + 1) (by omega) (by omega) (fun i a1 a2 => h i (by omega) (by omega))]
      omega
theorem cf_0 {P : Nat → Bool} : ∀ (d j : Nat), cf P j d = 0 → ∀ i, j ≤ i → i < j + d → P i = false
  | 0, j, h => fun i h1 h2 => by omega
  | d + 1, j, h => by
    rw [cf] at h
    intro i h1 h2
    by_cases c : P j = true
    · rw [if_pos c] at h; omega
    · by_cases e : i = j
      · subst e; simpa using c
      · exact cf_0 d (j + 1) (by omega) i (by omega) (by omega)
theorem cf_pos {P : Nat → Bool} {d j b : Nat} (h1 : j ≤ b) (h2 : b < j + d) (h : P b = true) : 0 < cf P j d := by
  refine Nat.pos_of_ne_zero (fun q => ?_)
  have := cf_0 d j q b h1 h2
  rw [h] at this; cases this
theorem cf_none {P : Nat → Bool} {d j : Nat} (h : ∀ i, j ≤ i → i < j + d → P i = false) : cf P j d = 0 := by
  rw [cf_ext (Q := fun _ => false) d j h]
  induction d generalizing j with
  | zero => rfl
  | succ d ih => rw [cf, ih (fun i a b => h i (by omega) (by omega))]; rfl
/-- no more of P than of Q, if each of P has one of Q for itself -/
theorem inj_le {P : Nat → Bool} {Rl : Nat → Nat → Prop} {N : Nat} : ∀ (k : Nat) (Q : Nat → Bool), (∀ i, i < k → P i = true → ∃ j, j < N ∧ Q j = true ∧ Rl i j) → (∀ i i' j, i < k → i' < k → P i = true → P i' = true → Rl i j → Rl i' j → i = i') → cf P 0 k ≤ cf Q 0 N
  | 0, Q, _, _ => Nat.zero_le _
  | k + 1, Q, h1, h2 => by
    rw [cf_snoc, Nat.zero_add]
    by_cases c : P k = true
    · rw [if_pos c]
      obtain ⟨j, j1, j2, j3⟩ := h1 k (by omega) c
      have := inj_le k (fun x => Q x && !decide (x = j)) (fun i hi hp => by
        obtain ⟨j', a1, a2, a3⟩ := h1 i (by omega) hp
        refine ⟨j', a1, ?_, a3⟩
        have : j' ≠ j := fun e => by
          subst e
          have := h2 i k j' (by omega) (by omega) hp c a3 j3
          omega
        simp [a2, this]) (fun i i' j' a1 a2 => h2 i i' j' (by omega) (by omega))
      have e := cf_flip (P := Q) (Q := fun x => Q x && !decide (x = j)) (b := j) j2 (by simp) N 0 (by omega) (by omega) (fun i _ _ hne => by simp [hne])
      omega
    · rw [if_neg c]
      exact inj_le k Q (fun i hi => h1 i (by omega)) (fun i i' j' a1 a2 => h2 i i' j' (by omega) (by omega))
/-- goals, places -/
def okG (G : Nat → Int32) (n : Nat) : Prop := (∀ a b, a ≠ b → G a = G b → G a = -1) ∧ (∀ a, -1 ≤ (G a).toInt ∧ (G a).toInt < 40) ∧ ∀ a, n ≤ a → G a = -1
def okF (G f : Nat → Int32) (n : Nat) : Prop := (∀ a b, a < 80 → b < 80 → a ≠ b → f a = f b → f a = -1) ∧ (∀ a, a < 80 → -1 ≤ (f a).toInt ∧ (f a).toInt < 40) ∧ (∀ a, n ≤ a → f a = -1) ∧ ∀ a, a < 80 → ast G f a = true → ∀ i, i < 80 → f i = G a → G i ≠ -1
theorem ge0 {x : Int32} (h : x ≠ -1) (hr : -1 ≤ x.toInt ∧ x.toInt < 40) : 0 ≤ x.toInt ∧ x.toInt < 40 := by
  have := i_ne h
  omega
theorem okF_s {G f : Nat → Int32} {n b : Nat} {p : Int32} (hF : okF G f n) (hb : b < 80) (ha : ast G f b = true) (hp : 0 ≤ p.toInt ∧ p.toInt < 40) (he : emp f p = true) : okF G (u1 f b p) n := by
  obtain ⟨f1, f2, f3, f4⟩ := hF
  obtain ⟨a1, a2, a3⟩ := ast_t.mp ha
  have he := emp_t he
  refine ⟨fun a a' h1 h2 h3 h4 => ?_, fun a h => ?_, fun a h => ?_, fun a h h' i hi h'' => ?_⟩
  · by_cases c : a = b
    · subst c
      rw [u1_e, u1_n (Ne.symm h3)] at h4
      exact absurd h4.symm (he a' h2)
    · rw [u1_n c] at h4 ⊢
      by_cases c' : a' = b
      · subst c'
        rw [u1_e] at h4
        exact absurd h4 (he a h1)
      · rw [u1_n c'] at h4
        exact f1 a a' h1 h2 h3 h4
  · by_cases c : a = b
    · subst c; rw [u1_e]; omega
    · rw [u1_n c]; exact f2 a h
  · have c : a ≠ b := fun e => a1 (by rw [← e]; exact f3 a h)
    rw [u1_n c]; exact f3 a h
  · by_cases c : i = b
    · subst c; exact a2
    · rw [u1_n c] at h''
      by_cases c' : a = b
      · subst c'; exact f4 a h ha i hi h''
      · refine f4 a h ?_ i hi h''
        unfold ast at h' ⊢
        rw [u1_n c'] at h'
        exact h'
/-- every one astray stands at the goal of one astray, if no goal of theirs is empty -/
theorem onto {G f : Nat → Int32} {n b : Nat} (hG : okG G n) (hF : okF G f n) (hb : b < 80) (ha : ast G f b = true) (h : ∀ a, a < 80 → gop G f a = false) : ∃ a, a < 80 ∧ ast G f a = true ∧ G a = f b := by
  refine Decidable.byContradiction (fun q => ?_)
  have q : ∀ a, a < 80 → ast G f a = true → G a ≠ f b := fun a h1 h2 h3 => q ⟨a, h1, h2, h3⟩
  obtain ⟨f1, f2, f3, f4⟩ := hF
  have := inj_le (P := ast G f) (Rl := fun i j => f j = G i) (N := 80) 80 (fun x => ast G f x && !decide (x = b)) (fun i hi hp => by
    have hg := h i hi
    simp only [gop, hp, Bool.true_and] at hg
    obtain ⟨j, j1, j2⟩ := emp_f hg
    refine ⟨j, j1, ?_, j2⟩
    have hne : j ≠ b := fun e => by subst e; exact q i hi hp j2.symm
    obtain ⟨i1, i2, i3⟩ := ast_t.mp hp
    have hj : ast G f j = true := by
      refine ast_t.mpr ⟨by rw [j2]; exact i2, f4 i hi hp j j1 j2, fun e => ?_⟩
      have hij : i ≠ j := fun e => by subst e; exact i3 j2
      exact i2 (hG.1 i j hij (by rw [← j2, e]))
    simp [hj, hne]) (fun i i' j a1 a2 p1 p2 r1 r2 => by
    refine Decidable.byContradiction (fun hne => ?_)
    exact (ast_t.mp p1).2.1 (hG.1 i i' hne (by rw [← r1, ← r2])))
  have e := cf_flip (P := ast G f) (Q := fun x => ast G f x && !decide (x = b)) (b := b) ha (by simp) 80 0 (by omega) (by omega) (fun i _ _ hne => by simp [hne])
  omega
/-- what falls with each step -/
def phi (G f : Nat → Int32) : Nat := 2 * cf (ast G f) 0 80 - (if ex (gop G f) 0 80 = true then 1 else 0)
theorem ex_t {P : Nat → Bool} : ∀ (d j b : Nat), j ≤ b → b < j + d → P b = true → ex P j d = true := by
  intro d j b h1 h2 h3
  cases h : ex P j d with
  | true => rfl
  | false => have := ex_no h b h1 h2; rw [h3] at this; cases this
theorem phi_s {G f : Nat → Int32} {n b : Nat} {p : Int32} (hG : okG G n) (hF : okF G f n) (h1 : nxt G f = some b) (h2 : dst G f b = some p) : okF G (u1 f b p) n ∧ phi G (u1 f b p) < phi G f ∧ cf (ast G f) 0 80 = cf (ast G (u1 f b p)) 0 80 + (if emp f (G b) = true then 1 else 0) := by
  obtain ⟨b1, b2, b3⟩ := nxt_s h1
  obtain ⟨a1, a2, a3⟩ := ast_t.mp b2
  obtain ⟨p1, p2, p3⟩ := dst_s (ge0 a2 (hG.2.1 b)) h2
  have hc := cf_pos (P := ast G f) (j := 0) (d := 80) (by omega) (by omega) b2
  have oth : ∀ i, i ≠ b → ast G f i = ast G (u1 f b p) i := fun i hi => by unfold ast; rw [u1_n hi]
  refine ⟨okF_s hF b1 b2 p1 p2, ?_⟩
  by_cases c : emp f (G b) = true
  · have hpb := p3 c
    have e := cf_flip (P := ast G f) (Q := ast G (u1 f b p)) (b := b) b2 (by unfold ast; rw [u1_e, hpb]; simp) 80 0 (by omega) (by omega) (fun i _ _ hi => oth i hi)
    rw [if_pos c]
    refine ⟨?_, e⟩
    unfold phi
    split <;> split <;> omega
  · rw [if_neg c, Nat.add_zero]
    have b3 := b3.resolve_left c
    have e : cf (ast G f) 0 80 = cf (ast G (u1 f b p)) 0 80 := cf_ext 80 0 (fun i _ _ => by
      by_cases hi : i = b
      · subst hi
        rw [b2]
        refine (ast_t.mpr ⟨?_, a2, ?_⟩).symm
        · rw [u1_e]; intro q; rw [q, li_m1] at p1; omega
        · rw [u1_e]; intro q; rw [q] at p2; exact c p2
      · exact oth i hi)
    refine ⟨?_, e⟩
    obtain ⟨a, q1, q2, q3⟩ := onto hG hF b1 b2 b3
    have hab : a ≠ b := fun e => by subst e; exact a3 q3.symm
    have g1 : gop G (u1 f b p) a = true := by
      unfold gop
      rw [← oth a hab, q2, Bool.true_and]
      refine emp_i (fun i hi => ?_)
      rw [q3]
      by_cases hi' : i = b
      · subst hi'; rw [u1_e]; exact fun q => emp_t p2 i b1 q.symm
      · rw [u1_n hi']; exact fun q => a1 (by rw [← q]; exact hF.1 i b hi b1 hi' q)
    have ex1 := ex_t (P := gop G (u1 f b p)) 80 0 a (by omega) (by omega) g1
    have ex0 : ex (gop G f) 0 80 = false := by
      cases h : ex (gop G f) 0 80 with
      | false => rfl
      | true =>
        obtain ⟨k, _, k2, k3⟩ := ex_yes h
        rw [b3 k (by omega)] at k3; cases k3
    unfold phi
    rw [ex1, ex0, if_pos rfl, if_neg (by decide)]
    omega
theorem phi_0 {G f : Nat → Int32} (h : phi G f = 0) : nxt G f = none := by
  have : cf (ast G f) 0 80 = 0 := by
    unfold phi at h
    split at h <;> omega
  exact nxt_none (fun a ha => cf_0 80 0 this a (by omega) (by omega))
theorem phi_80 {G f : Nat → Int32} {n : Nat} (hF : okF G f n) : phi G f ≤ 80 := by
  have := inj_le (P := ast G f) (Rl := fun i j => f i = nI j) (N := 40) 80 (fun _ => true) (fun i hi hp => by
    obtain ⟨a1, -, -⟩ := ast_t.mp hp
    obtain ⟨j, j1, j2⟩ := i_ex2 (n := 40) (ge0 a1 (hF.2.1 i hi))
    exact ⟨j, j1, rfl, j2⟩) (fun i i' j h1 h2 p1 p2 r1 r2 => by
    refine Decidable.byContradiction (fun hne => ?_)
    exact (ast_t.mp p1).1 (hF.1 i i' h1 h2 hne (by rw [r1, r2])))
  have h40 := cf_le (fun _ => true) 40 0
  unfold phi
  omega
