/-! HELD -/
/-- all but the reference's scratch cells as they were -/
def scrM (u v : Mm) : Prop := v.1 = u.1 ∧ (∀ r k, gR v r k = gR u r k) ∧ (∀ r k, gL v r k = gL u r k) ∧ ∀ r k, (r < 49 ∧ r ≠ 33) ∨ (r = 33 ∧ (k = 0 ∨ k = 7 ∨ k = 22)) ∨ (51 ≤ r ∧ r ≤ 53) ∨ 60 ≤ r → gI v r k = gI u r k
theorem scrM.rf {u : Mm} : scrM u u := ⟨rfl, fun _ _ => rfl, fun _ _ => rfl, fun _ _ _ => rfl⟩
theorem scrM.trans {u v w : Mm} (h : scrM u v) (h2 : scrM v w) : scrM u w := ⟨h2.1.trans h.1, fun r k => (h2.2.1 r k).trans (h.2.1 r k), fun r k => (h2.2.2.1 r k).trans (h.2.2.1 r k), fun r k hr => (h2.2.2.2 r k hr).trans (h.2.2.2 r k hr)⟩
theorem scrM.sI {u v : Mm} {r k : Nat} {x : Int32} (h : scrM u v) (hr : r = 49 ∨ r = 50 ∨ (54 ≤ r ∧ r ≤ 59) ∨ (r = 33 ∧ 22 < k)) : scrM u (sI v r k x) := ⟨h.1, h.2.1, h.2.2.1, fun a j ha => by rw [gI_sI, if_neg (by omega)]; exact h.2.2.2 a j ha⟩
theorem MR.scrM {u v : Mm} {A : Ab} (hM : MR u A) (k : scrM u v) : MR v A := by
  obtain ⟨h1, h2, h3, h4, h5, h6, h7, h8⟩ := hM
  obtain ⟨k0, kR, kL, kI⟩ := k
  refine ⟨RM_cong h1 (fun j => kR 33 j), by rw [k0]; exact h2, by rw [kI 33 7 (by omega)]; exact h3, by rw [kI 33 0 (by omega)]; exact h4, ⟨by rw [kL]; exact h5.1, by rw [kL]; exact h5.2⟩, ?_, ?_, ?_⟩
  · exact HT_cong h6 rfl (fun r j _ _ => kI r j (by omega)) (fun _ _ _ _ => rfl)
  · exact HY_cong h7 (fun r j _ _ => kI r j (by omega)) (fun j => kL 36 j) (fun _ _ _ _ => rfl) (fun _ => rfl)
  · exact HL_cong h8 rfl (kI 33 22 (by omega)) (fun r j _ _ => kI r j (by omega)) (fun _ _ _ _ => rfl)
theorem scrM.keepC {u v : Mm} (h : scrM u v) : keepC u v := ⟨h.1, fun r h1 => ⟨fun k => h.2.2.2 r k (by omega), fun k => h.2.2.1 r k, fun k => h.2.1 r k⟩⟩
/-- the first of a line that is k or has a span -/
def stp (A : Ab) (k : Nat) (x : Option Nat) : Option Nat := (lineO A x).find? (fun i => decide (i = k) || !decide (aI A 42 i = -1))
theorem stp_y {A : Ab} (hW : Wf A) {k i : Nat} (hi : i < an A) (h : i = k ∨ aI A 42 i ≠ -1) : stp A k (some i) = some i := by
  have e : lineO A (some i) = i :: lineO A (par A i) := line_eq hW hi
  unfold stp
  rw [e, List.find?_cons_of_pos]
  rcases h with h | h <;> simp [h]
theorem stp_n {A : Ab} (hW : Wf A) {k i : Nat} (hi : i < an A) (h : ¬ (i = k ∨ aI A 42 i ≠ -1)) : stp A k (some i) = stp A k (par A i) := by
  have e : lineO A (some i) = i :: lineO A (par A i) := line_eq hW hi
  unfold stp
  rw [e, List.find?_cons_of_neg]
  have h1 : i ≠ k := fun q => h (Or.inl q)
  have h2 : aI A 42 i = -1 := Decidable.not_not.mp (fun q => h (Or.inr q))
  simp [h1, h2]
theorem shw_l {u : Mm} {A : Ab} (hW : Wf A) (hC : CR u A) {r t : Nat} {k : Option Nat → Option Int32} : ∀ x : Option Nat, (∀ i, x = some i → i < an A) → ∀ n, dpt x < n → L_X5_showsSpanTo_5 r (some (60 + 2 * t)) u k n (pC x) = k (pC (stp A t x)) := by
  refine line_ind hW ?_ ?_
  · intro n hn
    obtain ⟨n, rfl⟩ : ∃ a, n = a + 1 := ⟨n - 1, by omega⟩
    rfl
  · intro i hi ih n hn
    obtain ⟨n, rfl⟩ : ∃ a, n = a + 1 := ⟨n - 1, by omega⟩
    have hd := dpt_par hW hi
    have hN := hC.2.1.1
    obtain ⟨-, -, -, t4, -⟩ := hC.2.2.2.2.1 i hi
    have hsp := hasSpan_t hC hi
    show L_X5_showsSpanTo_5 r (some (60 + 2 * t)) u k (n + 1) (some (60 + 2 * i)) = _
    rw [L_X5_showsSpanTo_5, cs_s]
    by_cases c : i = t
    · subst c
      rw [if_pos rfl, stp_y hW hi (Or.inl rfl)]
      rfl
    · rw [if_neg (fun q => c (by have := Option.some.inj q; omega)), oT (by omega), gd_t, hsp, bd_s]
      by_cases c2 : aI A 42 i = -1
      · rw [if_pos c2, if_pos rfl, bb_e, t4, stp_n hW hi (fun q => q.elim c (fun q => q c2))]
        exact ih n (by omega)
      · rw [if_neg c2, if_neg (by decide), stp_y hW hi (Or.inr c2)]
        rfl
/-- j's span shows at k -/
def shw (A : Ab) (k j : Nat) : Prop := j < an A ∧ aI A 42 j ≠ -1 ∧ stp A k (par A j) = some k
theorem shw_t {u : Mm} {A : Ab} (hW : Wf A) (hC : CR u A) {t j : Nat} (hj : j < an A) : ∃ b : Int32, f_X5_showsSpanTo (60 + 2 * j) (some (60 + 2 * t)) u = some b ∧ ((b = 0 ∧ ¬ shw A t j) ∨ (b = 1 ∧ shw A t j)) := by
  have h80 := hW.1.1
  have hN := hC.2.1.1
  obtain ⟨-, -, -, t4, -⟩ := hC.2.2.2.2.1 j hj
  have hsp := hasSpan_t hC hj
  rw [f_X5_showsSpanTo, oT (by omega), gd_t, bb_e, t4]
  have := shw_l hW hC (r := 60 + 2 * j) (t := t) (k := fun a9 => bd (f_X5_hasSpan (60 + 2 * j) u) (fun w10 => (if w10 = 0 then some 0 else (if a9 = some (60 + 2 * t) then some 1 else some 0)))) (par A j) (par_ok hW hj) 1000 (by have := dpt_par hW hj; simp only [dpt] at this ⊢; omega)
  rw [show ((par A j).map (fun j => 60 + 2 * j)) = pC (par A j) from rfl, this]
  simp only [hsp, bd_s]
  by_cases c : aI A 42 j = -1
  · exact ⟨0, by rw [if_pos c, if_pos rfl], Or.inl ⟨rfl, fun q => q.2.1 c⟩⟩
  · rw [if_neg c, if_neg (by decide)]
    by_cases c2 : stp A t (par A j) = some t
    · exact ⟨1, by rw [c2]; exact if_pos rfl, Or.inr ⟨rfl, hj, c, c2⟩⟩
    · refine ⟨0, by rw [if_neg]; intro q; apply c2; cases hq : stp A t (par A j) with
        | none => rw [hq] at q; cases q
        | some z => rw [hq] at q; have := Option.some.inj q; simp only at this; congr 1; omega, Or.inl ⟨rfl, fun q => c2 q.2.2⟩⟩
/-- j is one of those whose span p holds -/
def dn (A : Ab) (p j : Nat) : Prop := (aI A 42 p ≠ -1 ∧ j = p ∧ p < an A) ∨ (aI A 42 p = -1 ∧ shw A p j)
theorem stp_up {A : Ab} (hW : Wf A) {p q : Nat} (hq : q < an A) (h1 : aI A 42 q = -1) (h2 : par A q = some p) : ∀ x : Option Nat, (∀ i, x = some i → i < an A) → stp A q x = some q → stp A p x = some p := by
  have hp : p < an A := par_ok hW hq p h2
  have hpq := par_lt hW hq h2
  refine line_ind hW ?_ ?_
  · intro h; cases h
  · intro i hi ih h
    by_cases c : i = q
    · subst c
      rw [stp_n hW hi (fun r => r.elim (by omega) (fun r => r h1)), h2]
      exact stp_y hW hp (Or.inl rfl)
    · by_cases c2 : aI A 42 i = -1
      · rw [stp_n hW hi (fun r => r.elim c (fun r => r c2))] at h
        by_cases c3 : i = p
        · subst c3; exact stp_y hW hi (Or.inl rfl)
        · rw [stp_n hW hi (fun r => r.elim c3 (fun r => r c2))]
          exact ih h
      · rw [stp_y hW hi (Or.inr c2)] at h
        exact absurd (Option.some.inj h) c
theorem stp_dn {A : Ab} (hW : Wf A) {p : Nat} : ∀ x : Option Nat, (∀ i, x = some i → i < an A) → ∀ i, x = some i → aI A 42 i = -1 → i ≠ p → stp A p (par A i) = some p → ∃ q, q < an A ∧ par A q = some p ∧ aI A 42 q = -1 ∧ stp A q (some i) = some q := by
  refine line_ind hW ?_ ?_
  · intro i h; cases h
  · intro i hi ih i' e h1 h3 h2
    cases e
    cases hp : par A i with
    | none => rw [hp] at h2; cases h2
    | some i' =>
      rw [hp] at h2 ih
      have hi' := par_ok hW hi i' hp
      by_cases c : i' = p
      · subst c
        exact ⟨i, hi, hp, h1, stp_y hW hi (Or.inl rfl)⟩
      · by_cases c2 : aI A 42 i' = -1
        · rw [stp_n hW hi' (fun r => r.elim c (fun r => r c2))] at h2
          obtain ⟨q, q1, q2, q3, q4⟩ := ih i' rfl c2 c h2
          refine ⟨q, q1, q2, q3, ?_⟩
          by_cases c3 : i = q
          · subst c3; exact stp_y hW hi (Or.inl rfl)
          · rw [stp_n hW hi (fun r => r.elim c3 (fun r => r h1)), hp]
            exact q4
        · rw [stp_y hW hi' (Or.inr c2)] at h2
          exact absurd (Option.some.inj h2) c
theorem dn_eq {A : Ab} (hW : Wf A) {p : Nat} (hp : aI A 42 p = -1) (j : Nat) : dn A p j ↔ ∃ q, q < an A ∧ par A q = some p ∧ dn A q j := by
  constructor
  · intro h
    rcases h with h | ⟨-, hj, h1, h2⟩
    · exact absurd hp h.1
    · cases he : par A j with
      | none => rw [he] at h2; cases h2
      | some i =>
        have hi := par_ok hW hj i he
        rw [he] at h2
        by_cases c : i = p
        · subst c
          exact ⟨j, hj, he, Or.inl ⟨h1, rfl, hj⟩⟩
        · by_cases c2 : aI A 42 i = -1
          · rw [stp_n hW hi (fun r => r.elim c (fun r => r c2))] at h2
            obtain ⟨q, q1, q2, q3, q4⟩ := stp_dn hW (p := p) (some i) (fun i' h => by cases h; exact hi) i rfl c2 c h2
            exact ⟨q, q1, q2, Or.inr ⟨q3, hj, h1, by rw [he]; exact q4⟩⟩
          · rw [stp_y hW hi (Or.inr c2)] at h2
            exact absurd (Option.some.inj h2) c
  · rintro ⟨q, q1, q2, q3⟩
    have hpn := par_ok hW q1 p q2
    rcases q3 with ⟨a1, rfl, -⟩ | ⟨a1, hj, a2, a3⟩
    · exact Or.inr ⟨hp, q1, a1, by rw [q2]; exact stp_y hW hpn (Or.inl rfl)⟩
    · exact Or.inr ⟨hp, hj, a2, stp_up hW q1 a1 q2 _ (par_ok hW hj) a3⟩
/-- the best of those with P: -1 if there is none -/
def isx (R : Int → Int → Prop) (f : Nat → Int32) (P : Nat → Prop) (r : Int32) : Prop := (r = -1 ∧ ∀ j, ¬ P j) ∨ ∃ j, P j ∧ r = f j ∧ ∀ i, P i → R (f j).toInt (f i).toInt
theorem isx_u {R : Int → Int → Prop} (hR : ∀ a b, R a b → R b a → a = b) {f : Nat → Int32} {P : Nat → Prop} (hf : ∀ j, P j → f j ≠ -1) {r s : Int32} (h1 : isx R f P r) (h2 : isx R f P s) : r = s := by
  rcases h1 with ⟨rfl, h1⟩ | ⟨j, a1, rfl, a3⟩
  · rcases h2 with ⟨rfl, h2⟩ | ⟨j, b1, -, -⟩
    · rfl
    · exact absurd b1 (h1 j)
  · rcases h2 with ⟨rfl, h2⟩ | ⟨i, b1, rfl, b3⟩
    · exact absurd a1 (h2 j)
    · rw [i_eq]; exact hR _ _ (a3 i b1) (b3 j a1)
theorem isx_c {R : Int → Int → Prop} {f : Nat → Int32} {P Q : Nat → Prop} {r : Int32} (h : isx R f P r) (e : ∀ j, P j ↔ Q j) : isx R f Q r := by
  rcases h with ⟨h1, h2⟩ | ⟨j, a1, a2, a3⟩
  · exact Or.inl ⟨h1, fun j q => h2 j ((e j).mpr q)⟩
  · exact Or.inr ⟨j, (e j).mp a1, a2, fun i q => a3 i ((e i).mpr q)⟩
/-- two lots together -/
theorem isx_j {R : Int → Int → Prop} (hT : ∀ a b c, R a b → R b c → R a c) {f : Nat → Int32} {P Q S : Nat → Prop} {r s t : Int32} (h1 : isx R f P r) (h2 : isx R f Q s) (hf : ∀ j, P j ∨ Q j → f j ≠ -1) (e : ∀ j, S j ↔ P j ∨ Q j) (ht : (s = -1 ∧ t = r) ∨ (r = -1 ∧ t = s) ∨ (R s.toInt r.toInt ∧ t = s) ∨ (R r.toInt s.toInt ∧ t = r)) (hz : r = -1 ∨ s = -1 → (s = -1 ∧ t = r) ∨ (r = -1 ∧ t = s)) : isx R f S t := by
  rcases h2 with ⟨rfl, h2⟩ | ⟨j, a1, rfl, a3⟩
  · have h1' : isx R f S r := isx_c h1 (fun j => by rw [e]; exact ⟨Or.inl, fun q => q.resolve_right (h2 j)⟩)
    rcases hz (Or.inr rfl) with ⟨-, rfl⟩ | ⟨rfl, rfl⟩
    · exact h1'
    · exact h1'
  · have fj := hf j (Or.inr a1)
    rcases h1 with ⟨rfl, h1⟩ | ⟨i, b1, rfl, b3⟩
    · have : t = f j := by
        rcases hz (Or.inl rfl) with ⟨q, -⟩ | ⟨-, h⟩
        · exact absurd q fj
        · exact h
      subst this
      exact Or.inr ⟨j, (e j).mpr (Or.inr a1), rfl, fun i q => a3 i (((e i).mp q).resolve_left (h1 i))⟩
    · have fi := hf i (Or.inl b1)
      rcases ht with ⟨q, -⟩ | ⟨q, -⟩ | ⟨h, rfl⟩ | ⟨h, rfl⟩
      · exact absurd q fj
      · exact absurd q fi
      · exact Or.inr ⟨j, (e j).mpr (Or.inr a1), rfl, fun k q => ((e k).mp q).elim (fun q => hT _ _ _ h (b3 k q)) (fun q => a3 k q)⟩
      · exact Or.inr ⟨i, (e i).mpr (Or.inl b1), rfl, fun k q => ((e k).mp q).elim (fun q => b3 k q) (fun q => hT _ _ _ h (a3 k q))⟩
theorem isx_1 {R : Int → Int → Prop} (hr : ∀ a, R a a) {f : Nat → Int32} (c : Nat) {P : Nat → Prop} (h : ∀ j, P j ↔ j = c) : isx R f P (f c) := Or.inr ⟨c, (h c).mpr rfl, rfl, fun i q => by rw [(h i).mp q]; exact hr _⟩
theorem isx_0 {R : Int → Int → Prop} {f : Nat → Int32} {P : Nat → Prop} (h : ∀ j, ¬ P j) : isx R f P (-1) := Or.inl ⟨rfl, h⟩
theorem isx_r {R : Int → Int → Prop} {f : Nat → Int32} {P : Nat → Prop} (hf : ∀ j, P j → 0 ≤ (f j).toInt) {r : Int32} (h : isx R f P r) : (r.toInt = -1 ∧ ∀ j, ¬ P j) ∨ (0 ≤ r.toInt ∧ ∃ j, P j) := by
  rcases h with ⟨rfl, h⟩ | ⟨j, a1, rfl, -⟩
  · exact Or.inl ⟨li_m1, h⟩
  · exact Or.inr ⟨hf j a1, j, a1⟩
theorem i_is {x : Int32} {k : Int32} (h : x.toInt = k.toInt) : x = k := by rw [i_eq]; exact h
theorem sp_ge {A : Ab} (hW : Wf A) {j : Nat} (hj : j < an A) (h : aI A 42 j ≠ -1) : 0 ≤ (aI A 42 j).toInt ∧ 0 ≤ (aI A 43 j).toInt := by
  have q := (hW.1.2 j hj).2.2.2.2.1
  have q2 := (hW.1.2 j hj).2.2.2.2.2.1 (i_ne h)
  have := i_ne h
  omega
theorem dn_sp {A : Ab} (hW : Wf A) {p j : Nat} (h : dn A p j) : 0 ≤ (aI A 42 j).toInt ∧ 0 ≤ (aI A 43 j).toInt := by
  rcases h with ⟨a, rfl, b⟩ | ⟨-, a, b, -⟩
  · exact sp_ge hW b a
  · exact sp_ge hW a b
abbrev Rle : Int → Int → Prop := fun a b => a ≤ b
abbrev Rge : Int → Int → Prop := fun a b => b ≤ a
theorem tle : ∀ a b c, Rle a b → Rle b c → Rle a c := fun _ _ _ h h' => Int.le_trans h h'
theorem tge : ∀ a b c, Rge a b → Rge b c → Rge a c := fun _ _ _ h h' => Int.le_trans h' h
theorem rle : ∀ a, Rle a a := fun a => Int.le_refl a
theorem rge : ∀ a, Rge a a := fun a => Int.le_refl a
theorem ale : ∀ a b, Rle a b → Rle b a → a = b := fun _ _ h h' => Int.le_antisymm h h'
theorem age : ∀ a b, Rge a b → Rge b a → a = b := fun _ _ h h' => Int.le_antisymm h' h
/-- what the class answers -/
def heldV (A : Ab) (t : Nat) (p : Int32) (r : Int32) : Prop := (p = 0 ∧ isx Rle (aI A 42) (dn A t) r) ∨ (p ≠ 0 ∧ isx Rge (aI A 43) (dn A t) r)
theorem hd_l {u : Mm} {A : Ab} (hW : Wf A) (hC : CR u A) {t : Nat} {p : Int32} {k : Int32 → Int32 → Option Int32} : ∀ (d n j : Nat) (a : Int32), j + d = an A → d < n → ((p = 0 ∧ isx Rle (aI A 42) (fun i => i < j ∧ shw A t i) a) ∨ (p ≠ 0 ∧ isx Rge (aI A 43) (fun i => i < j ∧ shw A t i) a)) → ∃ r, ((p = 0 ∧ isx Rle (aI A 42) (shw A t) r) ∨ (p ≠ 0 ∧ isx Rge (aI A 43) (shw A t) r)) ∧ L_X0_heldDay_28 2 (60 + 2 * t) p u k n a (nI j) = k r (nI (an A)) := by
  have h80 := hW.1.1
  obtain ⟨hRC, hN, -, -, hT, -⟩ := id hC
  have hn := hN.1
  have h7 := hN.2
  have h60 : 60 ≤ u.1 := by omega
  intro d
  induction d with
  | zero =>
    intro n j a h1 h2 hx
    obtain ⟨n, rfl⟩ : ∃ b, n = b + 1 := ⟨n - 1, by omega⟩
    have e : j = an A := by omega
    subst e
    have ee : ∀ i, (i < an A ∧ shw A t i) ↔ shw A t i := fun i => ⟨fun h => h.2, fun h => ⟨h.1, h⟩⟩
    refine ⟨a, hx.imp (fun q => ⟨q.1, isx_c q.2 ee⟩) (fun q => ⟨q.1, isx_c q.2 ee⟩), ?_⟩
    rw [L_X0_heldDay_28, oO2 h60, gd_t, h7, if_pos (nI_le (Nat.le_refl _) (by omega))]
  | succ d ih =>
    intro n j a h1 h2 hx
    obtain ⟨n, rfl⟩ : ∃ b, n = b + 1 := ⟨n - 1, by omega⟩
    have hj : j < an A := by omega
    have hnl : ¬ nI (an A) ≤ nI j := nI_ge (by omega) (by omega)
    obtain ⟨t1, -, -, -, -, t6, t7, -⟩ := hT j hj
    obtain ⟨b, hb, hb2⟩ := shw_t hW hC (t := t) hj
    rcases hb2 with ⟨rfl, hs⟩ | ⟨rfl, hs⟩
    · have ee : ∀ i, (i < j ∧ shw A t i) ↔ (i < j + 1 ∧ shw A t i) := fun i => ⟨fun h => ⟨by omega, h.2⟩, fun h => ⟨by have : i ≠ j := fun q => hs (q ▸ h.2); omega, h.2⟩⟩
      obtain ⟨r, r1, r2⟩ := ih n (j + 1) a (by omega) (by omega) (hx.imp (fun q => ⟨q.1, isx_c q.2 ee⟩) (fun q => ⟨q.1, isx_c q.2 ee⟩))
      refine ⟨r, r1, ?_⟩
      rw [← r2]
      simp (disch := first | exact h60 | omega | with_unfolding_all exact h60) only [L_X0_heldDay_28, h7, eq_false hnl, ↓cs_of t1, ↓bd_of hb, ↓bb_e, ↓c_sI, ↓o_sI, ↓a_sI, ↓c_sL, ↓o_sL, ↓a_sL, ↓c_rI, ↓o_rI, ↓a_rI, ↓c_rL, ↓o_rL, ↓a_rL, ↓c_rngI, ↓o_rngI, ↓a_rngI, ↓c_rngL, ↓o_rngL, ↓a_rngL, ↓bd_s, ↓cs_s, ↓cs_n, ↓gd_t, ↓gB0, ↓gB1, ↓gOT, ↓gAS, ↓gOY, ↓gAY, ↓reduceIte, d10, nI_clamp, nI_1', i0eq, ↓gO0 h60, ↓gO2 h60, ↓gO6 h60, ↓gO10 h60, ↓gO11 h60, ↓gO14 h60, ↓gO21 h60, ↓gA1 h60, ↓gA3 h60, ↓gA4 h60, ↓gA5 h60, ↓gA7 h60, ↓gA8 h60, ↓gA9 h60, ↓gA12 h60, ↓gA13 h60, ↓gA15 h60, ↓gA16 h60, ↓gA17 h60, ↓gA18 h60, ↓gA19 h60, ↓gA20 h60, ↓gA22 h60, ↓gA23 h60, ↓gA24 h60, ↓cC_0_0 hRC, ↓cC_0_1 hRC, ↓cC_0_2 hRC, ↓cC_0_3 hRC, ↓cC_0_4 hRC, ↓cC_2_0 hRC, ↓cC_2_2 hRC, ↓cC_2_3 hRC, ↓cC_6_0 hRC, ↓cC_6_1 hRC, ↓cC_6_2 hRC, ↓cC_10_0 hRC, ↓cC_10_1 hRC, ↓cC_10_2 hRC, ↓cC_10_3 hRC, ↓cC_10_4 hRC, ↓cC_10_5 hRC, ↓cC_11_0 hRC, ↓cC_11_1 hRC, ↓cC_14_0 hRC, ↓cC_14_1 hRC, ↓cC_21_0 hRC, ↓cC_21_1 hRC, ↓cC_21_2 hRC, ↓bdn7, ↓brf7, ↓bgr7, ↓ban7]
    · have sj := sp_ge hW hj hs.2.1
      have ee : ∀ i, (i < j + 1 ∧ shw A t i) ↔ ((i < j ∧ shw A t i) ∨ i = j) := fun i => ⟨fun h => by
        by_cases c : i = j
        · exact Or.inr c
        · exact Or.inl ⟨by omega, h.2⟩, fun h => by
        rcases h with h | rfl
        · exact ⟨by omega, h.2⟩
        · exact ⟨by omega, hs⟩⟩
      have t7 := t7 hs.2.1
      rcases hx with ⟨rfl, hx⟩ | ⟨hp, hx⟩
      · have hq : isx Rle (aI A 42) (fun i => i = j) (aI A 42 j) := isx_1 rle j (fun _ => Iff.rfl)
        have hf : ∀ i, (i < j ∧ shw A t i) ∨ i = j → aI A 42 i ≠ -1 := fun i h => by
          rcases h with h | rfl
          · exact h.2.2.1
          · exact hs.2.1
        by_cases c1 : a = -1
        · obtain ⟨r, r1, r2⟩ := ih n (j + 1) (aI A 42 j) (by omega) (by omega) (Or.inl ⟨rfl, isx_j tle hx hq hf ee (Or.inr (Or.inl ⟨c1, rfl⟩)) (fun _ => Or.inr ⟨c1, rfl⟩)⟩)
          refine ⟨r, r1, ?_⟩
          rw [← r2]
          have e2 : f_X0_earlier a (aI A 42 j) u = some (aI A 42 j) := by rw [f_X0_earlier, if_pos c1]
          simp (disch := first | exact h60 | omega | with_unfolding_all exact h60) only [L_X0_heldDay_28, h7, eq_false hnl, ↓cs_of t1, ↓bd_of hb, t6, ↓bd_of e2, ↓bb_e, ↓c_sI, ↓o_sI, ↓a_sI, ↓c_sL, ↓o_sL, ↓a_sL, ↓c_rI, ↓o_rI, ↓a_rI, ↓c_rL, ↓o_rL, ↓a_rL, ↓c_rngI, ↓o_rngI, ↓a_rngI, ↓c_rngL, ↓o_rngL, ↓a_rngL, ↓bd_s, ↓cs_s, ↓cs_n, ↓gd_t, ↓gB0, ↓gB1, ↓gOT, ↓gAS, ↓gOY, ↓gAY, ↓reduceIte, d10, nI_clamp, nI_1', i0eq, ↓gO0 h60, ↓gO2 h60, ↓gO6 h60, ↓gO10 h60, ↓gO11 h60, ↓gO14 h60, ↓gO21 h60, ↓gA1 h60, ↓gA3 h60, ↓gA4 h60, ↓gA5 h60, ↓gA7 h60, ↓gA8 h60, ↓gA9 h60, ↓gA12 h60, ↓gA13 h60, ↓gA15 h60, ↓gA16 h60, ↓gA17 h60, ↓gA18 h60, ↓gA19 h60, ↓gA20 h60, ↓gA22 h60, ↓gA23 h60, ↓gA24 h60, ↓cC_0_0 hRC, ↓cC_0_1 hRC, ↓cC_0_2 hRC, ↓cC_0_3 hRC, ↓cC_0_4 hRC, ↓cC_2_0 hRC, ↓cC_2_2 hRC, ↓cC_2_3 hRC, ↓cC_6_0 hRC, ↓cC_6_1 hRC, ↓cC_6_2 hRC, ↓cC_10_0 hRC, ↓cC_10_1 hRC, ↓cC_10_2 hRC, ↓cC_10_3 hRC, ↓cC_10_4 hRC, ↓cC_10_5 hRC, ↓cC_11_0 hRC, ↓cC_11_1 hRC, ↓cC_14_0 hRC, ↓cC_14_1 hRC, ↓cC_21_0 hRC, ↓cC_21_1 hRC, ↓cC_21_2 hRC, ↓bdn7, ↓brf7, ↓bgr7, ↓ban7]
        · have hz : a = -1 ∨ aI A 42 j = -1 → False := fun q => q.elim c1 hs.2.1
          have e2 : f_X0_earlier a (aI A 42 j) u = some (if aI A 42 j < a then aI A 42 j else a) := by rw [f_X0_earlier, if_neg c1]
          obtain ⟨r, r1, r2⟩ := ih n (j + 1) (if aI A 42 j < a then aI A 42 j else a) (by omega) (by omega) (Or.inl ⟨rfl, isx_j tle hx hq hf ee (by
            by_cases c2 : aI A 42 j < a
            · rw [if_pos c2]; rw [i_lt] at c2; exact Or.inr (Or.inr (Or.inl ⟨by show _ ≤ _; omega, rfl⟩))
            · rw [if_neg c2]; rw [i_lt] at c2; exact Or.inr (Or.inr (Or.inr ⟨by show _ ≤ _; omega, rfl⟩))) (fun q => (hz q).elim)⟩)
          refine ⟨r, r1, ?_⟩
          rw [← r2]
          simp (disch := first | exact h60 | omega | with_unfolding_all exact h60) only [L_X0_heldDay_28, h7, eq_false hnl, ↓cs_of t1, ↓bd_of hb, t6, ↓bd_of e2, ↓bb_e, ↓c_sI, ↓o_sI, ↓a_sI, ↓c_sL, ↓o_sL, ↓a_sL, ↓c_rI, ↓o_rI, ↓a_rI, ↓c_rL, ↓o_rL, ↓a_rL, ↓c_rngI, ↓o_rngI, ↓a_rngI, ↓c_rngL, ↓o_rngL, ↓a_rngL, ↓bd_s, ↓cs_s, ↓cs_n, ↓gd_t, ↓gB0, ↓gB1, ↓gOT, ↓gAS, ↓gOY, ↓gAY, ↓reduceIte, d10, nI_clamp, nI_1', i0eq, ↓gO0 h60, ↓gO2 h60, ↓gO6 h60, ↓gO10 h60, ↓gO11 h60, ↓gO14 h60, ↓gO21 h60, ↓gA1 h60, ↓gA3 h60, ↓gA4 h60, ↓gA5 h60, ↓gA7 h60, ↓gA8 h60, ↓gA9 h60, ↓gA12 h60, ↓gA13 h60, ↓gA15 h60, ↓gA16 h60, ↓gA17 h60, ↓gA18 h60, ↓gA19 h60, ↓gA20 h60, ↓gA22 h60, ↓gA23 h60, ↓gA24 h60, ↓cC_0_0 hRC, ↓cC_0_1 hRC, ↓cC_0_2 hRC, ↓cC_0_3 hRC, ↓cC_0_4 hRC, ↓cC_2_0 hRC, ↓cC_2_2 hRC, ↓cC_2_3 hRC, ↓cC_6_0 hRC, ↓cC_6_1 hRC, ↓cC_6_2 hRC, ↓cC_10_0 hRC, ↓cC_10_1 hRC, ↓cC_10_2 hRC, ↓cC_10_3 hRC, ↓cC_10_4 hRC, ↓cC_10_5 hRC, ↓cC_11_0 hRC, ↓cC_11_1 hRC, ↓cC_14_0 hRC, ↓cC_14_1 hRC, ↓cC_21_0 hRC, ↓cC_21_1 hRC, ↓cC_21_2 hRC, ↓bdn7, ↓brf7, ↓bgr7, ↓ban7]
      · have hq : isx Rge (aI A 43) (fun i => i = j) (aI A 43 j) := isx_1 rge j (fun _ => Iff.rfl)
        have hf : ∀ i, (i < j ∧ shw A t i) ∨ i = j → aI A 43 i ≠ -1 := fun i h => by
          have : 0 ≤ (aI A 43 i).toInt := by
            rcases h with h | rfl
            · exact (sp_ge hW h.2.1 h.2.2.1).2
            · exact sj.2
          intro q; rw [q, li_m1] at this; omega
        obtain ⟨r, r1, r2⟩ := ih n (j + 1) (if a < aI A 43 j then aI A 43 j else a) (by omega) (by omega) (Or.inr ⟨hp, isx_j tge hx hq hf ee (by
            by_cases c2 : a < aI A 43 j
            · rw [if_pos c2]; rw [i_lt] at c2; exact Or.inr (Or.inr (Or.inl ⟨by show _ ≤ _; omega, rfl⟩))
            · rw [if_neg c2]; rw [i_lt] at c2; exact Or.inr (Or.inr (Or.inr ⟨by show _ ≤ _; omega, rfl⟩))) (fun q => by
              rcases q with q | q
              · right
                refine ⟨q, ?_⟩
                rw [if_pos (by rw [i_lt, q, li_m1]; omega)]
              · exact absurd q (hf j (Or.inr rfl)))⟩)
        refine ⟨r, r1, ?_⟩
        rw [← r2]
        simp (disch := first | exact h60 | omega | with_unfolding_all exact h60) only [L_X0_heldDay_28, h7, eq_false hnl, ↓cs_of t1, ↓bd_of hb, eq_false hp, t7, ↓bb_e, ↓c_sI, ↓o_sI, ↓a_sI, ↓c_sL, ↓o_sL, ↓a_sL, ↓c_rI, ↓o_rI, ↓a_rI, ↓c_rL, ↓o_rL, ↓a_rL, ↓c_rngI, ↓o_rngI, ↓a_rngI, ↓c_rngL, ↓o_rngL, ↓a_rngL, ↓bd_s, ↓cs_s, ↓cs_n, ↓gd_t, ↓gB0, ↓gB1, ↓gOT, ↓gAS, ↓gOY, ↓gAY, ↓reduceIte, d10, nI_clamp, nI_1', i0eq, ↓gO0 h60, ↓gO2 h60, ↓gO6 h60, ↓gO10 h60, ↓gO11 h60, ↓gO14 h60, ↓gO21 h60, ↓gA1 h60, ↓gA3 h60, ↓gA4 h60, ↓gA5 h60, ↓gA7 h60, ↓gA8 h60, ↓gA9 h60, ↓gA12 h60, ↓gA13 h60, ↓gA15 h60, ↓gA16 h60, ↓gA17 h60, ↓gA18 h60, ↓gA19 h60, ↓gA20 h60, ↓gA22 h60, ↓gA23 h60, ↓gA24 h60, ↓cC_0_0 hRC, ↓cC_0_1 hRC, ↓cC_0_2 hRC, ↓cC_0_3 hRC, ↓cC_0_4 hRC, ↓cC_2_0 hRC, ↓cC_2_2 hRC, ↓cC_2_3 hRC, ↓cC_6_0 hRC, ↓cC_6_1 hRC, ↓cC_6_2 hRC, ↓cC_10_0 hRC, ↓cC_10_1 hRC, ↓cC_10_2 hRC, ↓cC_10_3 hRC, ↓cC_10_4 hRC, ↓cC_10_5 hRC, ↓cC_11_0 hRC, ↓cC_11_1 hRC, ↓cC_14_0 hRC, ↓cC_14_1 hRC, ↓cC_21_0 hRC, ↓cC_21_1 hRC, ↓cC_21_2 hRC, ↓bdn7, ↓brf7, ↓bgr7, ↓ban7]
theorem hd_t {u : Mm} {A : Ab} (hW : Wf A) (hC : CR u A) {t : Nat} (ht : t < an A) (p : Int32) : ∃ r, heldV A t p r ∧ f_X0_heldDay 2 (some (60 + 2 * t)) p u = some r := by
  have h80 := hW.1.1
  obtain ⟨hRC, hN, -, -, hT, -⟩ := id hC
  have hn := hN.1
  have h60 : 60 ≤ u.1 := by omega
  have hsp := hasSpan_t hC ht
  obtain ⟨-, -, -, -, -, t6, t7, -⟩ := hT t ht
  by_cases c : aI A 42 t = -1
  · rw [if_pos c] at hsp
    have ee : ∀ i, shw A t i ↔ dn A t i := fun i => ⟨fun h => Or.inr ⟨c, h⟩, fun h => h.elim (fun h => absurd c h.1) (fun h => h.2)⟩
    have h0 : ((p = 0 ∧ isx Rle (aI A 42) (fun i => i < 0 ∧ shw A t i) (-1)) ∨ (p ≠ 0 ∧ isx Rge (aI A 43) (fun i => i < 0 ∧ shw A t i) (-1))) := by
      by_cases hp : p = 0
      · exact Or.inl ⟨hp, isx_0 (fun j h => by omega)⟩
      · exact Or.inr ⟨hp, isx_0 (fun j h => by omega)⟩
    obtain ⟨r, r1, r2⟩ := hd_l hW hC (t := t) (p := p) (k := fun a21 a22 => some a21) (an A) 1000 0 (-1) (by omega) (by omega) h0
    refine ⟨r, r1.imp (fun q => ⟨q.1, isx_c q.2 ee⟩) (fun q => ⟨q.1, isx_c q.2 ee⟩), ?_⟩
    rw [nI_0] at r2
    simp (disch := first | exact h60 | omega | with_unfolding_all exact h60) only [f_X0_heldDay, ↓bd_of hsp, ↓r2, ↓bb_e, ↓c_sI, ↓o_sI, ↓a_sI, ↓c_sL, ↓o_sL, ↓a_sL, ↓c_rI, ↓o_rI, ↓a_rI, ↓c_rL, ↓o_rL, ↓a_rL, ↓c_rngI, ↓o_rngI, ↓a_rngI, ↓c_rngL, ↓o_rngL, ↓a_rngL, ↓bd_s, ↓cs_s, ↓cs_n, ↓gd_t, ↓gB0, ↓gB1, ↓gOT, ↓gAS, ↓gOY, ↓gAY, ↓reduceIte, d10, nI_clamp, nI_1', i0eq, ↓gO0 h60, ↓gO2 h60, ↓gO6 h60, ↓gO10 h60, ↓gO11 h60, ↓gO14 h60, ↓gO21 h60, ↓gA1 h60, ↓gA3 h60, ↓gA4 h60, ↓gA5 h60, ↓gA7 h60, ↓gA8 h60, ↓gA9 h60, ↓gA12 h60, ↓gA13 h60, ↓gA15 h60, ↓gA16 h60, ↓gA17 h60, ↓gA18 h60, ↓gA19 h60, ↓gA20 h60, ↓gA22 h60, ↓gA23 h60, ↓gA24 h60, ↓cC_0_0 hRC, ↓cC_0_1 hRC, ↓cC_0_2 hRC, ↓cC_0_3 hRC, ↓cC_0_4 hRC, ↓cC_2_0 hRC, ↓cC_2_2 hRC, ↓cC_2_3 hRC, ↓cC_6_0 hRC, ↓cC_6_1 hRC, ↓cC_6_2 hRC, ↓cC_10_0 hRC, ↓cC_10_1 hRC, ↓cC_10_2 hRC, ↓cC_10_3 hRC, ↓cC_10_4 hRC, ↓cC_10_5 hRC, ↓cC_11_0 hRC, ↓cC_11_1 hRC, ↓cC_14_0 hRC, ↓cC_14_1 hRC, ↓cC_21_0 hRC, ↓cC_21_1 hRC, ↓cC_21_2 hRC, ↓bdn7, ↓brf7, ↓bgr7, ↓ban7]
  · rw [if_neg c] at hsp
    have ee : ∀ i, dn A t i ↔ i = t := fun i => ⟨fun h => h.elim (fun h => h.2.1) (fun h => absurd h.1 c), fun h => Or.inl ⟨c, h, ht⟩⟩
    by_cases hp : p = 0
    · refine ⟨aI A 42 t, Or.inl ⟨hp, isx_1 rle t ee⟩, ?_⟩
      simp (disch := first | exact h60 | omega | with_unfolding_all exact h60) only [f_X0_heldDay, ↓bd_of hsp, eq_true hp, t6, ↓bb_e, ↓c_sI, ↓o_sI, ↓a_sI, ↓c_sL, ↓o_sL, ↓a_sL, ↓c_rI, ↓o_rI, ↓a_rI, ↓c_rL, ↓o_rL, ↓a_rL, ↓c_rngI, ↓o_rngI, ↓a_rngI, ↓c_rngL, ↓o_rngL, ↓a_rngL, ↓bd_s, ↓cs_s, ↓cs_n, ↓gd_t, ↓gB0, ↓gB1, ↓gOT, ↓gAS, ↓gOY, ↓gAY, ↓reduceIte, d10, nI_clamp, nI_1', i0eq, ↓gO0 h60, ↓gO2 h60, ↓gO6 h60, ↓gO10 h60, ↓gO11 h60, ↓gO14 h60, ↓gO21 h60, ↓gA1 h60, ↓gA3 h60, ↓gA4 h60, ↓gA5 h60, ↓gA7 h60, ↓gA8 h60, ↓gA9 h60, ↓gA12 h60, ↓gA13 h60, ↓gA15 h60, ↓gA16 h60, ↓gA17 h60, ↓gA18 h60, ↓gA19 h60, ↓gA20 h60, ↓gA22 h60, ↓gA23 h60, ↓gA24 h60, ↓cC_0_0 hRC, ↓cC_0_1 hRC, ↓cC_0_2 hRC, ↓cC_0_3 hRC, ↓cC_0_4 hRC, ↓cC_2_0 hRC, ↓cC_2_2 hRC, ↓cC_2_3 hRC, ↓cC_6_0 hRC, ↓cC_6_1 hRC, ↓cC_6_2 hRC, ↓cC_10_0 hRC, ↓cC_10_1 hRC, ↓cC_10_2 hRC, ↓cC_10_3 hRC, ↓cC_10_4 hRC, ↓cC_10_5 hRC, ↓cC_11_0 hRC, ↓cC_11_1 hRC, ↓cC_14_0 hRC, ↓cC_14_1 hRC, ↓cC_21_0 hRC, ↓cC_21_1 hRC, ↓cC_21_2 hRC, ↓bdn7, ↓brf7, ↓bgr7, ↓ban7]
    · refine ⟨aI A 43 t, Or.inr ⟨hp, isx_1 rge t ee⟩, ?_⟩
      simp (disch := first | exact h60 | omega | with_unfolding_all exact h60) only [f_X0_heldDay, ↓bd_of hsp, eq_false hp, t7 c, ↓bb_e, ↓c_sI, ↓o_sI, ↓a_sI, ↓c_sL, ↓o_sL, ↓a_sL, ↓c_rI, ↓o_rI, ↓a_rI, ↓c_rL, ↓o_rL, ↓a_rL, ↓c_rngI, ↓o_rngI, ↓a_rngI, ↓c_rngL, ↓o_rngL, ↓a_rngL, ↓bd_s, ↓cs_s, ↓cs_n, ↓gd_t, ↓gB0, ↓gB1, ↓gOT, ↓gAS, ↓gOY, ↓gAY, ↓reduceIte, d10, nI_clamp, nI_1', i0eq, ↓gO0 h60, ↓gO2 h60, ↓gO6 h60, ↓gO10 h60, ↓gO11 h60, ↓gO14 h60, ↓gO21 h60, ↓gA1 h60, ↓gA3 h60, ↓gA4 h60, ↓gA5 h60, ↓gA7 h60, ↓gA8 h60, ↓gA9 h60, ↓gA12 h60, ↓gA13 h60, ↓gA15 h60, ↓gA16 h60, ↓gA17 h60, ↓gA18 h60, ↓gA19 h60, ↓gA20 h60, ↓gA22 h60, ↓gA23 h60, ↓gA24 h60, ↓cC_0_0 hRC, ↓cC_0_1 hRC, ↓cC_0_2 hRC, ↓cC_0_3 hRC, ↓cC_0_4 hRC, ↓cC_2_0 hRC, ↓cC_2_2 hRC, ↓cC_2_3 hRC, ↓cC_6_0 hRC, ↓cC_6_1 hRC, ↓cC_6_2 hRC, ↓cC_10_0 hRC, ↓cC_10_1 hRC, ↓cC_10_2 hRC, ↓cC_10_3 hRC, ↓cC_10_4 hRC, ↓cC_10_5 hRC, ↓cC_11_0 hRC, ↓cC_11_1 hRC, ↓cC_14_0 hRC, ↓cC_14_1 hRC, ↓cC_21_0 hRC, ↓cC_21_1 hRC, ↓cC_21_2 hRC, ↓bdn7, ↓brf7, ↓bgr7, ↓ban7]
-- the reference's two loops
def row50 (A : Ab) (i : Nat) : Int32 := if aI A 42 i = -1 then -1 else aI A 43 i
theorem ho1_l {u : Mm} {A : Ab} (hW : Wf A) (hM : MR u A) {k : Int32 → Mm → Option Mm} : ∀ (d n j : Nat) (v : Mm), j + d = an A → d < n → scrM u v → (∀ i, i < j → gI v 49 i = aI A 42 i ∧ gI v 50 i = row50 A i) → ∃ v', scrM u v' ∧ (∀ i, i < an A → gI v' 49 i = aI A 42 i ∧ gI v' 50 i = row50 A i) ∧ L_X8_holds_2 33 k n (nI j) v = k (nI (an A)) v' := by
  have h80 := hW.1.1
  intro d
  induction d with
  | zero =>
    intro n j v h1 h2 hs hr
    obtain ⟨n, rfl⟩ : ∃ b, n = b + 1 := ⟨n - 1, by omega⟩
    have e : j = an A := by omega
    subst e
    obtain ⟨hRM, h60, h7, -⟩ := hM.scrM hs
    refine ⟨v, hs, hr, ?_⟩
    rw [L_X8_holds_2, oO33 h60, gd_t, h7, if_pos (nI_le (Nat.le_refl _) (by omega))]
  | succ d ih =>
    intro n j v h1 h2 hs hr
    obtain ⟨n, rfl⟩ : ∃ b, n = b + 1 := ⟨n - 1, by omega⟩
    have hj : j < an A := by omega
    obtain ⟨hRM, h60, h7, -, -, hT, -⟩ := hM.scrM hs
    have hnl : ¬ nI (an A) ≤ nI j := nI_ge (by omega) (by omega)
    obtain ⟨-, -, -, -, k5, k6, -⟩ := hT.1 j hj
    have hsp := (hW.1.2 j hj).2.2.2.2.1
    obtain ⟨v', q1, q2, q3⟩ := ih n (j + 1) (sI (sI v 49 j (aI A 42 j)) 50 j (row50 A j)) (by omega) (by omega) ((hs.sI (by omega)).sI (by omega)) (fun i hi => by
      by_cases c : i = j
      · subst c
        refine ⟨?_, gI_e⟩
        rw [gI_n (by omega)]; exact gI_e
      · rw [gI_n (by omega), gI_n (by omega), gI_n (by omega), gI_n (by omega)]
        exact hr i (by omega))
    refine ⟨v', q1, q2, ?_⟩
    rw [← q3]
    by_cases c : 0 ≤ aI A 42 j
    · have c' : aI A 42 j ≠ -1 := fun q => by rw [q] at c; exact absurd c (by decide)
      rw [show row50 A j = aI A 43 j from if_neg c']
      have e1 : gI (sI v 49 j (aI A 42 j)) 42 j = aI A 42 j := by rw [gI_n (by omega)]; exact k5
      have e2 : gI (sI v 49 j (aI A 42 j)) 43 j = aI A 43 j := by rw [gI_n (by omega)]; exact k6
      simp (disch := first | exact h60 | omega | with_unfolding_all exact h60) only [L_X8_holds_2, h7, eq_false hnl, k5, e1, e2, eq_true c, ↓bb_e, ↓c_sI, ↓o_sI, ↓a_sI, ↓c_sL, ↓o_sL, ↓a_sL, ↓c_rI, ↓o_rI, ↓a_rI, ↓c_rL, ↓o_rL, ↓a_rL, ↓c_rngI, ↓o_rngI, ↓a_rngI, ↓c_rngL, ↓o_rngL, ↓a_rngL, ↓bd_s, ↓cs_s, ↓cs_n, ↓gd_t, ↓gB0, ↓gB1, ↓gOT, ↓gAS, ↓gOY, ↓gAY, ↓reduceIte, d10, nI_clamp, nI_1', i0eq, ↓gO33 h60, ↓gA34 h60, ↓gA35 h60, ↓gA36 h60, ↓gA37 h60, ↓gA38 h60, ↓gA39 h60, ↓gA40 h60, ↓gA41 h60, ↓gA42 h60, ↓gA43 h60, ↓gA44 h60, ↓gA45 h60, ↓gA46 h60, ↓gA47 h60, ↓gA48 h60, ↓gA49 h60, ↓gA50 h60, ↓gA51 h60, ↓gA52 h60, ↓gA53 h60, ↓gA54 h60, ↓gA55 h60, ↓gA56 h60, ↓gA57 h60, ↓gA58 h60, ↓gA59 h60, ↓cM_4 hRM, ↓cM_5 hRM, ↓cM_6 hRM, ↓cM_8 hRM, ↓cM_9 hRM, ↓cM_10 hRM, ↓cM_11 hRM, ↓cM_12 hRM, ↓cM_13 hRM, ↓cM_14 hRM, ↓cM_15 hRM, ↓cM_16 hRM, ↓cM_17 hRM, ↓cM_18 hRM, ↓cM_19 hRM, ↓cM_20 hRM, ↓cM_21 hRM, ↓cM_23 hRM, ↓cM_24 hRM, ↓cM_25 hRM, ↓cM_26 hRM, ↓cM_27 hRM, ↓cM_28 hRM, ↓cM_29 hRM, ↓cM_30 hRM, ↓cM_32 hRM, ↓bno8, ↓brf8]
    · have c' : aI A 42 j = -1 := by rw [i_le, li_0] at c; rw [i_eq, li_m1]; omega
      rw [show row50 A j = -1 from if_pos c']
      have e1 : gI (sI v 49 j (aI A 42 j)) 42 j = aI A 42 j := by rw [gI_n (by omega)]; exact k5
      simp (disch := first | exact h60 | omega | with_unfolding_all exact h60) only [L_X8_holds_2, h7, eq_false hnl, k5, e1, eq_false c, ↓bb_e, ↓c_sI, ↓o_sI, ↓a_sI, ↓c_sL, ↓o_sL, ↓a_sL, ↓c_rI, ↓o_rI, ↓a_rI, ↓c_rL, ↓o_rL, ↓a_rL, ↓c_rngI, ↓o_rngI, ↓a_rngI, ↓c_rngL, ↓o_rngL, ↓a_rngL, ↓bd_s, ↓cs_s, ↓cs_n, ↓gd_t, ↓gB0, ↓gB1, ↓gOT, ↓gAS, ↓gOY, ↓gAY, ↓reduceIte, d10, nI_clamp, nI_1', i0eq, ↓gO33 h60, ↓gA34 h60, ↓gA35 h60, ↓gA36 h60, ↓gA37 h60, ↓gA38 h60, ↓gA39 h60, ↓gA40 h60, ↓gA41 h60, ↓gA42 h60, ↓gA43 h60, ↓gA44 h60, ↓gA45 h60, ↓gA46 h60, ↓gA47 h60, ↓gA48 h60, ↓gA49 h60, ↓gA50 h60, ↓gA51 h60, ↓gA52 h60, ↓gA53 h60, ↓gA54 h60, ↓gA55 h60, ↓gA56 h60, ↓gA57 h60, ↓gA58 h60, ↓gA59 h60, ↓cM_4 hRM, ↓cM_5 hRM, ↓cM_6 hRM, ↓cM_8 hRM, ↓cM_9 hRM, ↓cM_10 hRM, ↓cM_11 hRM, ↓cM_12 hRM, ↓cM_13 hRM, ↓cM_14 hRM, ↓cM_15 hRM, ↓cM_16 hRM, ↓cM_17 hRM, ↓cM_18 hRM, ↓cM_19 hRM, ↓cM_20 hRM, ↓cM_21 hRM, ↓cM_23 hRM, ↓cM_24 hRM, ↓cM_25 hRM, ↓cM_26 hRM, ↓cM_27 hRM, ↓cM_28 hRM, ↓cM_29 hRM, ↓cM_30 hRM, ↓cM_32 hRM, ↓bno8, ↓brf8]
/-- what the rows hold when all from c on are dealt with -/
def dnS (A : Ab) (c p j : Nat) : Prop := ∃ q, c ≤ q ∧ q < an A ∧ par A q = some p ∧ dn A q j
def hrow (A : Ab) (c : Nat) (v : Mm) (p : Nat) : Prop := (aI A 42 p ≠ -1 → gI v 49 p = aI A 42 p ∧ gI v 50 p = aI A 43 p) ∧ (aI A 42 p = -1 → isx Rle (aI A 42) (dnS A c p) (gI v 49 p) ∧ isx Rge (aI A 43) (dnS A c p) (gI v 50 p))
theorem hrow_d {A : Ab} (hW : Wf A) {c : Nat} {v : Mm} {p : Nat} (hp : p < an A) (hc : c ≤ p + 1) (h : hrow A c v p) : isx Rle (aI A 42) (dn A p) (gI v 49 p) ∧ isx Rge (aI A 43) (dn A p) (gI v 50 p) := by
  by_cases s : aI A 42 p = -1
  · have ee : ∀ j, dnS A c p j ↔ dn A p j := fun j => by
      rw [dn_eq hW s]
      exact ⟨fun ⟨q, _, q2, q3, q4⟩ => ⟨q, q2, q3, q4⟩, fun ⟨q, q2, q3, q4⟩ => ⟨q, by have := par_lt hW q2 q3; omega, q2, q3, q4⟩⟩
    obtain ⟨h1, h2⟩ := h.2 s
    exact ⟨isx_c h1 ee, isx_c h2 ee⟩
  · have ee : ∀ i, dn A p i ↔ i = p := fun i => ⟨fun h => h.elim (fun h => h.2.1) (fun h => absurd h.1 s), fun h => Or.inl ⟨s, h, hp⟩⟩
    obtain ⟨h1, h2⟩ := h.1 s
    rw [h1, h2]
    exact ⟨isx_1 rle p ee, isx_1 rge p ee⟩
/-- nothing comes to p -/
theorem hrow_n {A : Ab} {c : Nat} {v : Mm} {p : Nat} (h : hrow A (c + 1) v p) (hn : aI A 42 p = -1 → ∀ j, par A c = some p → ¬ dn A c j) : hrow A c v p := by
  refine ⟨h.1, fun s => ?_⟩
  have ee : ∀ j, dnS A (c + 1) p j ↔ dnS A c p j := fun j => ⟨fun ⟨q, q1, q2, q3, q4⟩ => ⟨q, by omega, q2, q3, q4⟩, fun ⟨q, q1, q2, q3, q4⟩ => ⟨q, by have : q ≠ c := (fun e => by subst e; exact hn s j q3 q4); omega, q2, q3, q4⟩⟩
  obtain ⟨h1, h2⟩ := h.2 s
  exact ⟨isx_c h1 ee, isx_c h2 ee⟩
theorem ho2_s {u : Mm} {A : Ab} (hW : Wf A) (hM : MR u A) {k : Int32 → Mm → Option Mm} {c n : Nat} {v : Mm} (hc : c < an A) (hs : scrM u v) (hr : ∀ p, p < an A → hrow A (c + 1) v p) : ∃ v', scrM u v' ∧ (∀ p, p < an A → hrow A c v' p) ∧ L_X8_holds_60 33 k (n + 1) (nI c) v = L_X8_holds_60 33 k n (nI c - 1) v' := by
  have h80 := hW.1.1
  obtain ⟨hRM, h60, h7, -, -, hT, -⟩ := hM.scrM hs
  have c0 : ¬ nI c < 0 := nI_pos (by omega)
  have k2 : gI v 38 c = pI (par A c) := by rw [← par_pI hW hc]; exact (hT.1 c hc).2.1
  obtain ⟨d1, d2⟩ := hrow_d hW hc (Nat.le_refl _) (hr c hc)
  cases hp : par A c with
  | none =>
    refine ⟨v, hs, fun p hp' => hrow_n (hr p hp') (fun _ j q => by rw [hp] at q; cases q), ?_⟩
    rw [hp] at k2
    have k2 : gI v 38 c = -1 := k2
    have b1 : (-1 : Int32) < 0 := by decide
    simp (disch := first | exact h60 | omega | with_unfolding_all exact h60) only [L_X8_holds_60, eq_false c0, k2, eq_true b1, sub1, ↓bb_e, ↓c_sI, ↓o_sI, ↓a_sI, ↓c_sL, ↓o_sL, ↓a_sL, ↓c_rI, ↓o_rI, ↓a_rI, ↓c_rL, ↓o_rL, ↓a_rL, ↓c_rngI, ↓o_rngI, ↓a_rngI, ↓c_rngL, ↓o_rngL, ↓a_rngL, ↓bd_s, ↓cs_s, ↓cs_n, ↓gd_t, ↓gB0, ↓gB1, ↓gOT, ↓gAS, ↓gOY, ↓gAY, ↓reduceIte, d10, nI_clamp, nI_1', i0eq, ↓gO33 h60, ↓gA34 h60, ↓gA35 h60, ↓gA36 h60, ↓gA37 h60, ↓gA38 h60, ↓gA39 h60, ↓gA40 h60, ↓gA41 h60, ↓gA42 h60, ↓gA43 h60, ↓gA44 h60, ↓gA45 h60, ↓gA46 h60, ↓gA47 h60, ↓gA48 h60, ↓gA49 h60, ↓gA50 h60, ↓gA51 h60, ↓gA52 h60, ↓gA53 h60, ↓gA54 h60, ↓gA55 h60, ↓gA56 h60, ↓gA57 h60, ↓gA58 h60, ↓gA59 h60, ↓cM_4 hRM, ↓cM_5 hRM, ↓cM_6 hRM, ↓cM_8 hRM, ↓cM_9 hRM, ↓cM_10 hRM, ↓cM_11 hRM, ↓cM_12 hRM, ↓cM_13 hRM, ↓cM_14 hRM, ↓cM_15 hRM, ↓cM_16 hRM, ↓cM_17 hRM, ↓cM_18 hRM, ↓cM_19 hRM, ↓cM_20 hRM, ↓cM_21 hRM, ↓cM_23 hRM, ↓cM_24 hRM, ↓cM_25 hRM, ↓cM_26 hRM, ↓cM_27 hRM, ↓cM_28 hRM, ↓cM_29 hRM, ↓cM_30 hRM, ↓cM_32 hRM, ↓bno8, ↓brf8]
  | some p =>
    have hpn := par_ok hW hc p hp
    have hpc := par_lt hW hc hp
    rw [hp] at k2
    have k2 : gI v 38 c = nI p := k2
    have b1 : ¬ nI p < 0 := nI_pos (by omega)
    have k5 := (hT.1 p hpn).2.2.2.2.1
    have oth : ∀ p', p' < an A → p' ≠ p → hrow A c v p' := fun p' hp' hne => hrow_n (hr p' hp') (fun _ j q => by rw [hp] at q; exact absurd (Option.some.inj q).symm hne)
    have r42 := (hW.1.2 p hpn).2.2.2.2.1
    by_cases b2 : 0 ≤ aI A 42 p
    · have b2' : aI A 42 p ≠ -1 := fun q => by rw [q] at b2; exact absurd b2 (by decide)
      refine ⟨v, hs, fun p' hp' => hrow_n (hr p' hp') (fun s j q => by rw [hp] at q; cases q; exact absurd s b2'), ?_⟩
      simp (disch := first | exact h60 | omega | with_unfolding_all exact h60) only [L_X8_holds_60, eq_false c0, k2, eq_false b1, k5, eq_true b2, sub1, ↓bb_e, ↓c_sI, ↓o_sI, ↓a_sI, ↓c_sL, ↓o_sL, ↓a_sL, ↓c_rI, ↓o_rI, ↓a_rI, ↓c_rL, ↓o_rL, ↓a_rL, ↓c_rngI, ↓o_rngI, ↓a_rngI, ↓c_rngL, ↓o_rngL, ↓a_rngL, ↓bd_s, ↓cs_s, ↓cs_n, ↓gd_t, ↓gB0, ↓gB1, ↓gOT, ↓gAS, ↓gOY, ↓gAY, ↓reduceIte, d10, nI_clamp, nI_1', i0eq, ↓gO33 h60, ↓gA34 h60, ↓gA35 h60, ↓gA36 h60, ↓gA37 h60, ↓gA38 h60, ↓gA39 h60, ↓gA40 h60, ↓gA41 h60, ↓gA42 h60, ↓gA43 h60, ↓gA44 h60, ↓gA45 h60, ↓gA46 h60, ↓gA47 h60, ↓gA48 h60, ↓gA49 h60, ↓gA50 h60, ↓gA51 h60, ↓gA52 h60, ↓gA53 h60, ↓gA54 h60, ↓gA55 h60, ↓gA56 h60, ↓gA57 h60, ↓gA58 h60, ↓gA59 h60, ↓cM_4 hRM, ↓cM_5 hRM, ↓cM_6 hRM, ↓cM_8 hRM, ↓cM_9 hRM, ↓cM_10 hRM, ↓cM_11 hRM, ↓cM_12 hRM, ↓cM_13 hRM, ↓cM_14 hRM, ↓cM_15 hRM, ↓cM_16 hRM, ↓cM_17 hRM, ↓cM_18 hRM, ↓cM_19 hRM, ↓cM_20 hRM, ↓cM_21 hRM, ↓cM_23 hRM, ↓cM_24 hRM, ↓cM_25 hRM, ↓cM_26 hRM, ↓cM_27 hRM, ↓cM_28 hRM, ↓cM_29 hRM, ↓cM_30 hRM, ↓cM_32 hRM, ↓bno8, ↓brf8]
    · have b2' : aI A 42 p = -1 := by rw [i_le, li_0] at b2; rw [i_eq, li_m1]; omega
      have s1 := isx_r (fun j h => (dn_sp hW h).1) d1
      have s2 := isx_r (fun j h => (dn_sp hW h).2) d2
      by_cases b3 : 0 ≤ gI v 49 c
      · have b3' : 0 ≤ (gI v 49 c).toInt := by rw [i_le, li_0] at b3; exact b3
        have b3'' : 0 ≤ (gI v 50 c).toInt := by
          rcases s1 with s1 | ⟨-, j, s1⟩
          · omega
          · rcases s2 with ⟨-, s2⟩ | s2
            · exact absurd s1 (s2 j)
            · exact s2.1
        obtain ⟨e1, e2⟩ := (hr p hpn).2 b2'
        have fin : ∀ x y : Int32, isx Rle (aI A 42) (dnS A c p) x → isx Rge (aI A 43) (dnS A c p) y → (∀ p', p' < an A → hrow A c (sI (sI v 49 p x) 50 p y) p') := fun x y hx hy p' hp' => by
          by_cases cc : p' = p
          · subst cc
            refine ⟨fun q => absurd b2' q, fun _ => ?_⟩
            rw [gI_e, gI_n (by omega), gI_e]
            exact ⟨hx, hy⟩
          · have := oth p' hp' cc
            unfold hrow at this ⊢
            rw [gI_n (by omega), gI_n (by omega), gI_n (by omega), gI_n (by omega)]
            exact this
        have ee : ∀ j, dnS A c p j ↔ dnS A (c + 1) p j ∨ dn A c j := fun j => ⟨fun ⟨q, q1, q2, q3, q4⟩ => by
          by_cases cc : q = c
          · subst cc; exact Or.inr q4
          · exact Or.inl ⟨q, by omega, q2, q3, q4⟩, fun h => by
          rcases h with ⟨q, q1, q2, q3, q4⟩ | h
          · exact ⟨q, by omega, q2, q3, q4⟩
          · exact ⟨c, Nat.le_refl _, hc, hp, h⟩⟩
        have hf : ∀ j, dnS A (c + 1) p j ∨ dn A c j → 0 ≤ (aI A 42 j).toInt ∧ 0 ≤ (aI A 43 j).toInt := fun j h => by
          rcases h with ⟨q, q1, q2, q3, q4⟩ | h
          · exact dn_sp hW q4
          · exact dn_sp hW h
        have hf1 : ∀ j, dnS A (c + 1) p j ∨ dn A c j → aI A 42 j ≠ -1 := fun j h q => by have := (hf j h).1; rw [q, li_m1] at this; omega
        have hf2 : ∀ j, dnS A (c + 1) p j ∨ dn A c j → aI A 43 j ≠ -1 := fun j h q => by have := (hf j h).2; rw [q, li_m1] at this; omega
        have y50 : isx Rge (aI A 43) (dnS A c p) (if gI v 50 p < gI v 50 c then gI v 50 c else gI v 50 p) := isx_j tge e2 d2 hf2 ee (by
            by_cases c2 : gI v 50 p < gI v 50 c
            · rw [if_pos c2]; rw [i_lt] at c2; exact Or.inr (Or.inr (Or.inl ⟨by show _ ≤ _; omega, rfl⟩))
            · rw [if_neg c2]; rw [i_lt] at c2; exact Or.inr (Or.inr (Or.inr ⟨by show _ ≤ _; omega, rfl⟩))) (fun q => by
              rcases q with q | q
              · right
                refine ⟨q, ?_⟩
                rw [if_pos (by rw [i_lt, q, li_m1]; omega)]
              · rw [q, li_m1] at b3''; omega)
        by_cases b4 : 0 ≤ gI v 49 p
        · have y49 : isx Rle (aI A 42) (dnS A c p) (if gI v 49 c < gI v 49 p then gI v 49 c else gI v 49 p) := isx_j tle e1 d1 hf1 ee (by
            by_cases c2 : gI v 49 c < gI v 49 p
            · rw [if_pos c2]; rw [i_lt] at c2; exact Or.inr (Or.inr (Or.inl ⟨by show _ ≤ _; omega, rfl⟩))
            · rw [if_neg c2]; rw [i_lt] at c2; exact Or.inr (Or.inr (Or.inr ⟨by show _ ≤ _; omega, rfl⟩))) (fun q => by
              rcases q with q | q
              · rw [q] at b4; exact absurd b4 (by decide)
              · rw [q, li_m1] at b3'; omega)
          have m1 : ∀ x : Int32, gI (sI v 49 p x) 50 p = gI v 50 p := fun x => gI_n (by omega)
          have m2 : ∀ x : Int32, gI (sI v 49 p x) 50 c = gI v 50 c := fun x => gI_n (by omega)
          refine ⟨_, (hs.sI (by omega)).sI (by omega), fin _ _ y49 y50, ?_⟩
          simp (disch := first | exact h60 | omega | with_unfolding_all exact h60) only [L_X8_holds_60, eq_false c0, k2, eq_false b1, k5, eq_false b2, eq_true b3, eq_true b4, m1, m2, sub1, ↓bb_e, ↓c_sI, ↓o_sI, ↓a_sI, ↓c_sL, ↓o_sL, ↓a_sL, ↓c_rI, ↓o_rI, ↓a_rI, ↓c_rL, ↓o_rL, ↓a_rL, ↓c_rngI, ↓o_rngI, ↓a_rngI, ↓c_rngL, ↓o_rngL, ↓a_rngL, ↓bd_s, ↓cs_s, ↓cs_n, ↓gd_t, ↓gB0, ↓gB1, ↓gOT, ↓gAS, ↓gOY, ↓gAY, ↓reduceIte, d10, nI_clamp, nI_1', i0eq, ↓gO33 h60, ↓gA34 h60, ↓gA35 h60, ↓gA36 h60, ↓gA37 h60, ↓gA38 h60, ↓gA39 h60, ↓gA40 h60, ↓gA41 h60, ↓gA42 h60, ↓gA43 h60, ↓gA44 h60, ↓gA45 h60, ↓gA46 h60, ↓gA47 h60, ↓gA48 h60, ↓gA49 h60, ↓gA50 h60, ↓gA51 h60, ↓gA52 h60, ↓gA53 h60, ↓gA54 h60, ↓gA55 h60, ↓gA56 h60, ↓gA57 h60, ↓gA58 h60, ↓gA59 h60, ↓cM_4 hRM, ↓cM_5 hRM, ↓cM_6 hRM, ↓cM_8 hRM, ↓cM_9 hRM, ↓cM_10 hRM, ↓cM_11 hRM, ↓cM_12 hRM, ↓cM_13 hRM, ↓cM_14 hRM, ↓cM_15 hRM, ↓cM_16 hRM, ↓cM_17 hRM, ↓cM_18 hRM, ↓cM_19 hRM, ↓cM_20 hRM, ↓cM_21 hRM, ↓cM_23 hRM, ↓cM_24 hRM, ↓cM_25 hRM, ↓cM_26 hRM, ↓cM_27 hRM, ↓cM_28 hRM, ↓cM_29 hRM, ↓cM_30 hRM, ↓cM_32 hRM, ↓bno8, ↓brf8]
        · have r49 := isx_r (fun j h => (hf j (Or.inl h)).1) e1
          have b4' : gI v 49 p = -1 := by
            rw [i_le, li_0] at b4
            rcases r49 with r | r
            · exact i_is (by rw [r.1, li_m1])
            · omega
          have y49 : isx Rle (aI A 42) (dnS A c p) (gI v 49 c) := isx_j tle e1 d1 hf1 ee (Or.inr (Or.inl ⟨b4', rfl⟩)) (fun _ => Or.inr ⟨b4', rfl⟩)
          have m1 : ∀ x : Int32, gI (sI v 49 p x) 50 p = gI v 50 p := fun x => gI_n (by omega)
          have m2 : ∀ x : Int32, gI (sI v 49 p x) 50 c = gI v 50 c := fun x => gI_n (by omega)
          refine ⟨_, (hs.sI (by omega)).sI (by omega), fin _ _ y49 y50, ?_⟩
          simp (disch := first | exact h60 | omega | with_unfolding_all exact h60) only [L_X8_holds_60, eq_false c0, k2, eq_false b1, k5, eq_false b2, eq_true b3, eq_false b4, m1, m2, sub1, ↓bb_e, ↓c_sI, ↓o_sI, ↓a_sI, ↓c_sL, ↓o_sL, ↓a_sL, ↓c_rI, ↓o_rI, ↓a_rI, ↓c_rL, ↓o_rL, ↓a_rL, ↓c_rngI, ↓o_rngI, ↓a_rngI, ↓c_rngL, ↓o_rngL, ↓a_rngL, ↓bd_s, ↓cs_s, ↓cs_n, ↓gd_t, ↓gB0, ↓gB1, ↓gOT, ↓gAS, ↓gOY, ↓gAY, ↓reduceIte, d10, nI_clamp, nI_1', i0eq, ↓gO33 h60, ↓gA34 h60, ↓gA35 h60, ↓gA36 h60, ↓gA37 h60, ↓gA38 h60, ↓gA39 h60, ↓gA40 h60, ↓gA41 h60, ↓gA42 h60, ↓gA43 h60, ↓gA44 h60, ↓gA45 h60, ↓gA46 h60, ↓gA47 h60, ↓gA48 h60, ↓gA49 h60, ↓gA50 h60, ↓gA51 h60, ↓gA52 h60, ↓gA53 h60, ↓gA54 h60, ↓gA55 h60, ↓gA56 h60, ↓gA57 h60, ↓gA58 h60, ↓gA59 h60, ↓cM_4 hRM, ↓cM_5 hRM, ↓cM_6 hRM, ↓cM_8 hRM, ↓cM_9 hRM, ↓cM_10 hRM, ↓cM_11 hRM, ↓cM_12 hRM, ↓cM_13 hRM, ↓cM_14 hRM, ↓cM_15 hRM, ↓cM_16 hRM, ↓cM_17 hRM, ↓cM_18 hRM, ↓cM_19 hRM, ↓cM_20 hRM, ↓cM_21 hRM, ↓cM_23 hRM, ↓cM_24 hRM, ↓cM_25 hRM, ↓cM_26 hRM, ↓cM_27 hRM, ↓cM_28 hRM, ↓cM_29 hRM, ↓cM_30 hRM, ↓cM_32 hRM, ↓bno8, ↓brf8]
      · refine ⟨v, hs, fun p' hp' => hrow_n (hr p' hp') (fun s j q => ?_), ?_⟩
        · rcases s1 with s1 | s1
          · exact s1.2 j
          · rw [i_le, li_0] at b3; omega
        · simp (disch := first | exact h60 | omega | with_unfolding_all exact h60) only [L_X8_holds_60, eq_false c0, k2, eq_false b1, k5, eq_false b2, eq_false b3, sub1, ↓bb_e, ↓c_sI, ↓o_sI, ↓a_sI, ↓c_sL, ↓o_sL, ↓a_sL, ↓c_rI, ↓o_rI, ↓a_rI, ↓c_rL, ↓o_rL, ↓a_rL, ↓c_rngI, ↓o_rngI, ↓a_rngI, ↓c_rngL, ↓o_rngL, ↓a_rngL, ↓bd_s, ↓cs_s, ↓cs_n, ↓gd_t, ↓gB0, ↓gB1, ↓gOT, ↓gAS, ↓gOY, ↓gAY, ↓reduceIte, d10, nI_clamp, nI_1', i0eq, ↓gO33 h60, ↓gA34 h60, ↓gA35 h60, ↓gA36 h60, ↓gA37 h60, ↓gA38 h60, ↓gA39 h60, ↓gA40 h60, ↓gA41 h60, ↓gA42 h60, ↓gA43 h60, ↓gA44 h60, ↓gA45 h60, ↓gA46 h60, ↓gA47 h60, ↓gA48 h60, ↓gA49 h60, ↓gA50 h60, ↓gA51 h60, ↓gA52 h60, ↓gA53 h60, ↓gA54 h60, ↓gA55 h60, ↓gA56 h60, ↓gA57 h60, ↓gA58 h60, ↓gA59 h60, ↓cM_4 hRM, ↓cM_5 hRM, ↓cM_6 hRM, ↓cM_8 hRM, ↓cM_9 hRM, ↓cM_10 hRM, ↓cM_11 hRM, ↓cM_12 hRM, ↓cM_13 hRM, ↓cM_14 hRM, ↓cM_15 hRM, ↓cM_16 hRM, ↓cM_17 hRM, ↓cM_18 hRM, ↓cM_19 hRM, ↓cM_20 hRM, ↓cM_21 hRM, ↓cM_23 hRM, ↓cM_24 hRM, ↓cM_25 hRM, ↓cM_26 hRM, ↓cM_27 hRM, ↓cM_28 hRM, ↓cM_29 hRM, ↓cM_30 hRM, ↓cM_32 hRM, ↓bno8, ↓brf8]
theorem ho2_l {u : Mm} {A : Ab} (hW : Wf A) (hM : MR u A) {k : Int32 → Mm → Option Mm} : ∀ (c n : Nat) (v : Mm), c ≤ an A → c < n → scrM u v → (∀ p, p < an A → hrow A c v p) → ∃ v', scrM u v' ∧ (∀ p, p < an A → hrow A 0 v' p) ∧ L_X8_holds_60 33 k n (nI c - 1) v = k (-1) v' := by
  intro c
  induction c with
  | zero =>
    intro n v h1 h2 hs hr
    obtain ⟨n, rfl⟩ : ∃ b, n = b + 1 := ⟨n - 1, by omega⟩
    refine ⟨v, hs, hr, ?_⟩
    rw [nI_0, show (0 : Int32) - 1 = -1 from rfl, L_X8_holds_60, if_pos (by decide)]
  | succ c ih =>
    intro n v h1 h2 hs hr
    obtain ⟨n, rfl⟩ : ∃ b, n = b + 1 := ⟨n - 1, by omega⟩
    obtain ⟨v1, a1, a2, a3⟩ := ho2_s hW hM (k := k) (c := c) (n := n) (v := v) (by omega) hs hr
    obtain ⟨v', b1, b2, b3⟩ := ih n v1 (by omega) (by omega) a1 a2
    refine ⟨v', b1, b2, ?_⟩
    rw [nI_pred, a3, b3]
theorem ho_t {u : Mm} {A : Ab} (hW : Wf A) (hM : MR u A) : ∃ v, scrM u v ∧ (∀ p, p < an A → isx Rle (aI A 42) (dn A p) (gI v 49 p) ∧ isx Rge (aI A 43) (dn A p) (gI v 50 p)) ∧ f_X8_holds 33 u = some v := by
  have h80 := hW.1.1
  obtain ⟨v1, a1, a2, a3⟩ := ho1_l hW hM (k := fun a23 u24 => gd (okO u24 33 8) (bb (((gI u24 33 7) - 1)) (fun v26 => L_X8_holds_60 33 (fun a83 u84 => some u84) 1000 v26 u24))) (an A) 1000 0 u (by omega) (by omega) scrM.rf (fun i hi => by omega)
  obtain ⟨v, b1, b2, b3⟩ := ho2_l hW hM (k := fun a83 u84 => some u84) (an A) 1000 v1 (Nat.le_refl _) (by omega) a1 (fun p hp => ⟨fun s => by
    obtain ⟨q1, q2⟩ := a2 p hp
    rw [q1, q2]
    exact ⟨rfl, if_neg s⟩, fun s => by
    obtain ⟨q1, q2⟩ := a2 p hp
    rw [q1, q2, s, show row50 A p = -1 from if_pos s]
    exact ⟨isx_0 (fun j ⟨q, q1, q2, _⟩ => by omega), isx_0 (fun j ⟨q, q1, q2, _⟩ => by omega)⟩⟩)
  refine ⟨v, b1, fun p hp => hrow_d hW hp (by omega) (b2 p hp), ?_⟩
  rw [nI_0] at a3
  obtain ⟨hRM, h60, h7, -⟩ := hM.scrM a1
  rw [f_X8_holds, a3, oO33 h60, gd_t, h7, bb_e, b3]
theorem stp_st (A : Ab) (c : Int32) (k : Nat) (x : Option Nat) : stp (st A c) k x = stp A k x := by
  unfold stp
  have e : lineO (st A c) x = lineO A x := by
    cases x with
    | none => rfl
    | some i => exact line_st A c i
  rw [e]
  congr 1
theorem dn_st (A : Ab) (c : Int32) (t j : Nat) : dn (st A c) t j ↔ dn A t j := by
  unfold dn shw
  rw [aI_st (by omega), aI_st (by omega), stp_st]
  exact Iff.rfl
theorem isx_st {R : Int → Int → Prop} {A : Ab} {c : Int32} {t r : Nat} {x : Int32} (hr : r ≠ 33) (h : isx R (aI (st A c) r) (dn (st A c) t) x) : isx R (aI A r) (dn A t) x := by
  have e : aI (st A c) r = aI A r := funext (fun j => aI_st hr)
  rw [e] at h
  exact isx_c h (dn_st A c t)
theorem P_held {u : Mm} (hI : Inv u) (p1 p2 : Int32) : Pq (f_X7_held 0 p1 p2) (f_X8_held 33 p1 p2) u := by
  obtain ⟨A, hW, hC, hM⟩ := hI
  obtain ⟨hRC, hN, hS, hF, hT, hPc, hY, hLg, hSh⟩ := id hC
  obtain ⟨hRM, h60, h7, hMs, hMf, hMt, hMy, hMl⟩ := id hM
  have h80 : an A ≤ 80 := hW.1.1
  have hn := hN.1
  by_cases a1 : isT A p1
  · obtain ⟨t, ht, rfl⟩ := isT_ex a1
    have hat := at_some hC hW ht
    obtain ⟨r, r1, r2⟩ := hd_t hW hC ht p2
    have mod : ∀ c : Int32, ∃ v, scrM (m0 (sI u 0 5 c)) v ∧ f_X8_held 33 (nI t) p2 (sI u 0 5 c) = if r = -1 then some (-1, sI v 33 0 9) else some (r, v) := fun c => by
      have hM' := MR_k hM c
      obtain ⟨v, s, b1, b2⟩ := ho_t (Wf_st 0 hW) hM'
      have b1 := b1 t ht
      have b1 := And.intro (isx_st (by omega) b1.1) (isx_st (by omega) b1.2)
      have hmt := mt_some hM' (Wf_st 0 hW) ht
      have hMv := hM'.scrM s
      have rr : (r = -1 ∧ ¬ 0 ≤ gI v 49 t) ∨ (r ≠ -1 ∧ 0 ≤ gI v 49 t ∧ r = if p2 = 0 then gI v 49 t else gI v 50 t) := by
        have s1 := isx_r (fun j h => (dn_sp hW h).1) b1.1
        have s2 := isx_r (fun j h => (dn_sp hW h).2) b1.2
        have e : r = if p2 = 0 then gI v 49 t else gI v 50 t := by
          rcases r1 with ⟨rfl, r1⟩ | ⟨hp, r1⟩
          · rw [if_pos rfl]
            exact isx_u ale (fun j h q => by have := (dn_sp hW h).1; rw [q, li_m1] at this; omega) r1 b1.1
          · rw [if_neg hp]
            exact isx_u age (fun j h q => by have := (dn_sp hW h).2; rw [q, li_m1] at this; omega) r1 b1.2
        rw [i_le, li_0]
        rcases s1 with ⟨s1, s3⟩ | ⟨s1, j, s3⟩
        · left
          have s4 : (gI v 50 t).toInt = -1 := by
            rcases s2 with s2 | ⟨-, j, s2⟩
            · exact s2.1
            · exact absurd s2 (s3 j)
          refine ⟨?_, by omega⟩
          rw [e]
          split
          · exact i_is (by rw [s1, li_m1])
          · exact i_is (by rw [s4, li_m1])
        · right
          have s4 : 0 ≤ (gI v 50 t).toInt := by
            rcases s2 with ⟨-, s2⟩ | s2
            · exact absurd s3 (s2 j)
            · exact s2.1
          refine ⟨?_, s1, e⟩
          rw [e]
          split
          · intro q; rw [q, li_m1] at s1; omega
          · intro q; rw [q, li_m1] at s4; omega
      refine ⟨v, s, ?_⟩
      rw [f_X8_held, oO33 (u := sI u 0 5 c) h60, gd_t]
      unfold m0 at hM' b2 hmt
      generalize sI (sI (sI u 0 5 c) 33 1 0) 33 0 0 = w at *
      obtain ⟨gRM, g60, -⟩ := hMv
      clear h60 hRM
      obtain ⟨hRM, h60, -⟩ := hM'
      rcases rr with ⟨rr, r3⟩ | ⟨rr, r3, r4⟩
      · rw [if_pos rr]
        simp (disch := first | exact h60 | omega | with_unfolding_all exact h60) only [↓bd_of hmt, ↓bd_of b2, ↓gO33 g60, ↓cM_20 gRM, ↓gA49 g60, eq_false r3, ↓brf8 g60, ↓bb_e, ↓c_sI, ↓o_sI, ↓a_sI, ↓c_sL, ↓o_sL, ↓a_sL, ↓c_rI, ↓o_rI, ↓a_rI, ↓c_rL, ↓o_rL, ↓a_rL, ↓c_rngI, ↓o_rngI, ↓a_rngI, ↓c_rngL, ↓o_rngL, ↓a_rngL, ↓bd_s, ↓cs_s, ↓cs_n, ↓gd_t, ↓gB0, ↓gB1, ↓gOT, ↓gAS, ↓gOY, ↓gAY, ↓reduceIte, d10, nI_clamp, nI_1', i0eq, ↓gO33 h60, ↓gA34 h60, ↓gA35 h60, ↓gA36 h60, ↓gA37 h60, ↓gA38 h60, ↓gA39 h60, ↓gA40 h60, ↓gA41 h60, ↓gA42 h60, ↓gA43 h60, ↓gA44 h60, ↓gA45 h60, ↓gA46 h60, ↓gA47 h60, ↓gA48 h60, ↓gA49 h60, ↓gA50 h60, ↓gA51 h60, ↓gA52 h60, ↓gA53 h60, ↓gA54 h60, ↓gA55 h60, ↓gA56 h60, ↓gA57 h60, ↓gA58 h60, ↓gA59 h60, ↓cM_4 hRM, ↓cM_5 hRM, ↓cM_6 hRM, ↓cM_8 hRM, ↓cM_9 hRM, ↓cM_10 hRM, ↓cM_11 hRM, ↓cM_12 hRM, ↓cM_13 hRM, ↓cM_14 hRM, ↓cM_15 hRM, ↓cM_16 hRM, ↓cM_17 hRM, ↓cM_18 hRM, ↓cM_19 hRM, ↓cM_20 hRM, ↓cM_21 hRM, ↓cM_23 hRM, ↓cM_24 hRM, ↓cM_25 hRM, ↓cM_26 hRM, ↓cM_27 hRM, ↓cM_28 hRM, ↓cM_29 hRM, ↓cM_30 hRM, ↓cM_32 hRM, ↓bno8, ↓brf8]
      · rw [if_neg rr, r4]
        by_cases hp : p2 = 0
        · rw [if_pos hp]
          simp (disch := first | exact h60 | omega | with_unfolding_all exact h60) only [↓bd_of hmt, ↓bd_of b2, ↓gO33 g60, ↓cM_20 gRM, ↓gA49 g60, eq_true r3, eq_true hp, ↓bb_e, ↓c_sI, ↓o_sI, ↓a_sI, ↓c_sL, ↓o_sL, ↓a_sL, ↓c_rI, ↓o_rI, ↓a_rI, ↓c_rL, ↓o_rL, ↓a_rL, ↓c_rngI, ↓o_rngI, ↓a_rngI, ↓c_rngL, ↓o_rngL, ↓a_rngL, ↓bd_s, ↓cs_s, ↓cs_n, ↓gd_t, ↓gB0, ↓gB1, ↓gOT, ↓gAS, ↓gOY, ↓gAY, ↓reduceIte, d10, nI_clamp, nI_1', i0eq, ↓gO33 h60, ↓gA34 h60, ↓gA35 h60, ↓gA36 h60, ↓gA37 h60, ↓gA38 h60, ↓gA39 h60, ↓gA40 h60, ↓gA41 h60, ↓gA42 h60, ↓gA43 h60, ↓gA44 h60, ↓gA45 h60, ↓gA46 h60, ↓gA47 h60, ↓gA48 h60, ↓gA49 h60, ↓gA50 h60, ↓gA51 h60, ↓gA52 h60, ↓gA53 h60, ↓gA54 h60, ↓gA55 h60, ↓gA56 h60, ↓gA57 h60, ↓gA58 h60, ↓gA59 h60, ↓cM_4 hRM, ↓cM_5 hRM, ↓cM_6 hRM, ↓cM_8 hRM, ↓cM_9 hRM, ↓cM_10 hRM, ↓cM_11 hRM, ↓cM_12 hRM, ↓cM_13 hRM, ↓cM_14 hRM, ↓cM_15 hRM, ↓cM_16 hRM, ↓cM_17 hRM, ↓cM_18 hRM, ↓cM_19 hRM, ↓cM_20 hRM, ↓cM_21 hRM, ↓cM_23 hRM, ↓cM_24 hRM, ↓cM_25 hRM, ↓cM_26 hRM, ↓cM_27 hRM, ↓cM_28 hRM, ↓cM_29 hRM, ↓cM_30 hRM, ↓cM_32 hRM, ↓bno8, ↓brf8]
        · rw [if_neg hp]
          simp (disch := first | exact h60 | omega | with_unfolding_all exact h60) only [↓bd_of hmt, ↓bd_of b2, ↓gO33 g60, ↓cM_20 gRM, ↓cM_21 gRM, ↓gA49 g60, ↓gA50 g60, eq_true r3, eq_false hp, ↓bb_e, ↓c_sI, ↓o_sI, ↓a_sI, ↓c_sL, ↓o_sL, ↓a_sL, ↓c_rI, ↓o_rI, ↓a_rI, ↓c_rL, ↓o_rL, ↓a_rL, ↓c_rngI, ↓o_rngI, ↓a_rngI, ↓c_rngL, ↓o_rngL, ↓a_rngL, ↓bd_s, ↓cs_s, ↓cs_n, ↓gd_t, ↓gB0, ↓gB1, ↓gOT, ↓gAS, ↓gOY, ↓gAY, ↓reduceIte, d10, nI_clamp, nI_1', i0eq, ↓gO33 h60, ↓gA34 h60, ↓gA35 h60, ↓gA36 h60, ↓gA37 h60, ↓gA38 h60, ↓gA39 h60, ↓gA40 h60, ↓gA41 h60, ↓gA42 h60, ↓gA43 h60, ↓gA44 h60, ↓gA45 h60, ↓gA46 h60, ↓gA47 h60, ↓gA48 h60, ↓gA49 h60, ↓gA50 h60, ↓gA51 h60, ↓gA52 h60, ↓gA53 h60, ↓gA54 h60, ↓gA55 h60, ↓gA56 h60, ↓gA57 h60, ↓gA58 h60, ↓gA59 h60, ↓cM_4 hRM, ↓cM_5 hRM, ↓cM_6 hRM, ↓cM_8 hRM, ↓cM_9 hRM, ↓cM_10 hRM, ↓cM_11 hRM, ↓cM_12 hRM, ↓cM_13 hRM, ↓cM_14 hRM, ↓cM_15 hRM, ↓cM_16 hRM, ↓cM_17 hRM, ↓cM_18 hRM, ↓cM_19 hRM, ↓cM_20 hRM, ↓cM_21 hRM, ↓cM_23 hRM, ↓cM_24 hRM, ↓cM_25 hRM, ↓cM_26 hRM, ↓cM_27 hRM, ↓cM_28 hRM, ↓cM_29 hRM, ↓cM_30 hRM, ↓cM_32 hRM, ↓bno8, ↓brf8]
    by_cases c : r = -1
    · obtain ⟨v, s, e⟩ := mod 9
      rw [if_pos c] at e
      have h7' : f_X7_held 0 (nI t) p2 u = some (-1, sI u 0 5 9) := by
        simp (disch := first | exact h60 | omega | with_unfolding_all exact h60) only [f_X7_held, ↓bd_of hat, ↓bd_of r2, eq_true c, ↓bb_e, ↓c_sI, ↓o_sI, ↓a_sI, ↓c_sL, ↓o_sL, ↓a_sL, ↓c_rI, ↓o_rI, ↓a_rI, ↓c_rL, ↓o_rL, ↓a_rL, ↓c_rngI, ↓o_rngI, ↓a_rngI, ↓c_rngL, ↓o_rngL, ↓a_rngL, ↓bd_s, ↓cs_s, ↓cs_n, ↓gd_t, ↓gB0, ↓gB1, ↓gOT, ↓gAS, ↓gOY, ↓gAY, ↓reduceIte, d10, nI_clamp, nI_1', i0eq, ↓gO0 h60, ↓gO2 h60, ↓gO6 h60, ↓gO10 h60, ↓gO11 h60, ↓gO14 h60, ↓gO21 h60, ↓gA1 h60, ↓gA3 h60, ↓gA4 h60, ↓gA5 h60, ↓gA7 h60, ↓gA8 h60, ↓gA9 h60, ↓gA12 h60, ↓gA13 h60, ↓gA15 h60, ↓gA16 h60, ↓gA17 h60, ↓gA18 h60, ↓gA19 h60, ↓gA20 h60, ↓gA22 h60, ↓gA23 h60, ↓gA24 h60, ↓cC_0_0 hRC, ↓cC_0_1 hRC, ↓cC_0_2 hRC, ↓cC_0_3 hRC, ↓cC_0_4 hRC, ↓cC_2_0 hRC, ↓cC_2_2 hRC, ↓cC_2_3 hRC, ↓cC_6_0 hRC, ↓cC_6_1 hRC, ↓cC_6_2 hRC, ↓cC_10_0 hRC, ↓cC_10_1 hRC, ↓cC_10_2 hRC, ↓cC_10_3 hRC, ↓cC_10_4 hRC, ↓cC_10_5 hRC, ↓cC_11_0 hRC, ↓cC_11_1 hRC, ↓cC_14_0 hRC, ↓cC_14_1 hRC, ↓cC_21_0 hRC, ↓cC_21_1 hRC, ↓cC_21_2 hRC, ↓bdn7, ↓brf7, ↓bgr7, ↓ban7]
      refine leaf (-1) _ _ (st A 9) h7' e (Wf_st 9 hW) (CR_st 9 hC) ?_ ((((keepC.rf.sI (by omega)).sI (by omega)).trans s.keepC).sI (by omega))
      have := MR_st 9 ((MR_k hM 9).scrM s)
      rw [st_st] at this
      exact this
    · obtain ⟨v, s, e⟩ := mod 0
      rw [if_neg c] at e
      refine leaf_ok (A' := A) r ?_ e hW hC ((MR_k hM 0).scrM s) (((keepC.rf.sI (by omega)).sI (by omega)).trans s.keepC)
      simp (disch := first | exact h60 | omega | with_unfolding_all exact h60) only [f_X7_held, ↓bd_of hat, ↓bd_of r2, eq_false c, ↓bb_e, ↓c_sI, ↓o_sI, ↓a_sI, ↓c_sL, ↓o_sL, ↓a_sL, ↓c_rI, ↓o_rI, ↓a_rI, ↓c_rL, ↓o_rL, ↓a_rL, ↓c_rngI, ↓o_rngI, ↓a_rngI, ↓c_rngL, ↓o_rngL, ↓a_rngL, ↓bd_s, ↓cs_s, ↓cs_n, ↓gd_t, ↓gB0, ↓gB1, ↓gOT, ↓gAS, ↓gOY, ↓gAY, ↓reduceIte, d10, nI_clamp, nI_1', i0eq, ↓gO0 h60, ↓gO2 h60, ↓gO6 h60, ↓gO10 h60, ↓gO11 h60, ↓gO14 h60, ↓gO21 h60, ↓gA1 h60, ↓gA3 h60, ↓gA4 h60, ↓gA5 h60, ↓gA7 h60, ↓gA8 h60, ↓gA9 h60, ↓gA12 h60, ↓gA13 h60, ↓gA15 h60, ↓gA16 h60, ↓gA17 h60, ↓gA18 h60, ↓gA19 h60, ↓gA20 h60, ↓gA22 h60, ↓gA23 h60, ↓gA24 h60, ↓cC_0_0 hRC, ↓cC_0_1 hRC, ↓cC_0_2 hRC, ↓cC_0_3 hRC, ↓cC_0_4 hRC, ↓cC_2_0 hRC, ↓cC_2_2 hRC, ↓cC_2_3 hRC, ↓cC_6_0 hRC, ↓cC_6_1 hRC, ↓cC_6_2 hRC, ↓cC_10_0 hRC, ↓cC_10_1 hRC, ↓cC_10_2 hRC, ↓cC_10_3 hRC, ↓cC_10_4 hRC, ↓cC_10_5 hRC, ↓cC_11_0 hRC, ↓cC_11_1 hRC, ↓cC_14_0 hRC, ↓cC_14_1 hRC, ↓cC_21_0 hRC, ↓cC_21_1 hRC, ↓cC_21_2 hRC, ↓bdn7, ↓brf7, ↓bgr7, ↓ban7]
  · refine leaf_st (A := A) (-1) 2 0 hW hC hM ?_ ?_
    · simp (disch := first | exact h60 | omega | with_unfolding_all exact h60) only [f_X7_held, ↓bd_of (at_none hC hW a1), ↓bb_e, ↓c_sI, ↓o_sI, ↓a_sI, ↓c_sL, ↓o_sL, ↓a_sL, ↓c_rI, ↓o_rI, ↓a_rI, ↓c_rL, ↓o_rL, ↓a_rL, ↓c_rngI, ↓o_rngI, ↓a_rngI, ↓c_rngL, ↓o_rngL, ↓a_rngL, ↓bd_s, ↓cs_s, ↓cs_n, ↓gd_t, ↓gB0, ↓gB1, ↓gOT, ↓gAS, ↓gOY, ↓gAY, ↓reduceIte, d10, nI_clamp, nI_1', i0eq, ↓gO0 h60, ↓gO2 h60, ↓gO6 h60, ↓gO10 h60, ↓gO11 h60, ↓gO14 h60, ↓gO21 h60, ↓gA1 h60, ↓gA3 h60, ↓gA4 h60, ↓gA5 h60, ↓gA7 h60, ↓gA8 h60, ↓gA9 h60, ↓gA12 h60, ↓gA13 h60, ↓gA15 h60, ↓gA16 h60, ↓gA17 h60, ↓gA18 h60, ↓gA19 h60, ↓gA20 h60, ↓gA22 h60, ↓gA23 h60, ↓gA24 h60, ↓cC_0_0 hRC, ↓cC_0_1 hRC, ↓cC_0_2 hRC, ↓cC_0_3 hRC, ↓cC_0_4 hRC, ↓cC_2_0 hRC, ↓cC_2_2 hRC, ↓cC_2_3 hRC, ↓cC_6_0 hRC, ↓cC_6_1 hRC, ↓cC_6_2 hRC, ↓cC_10_0 hRC, ↓cC_10_1 hRC, ↓cC_10_2 hRC, ↓cC_10_3 hRC, ↓cC_10_4 hRC, ↓cC_10_5 hRC, ↓cC_11_0 hRC, ↓cC_11_1 hRC, ↓cC_14_0 hRC, ↓cC_14_1 hRC, ↓cC_21_0 hRC, ↓cC_21_1 hRC, ↓cC_21_2 hRC, ↓bdn7, ↓brf7, ↓bgr7, ↓ban7]
    · have hmt := mt_none (MR_k hM 2) (Wf_st 0 hW) (p := p1) a1
      rw [f_X8_held, oO33 (u := sI u 0 5 2) h60, gd_t]
      have hM' := MR_k hM 2
      unfold m0 at hM' hmt
      generalize sI (sI (sI u 0 5 2) 33 1 0) 33 0 0 = w at *
      clear h60 hRM
      obtain ⟨hRM, h60, -⟩ := hM'
      simp (disch := first | exact h60 | omega | with_unfolding_all exact h60) only [↓bd_of hmt, ↓bb_e, ↓c_sI, ↓o_sI, ↓a_sI, ↓c_sL, ↓o_sL, ↓a_sL, ↓c_rI, ↓o_rI, ↓a_rI, ↓c_rL, ↓o_rL, ↓a_rL, ↓c_rngI, ↓o_rngI, ↓a_rngI, ↓c_rngL, ↓o_rngL, ↓a_rngL, ↓bd_s, ↓cs_s, ↓cs_n, ↓gd_t, ↓gB0, ↓gB1, ↓gOT, ↓gAS, ↓gOY, ↓gAY, ↓reduceIte, d10, nI_clamp, nI_1', i0eq, ↓gO33 h60, ↓gA34 h60, ↓gA35 h60, ↓gA36 h60, ↓gA37 h60, ↓gA38 h60, ↓gA39 h60, ↓gA40 h60, ↓gA41 h60, ↓gA42 h60, ↓gA43 h60, ↓gA44 h60, ↓gA45 h60, ↓gA46 h60, ↓gA47 h60, ↓gA48 h60, ↓gA49 h60, ↓gA50 h60, ↓gA51 h60, ↓gA52 h60, ↓gA53 h60, ↓gA54 h60, ↓gA55 h60, ↓gA56 h60, ↓gA57 h60, ↓gA58 h60, ↓gA59 h60, ↓cM_4 hRM, ↓cM_5 hRM, ↓cM_6 hRM, ↓cM_8 hRM, ↓cM_9 hRM, ↓cM_10 hRM, ↓cM_11 hRM, ↓cM_12 hRM, ↓cM_13 hRM, ↓cM_14 hRM, ↓cM_15 hRM, ↓cM_16 hRM, ↓cM_17 hRM, ↓cM_18 hRM, ↓cM_19 hRM, ↓cM_20 hRM, ↓cM_21 hRM, ↓cM_23 hRM, ↓cM_24 hRM, ↓cM_25 hRM, ↓cM_26 hRM, ↓cM_27 hRM, ↓cM_28 hRM, ↓cM_29 hRM, ↓cM_30 hRM, ↓cM_32 hRM, ↓bno8, ↓brf8]
