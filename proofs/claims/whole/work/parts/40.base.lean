/-! PURE PART: reading a memory -/
theorem gI_sI (u : Mm) (r k : Nat) (v : Int32) (a j : Nat) : gI (sI u r k v) a j = if a = r ∧ j = k then v else gI u a j := rfl
theorem gI_sL (u : Mm) (r k : Nat) (v : Int64) (a j : Nat) : gI (sL u r k v) a j = gI u a j := rfl
theorem gI_sR (u : Mm) (r k : Nat) (v : Option Nat) (a j : Nat) : gI (sR u r k v) a j = gI u a j := rfl
theorem gI_rI (u : Mm) (r : Nat) (g : Nat → Int32) (a j : Nat) : gI (rI u r g) a j = if a = r then g j else gI u a j := rfl
theorem gI_rL (u : Mm) (r : Nat) (g : Nat → Int64) (a j : Nat) : gI (rL u r g) a j = gI u a j := rfl
theorem gL_sI (u : Mm) (r k : Nat) (v : Int32) (a j : Nat) : gL (sI u r k v) a j = gL u a j := rfl
theorem gL_sL (u : Mm) (r k : Nat) (v : Int64) (a j : Nat) : gL (sL u r k v) a j = if a = r ∧ j = k then v else gL u a j := rfl
theorem gL_sR (u : Mm) (r k : Nat) (v : Option Nat) (a j : Nat) : gL (sR u r k v) a j = gL u a j := rfl
theorem gL_rI (u : Mm) (r : Nat) (g : Nat → Int32) (a j : Nat) : gL (rI u r g) a j = gL u a j := rfl
theorem gL_rL (u : Mm) (r : Nat) (g : Nat → Int64) (a j : Nat) : gL (rL u r g) a j = if a = r then g j else gL u a j := rfl
theorem gR_sI (u : Mm) (r k : Nat) (v : Int32) (a j : Nat) : gR (sI u r k v) a j = gR u a j := rfl
theorem gR_sL (u : Mm) (r k : Nat) (v : Int64) (a j : Nat) : gR (sL u r k v) a j = gR u a j := rfl
theorem gR_sR (u : Mm) (r k : Nat) (v : Option Nat) (a j : Nat) : gR (sR u r k v) a j = if a = r ∧ j = k then v else gR u a j := rfl
theorem gR_rI (u : Mm) (r : Nat) (g : Nat → Int32) (a j : Nat) : gR (rI u r g) a j = gR u a j := rfl
theorem gR_rL (u : Mm) (r : Nat) (g : Nat → Int64) (a j : Nat) : gR (rL u r g) a j = gR u a j := rfl
theorem n_sI (u : Mm) (r k : Nat) (v : Int32) : (sI u r k v).1 = u.1 := rfl
theorem n_sL (u : Mm) (r k : Nat) (v : Int64) : (sL u r k v).1 = u.1 := rfl
theorem n_sR (u : Mm) (r k : Nat) (v : Option Nat) : (sR u r k v).1 = u.1 := rfl
theorem n_rI (u : Mm) (r : Nat) (g : Nat → Int32) : (rI u r g).1 = u.1 := rfl
theorem n_rL (u : Mm) (r : Nat) (g : Nat → Int64) : (rL u r g).1 = u.1 := rfl
theorem okO_t {u : Mm} {r c : Nat} (h1 : r < u.1) (h2 : shp r = c) : okO u r c = true := by simp [okO, h1, h2]
theorem okA_t {u : Mm} {r c n i : Nat} (h1 : r < u.1) (h2 : shp r = c) (h3 : aln r = n) (hn : n < 2 ^ 31) (hi : i < n) : okA u r c (nI i) = true := by
  have h := nI_in hi hn
  simp only [okA, h1, h2, h3, decide_true, Bool.true_and]
  exact decide_eq_true h
theorem okO_sI (u : Mm) (a k : Nat) (v : Int32) (r c : Nat) : okO (sI u a k v) r c = okO u r c := rfl
theorem okO_sL (u : Mm) (a k : Nat) (v : Int64) (r c : Nat) : okO (sL u a k v) r c = okO u r c := rfl
theorem okO_sR (u : Mm) (a k : Nat) (v : Option Nat) (r c : Nat) : okO (sR u a k v) r c = okO u r c := rfl
theorem okO_rI (u : Mm) (a : Nat) (g : Nat → Int32) (r c : Nat) : okO (rI u a g) r c = okO u r c := rfl
theorem okO_rL (u : Mm) (a : Nat) (g : Nat → Int64) (r c : Nat) : okO (rL u a g) r c = okO u r c := rfl
theorem okA_sI (u : Mm) (a k : Nat) (v : Int32) (r c : Nat) (i : Int32) : okA (sI u a k v) r c i = okA u r c i := rfl
theorem okA_sL (u : Mm) (a k : Nat) (v : Int64) (r c : Nat) (i : Int32) : okA (sL u a k v) r c i = okA u r c i := rfl
theorem okA_sR (u : Mm) (a k : Nat) (v : Option Nat) (r c : Nat) (i : Int32) : okA (sR u a k v) r c i = okA u r c i := rfl
theorem okA_rI (u : Mm) (a : Nat) (g : Nat → Int32) (r c : Nat) (i : Int32) : okA (rI u a g) r c i = okA u r c i := rfl
theorem okA_rL (u : Mm) (a : Nat) (g : Nat → Int64) (r c : Nat) (i : Int32) : okA (rL u a g) r c i = okA u r c i := rfl
theorem shp_t (i : Nat) : shp (60 + 2 * i) = 5 := by
  unfold shp
  rw [if_neg (by omega), if_pos (by omega)]
theorem shp_s (i : Nat) : shp (61 + 2 * i) = 9 := by
  unfold shp
  rw [if_neg (by omega), if_neg (by omega)]
theorem aln_s (i : Nat) : aln (61 + 2 * i) = 6 := by
  unfold aln
  rw [if_neg (by omega)]
/-- ints as numbers -/
theorem i_lt (a b : Int32) : a < b ↔ a.toInt < b.toInt := Int32.lt_iff_toInt_lt
theorem i_le (a b : Int32) : a ≤ b ↔ a.toInt ≤ b.toInt := Int32.le_iff_toInt_le
theorem i_eq (a b : Int32) : a = b ↔ a.toInt = b.toInt := Int32.toInt_inj.symm
theorem i_range (a : Int32) : -2147483648 ≤ a.toInt ∧ a.toInt ≤ 2147483647 := by
  have h1 := Int32.le_toInt a
  have h2 := Int32.toInt_lt a
  exact ⟨by omega, by omega⟩
theorem i_nI {x : Int32} {n : Nat} (h : x.toInt = (n : Int)) : x = nI n := by
  have hr := i_range x
  rw [i_eq, nI_toInt (by omega)]
  exact h
theorem i_ex {x : Int32} (h : 0 ≤ x.toInt) : ∃ n : Nat, x = nI n ∧ x.toInt = (n : Int) ∧ n < 2 ^ 31 := by
  have hr := i_range x
  refine ⟨x.toInt.toNat, i_nI ?_, ?_, ?_⟩ <;> omega
theorem i_m1 : (-1 : Int32).toInt = -1 := by decide
theorem i_clamp (x : Int32) : x.toNatClampNeg = x.toInt.toNat := rfl
