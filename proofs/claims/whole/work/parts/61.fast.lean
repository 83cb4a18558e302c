/-! a quick way to run the programs -/
theorem c_sI {α : Type} (u : Mm) (a b : Nat) (v : Int32) (r k : Nat) (N : Option α) (f : Nat → Option α) : cs (gR (sI u a b v) r k) N f = cs (gR u r k) N f := rfl
theorem o_sI {α : Type} (u : Mm) (a b : Nat) (v : Int32) (r k : Nat) (X : Option α) : gd (okO (sI u a b v) r k) X = gd (okO u r k) X := rfl
theorem a_sI {α : Type} (u : Mm) (a b : Nat) (v : Int32) (r k : Nat) (i : Int32) (X : Option α) : gd (okA (sI u a b v) r k i) X = gd (okA u r k i) X := rfl
theorem c_sL {α : Type} (u : Mm) (a b : Nat) (v : Int64) (r k : Nat) (N : Option α) (f : Nat → Option α) : cs (gR (sL u a b v) r k) N f = cs (gR u r k) N f := rfl
theorem o_sL {α : Type} (u : Mm) (a b : Nat) (v : Int64) (r k : Nat) (X : Option α) : gd (okO (sL u a b v) r k) X = gd (okO u r k) X := rfl
theorem a_sL {α : Type} (u : Mm) (a b : Nat) (v : Int64) (r k : Nat) (i : Int32) (X : Option α) : gd (okA (sL u a b v) r k i) X = gd (okA u r k i) X := rfl
theorem c_rI {α : Type} (u : Mm) (a : Nat) (g : Nat → Int32) (r k : Nat) (N : Option α) (f : Nat → Option α) : cs (gR (rI u a g) r k) N f = cs (gR u r k) N f := rfl
theorem o_rI {α : Type} (u : Mm) (a : Nat) (g : Nat → Int32) (r k : Nat) (X : Option α) : gd (okO (rI u a g) r k) X = gd (okO u r k) X := rfl
theorem a_rI {α : Type} (u : Mm) (a : Nat) (g : Nat → Int32) (r k : Nat) (i : Int32) (X : Option α) : gd (okA (rI u a g) r k i) X = gd (okA u r k i) X := rfl
theorem c_rL {α : Type} (u : Mm) (a : Nat) (g : Nat → Int64) (r k : Nat) (N : Option α) (f : Nat → Option α) : cs (gR (rL u a g) r k) N f = cs (gR u r k) N f := rfl
theorem o_rL {α : Type} (u : Mm) (a : Nat) (g : Nat → Int64) (r k : Nat) (X : Option α) : gd (okO (rL u a g) r k) X = gd (okO u r k) X := rfl
theorem a_rL {α : Type} (u : Mm) (a : Nat) (g : Nat → Int64) (r k : Nat) (i : Int32) (X : Option α) : gd (okA (rL u a g) r k i) X = gd (okA u r k i) X := rfl
theorem c_rngI {α : Type} (u : Mm) (a b c : Nat) (v : Int32) (r k : Nat) (N : Option α) (f : Nat → Option α) : cs (gR (rngI u a b c v) r k) N f = cs (gR u r k) N f := rfl
theorem o_rngI {α : Type} (u : Mm) (a b c : Nat) (v : Int32) (r k : Nat) (X : Option α) : gd (okO (rngI u a b c v) r k) X = gd (okO u r k) X := rfl
theorem a_rngI {α : Type} (u : Mm) (a b c : Nat) (v : Int32) (r k : Nat) (i : Int32) (X : Option α) : gd (okA (rngI u a b c v) r k i) X = gd (okA u r k i) X := rfl
theorem c_rngL {α : Type} (u : Mm) (a b c : Nat) (v : Int64) (r k : Nat) (N : Option α) (f : Nat → Option α) : cs (gR (rngL u a b c v) r k) N f = cs (gR u r k) N f := rfl
theorem o_rngL {α : Type} (u : Mm) (a b c : Nat) (v : Int64) (r k : Nat) (X : Option α) : gd (okO (rngL u a b c v) r k) X = gd (okO u r k) X := rfl
theorem a_rngL {α : Type} (u : Mm) (a b c : Nat) (v : Int64) (r k : Nat) (i : Int32) (X : Option α) : gd (okA (rngL u a b c v) r k i) X = gd (okA u r k i) X := rfl
theorem cC_0_0 {α : Type} {u : Mm} (h : RC u) (N : Option α) (f : Nat → Option α) : cs (gR u 0 0) N f = f 1 := by rw [rc_0_0 h, cs_s]
theorem cC_0_1 {α : Type} {u : Mm} (h : RC u) (N : Option α) (f : Nat → Option α) : cs (gR u 0 1) N f = f 2 := by rw [rc_0_1 h, cs_s]
theorem cC_0_2 {α : Type} {u : Mm} (h : RC u) (N : Option α) (f : Nat → Option α) : cs (gR u 0 2) N f = f 6 := by rw [rc_0_2 h, cs_s]
theorem cC_0_3 {α : Type} {u : Mm} (h : RC u) (N : Option α) (f : Nat → Option α) : cs (gR u 0 3) N f = f 10 := by rw [rc_0_3 h, cs_s]
theorem cC_0_4 {α : Type} {u : Mm} (h : RC u) (N : Option α) (f : Nat → Option α) : cs (gR u 0 4) N f = f 21 := by rw [rc_0_4 h, cs_s]
theorem cC_1_0 {α : Type} {u : Mm} (h : RC u) (N : Option α) (f : Nat → Option α) : cs (gR u 1 0) N f = f 25 := by rw [rc_1_0 h, cs_s]
theorem cC_1_1 {α : Type} {u : Mm} (h : RC u) (N : Option α) (f : Nat → Option α) : cs (gR u 1 1) N f = f 27 := by rw [rc_1_1 h, cs_s]
theorem cC_1_2 {α : Type} {u : Mm} (h : RC u) (N : Option α) (f : Nat → Option α) : cs (gR u 1 2) N f = f 29 := by rw [rc_1_2 h, cs_s]
theorem cC_1_3 {α : Type} {u : Mm} (h : RC u) (N : Option α) (f : Nat → Option α) : cs (gR u 1 3) N f = f 31 := by rw [rc_1_3 h, cs_s]
theorem cC_2_0 {α : Type} {u : Mm} (h : RC u) (N : Option α) (f : Nat → Option α) : cs (gR u 2 0) N f = f 3 := by rw [rc_2_0 h, cs_s]
theorem cC_2_2 {α : Type} {u : Mm} (h : RC u) (N : Option α) (f : Nat → Option α) : cs (gR u 2 2) N f = f 4 := by rw [rc_2_2 h, cs_s]
theorem cC_2_3 {α : Type} {u : Mm} (h : RC u) (N : Option α) (f : Nat → Option α) : cs (gR u 2 3) N f = f 5 := by rw [rc_2_3 h, cs_s]
theorem cC_6_0 {α : Type} {u : Mm} (h : RC u) (N : Option α) (f : Nat → Option α) : cs (gR u 6 0) N f = f 7 := by rw [rc_6_0 h, cs_s]
theorem cC_6_1 {α : Type} {u : Mm} (h : RC u) (N : Option α) (f : Nat → Option α) : cs (gR u 6 1) N f = f 8 := by rw [rc_6_1 h, cs_s]
theorem cC_6_2 {α : Type} {u : Mm} (h : RC u) (N : Option α) (f : Nat → Option α) : cs (gR u 6 2) N f = f 9 := by rw [rc_6_2 h, cs_s]
theorem cC_10_0 {α : Type} {u : Mm} (h : RC u) (N : Option α) (f : Nat → Option α) : cs (gR u 10 0) N f = f 11 := by rw [rc_10_0 h, cs_s]
theorem cC_10_1 {α : Type} {u : Mm} (h : RC u) (N : Option α) (f : Nat → Option α) : cs (gR u 10 1) N f = f 14 := by rw [rc_10_1 h, cs_s]
theorem cC_10_2 {α : Type} {u : Mm} (h : RC u) (N : Option α) (f : Nat → Option α) : cs (gR u 10 2) N f = f 17 := by rw [rc_10_2 h, cs_s]
theorem cC_10_3 {α : Type} {u : Mm} (h : RC u) (N : Option α) (f : Nat → Option α) : cs (gR u 10 3) N f = f 18 := by rw [rc_10_3 h, cs_s]
theorem cC_10_4 {α : Type} {u : Mm} (h : RC u) (N : Option α) (f : Nat → Option α) : cs (gR u 10 4) N f = f 19 := by rw [rc_10_4 h, cs_s]
theorem cC_10_5 {α : Type} {u : Mm} (h : RC u) (N : Option α) (f : Nat → Option α) : cs (gR u 10 5) N f = f 20 := by rw [rc_10_5 h, cs_s]
theorem cC_11_0 {α : Type} {u : Mm} (h : RC u) (N : Option α) (f : Nat → Option α) : cs (gR u 11 0) N f = f 12 := by rw [rc_11_0 h, cs_s]
theorem cC_11_1 {α : Type} {u : Mm} (h : RC u) (N : Option α) (f : Nat → Option α) : cs (gR u 11 1) N f = f 13 := by rw [rc_11_1 h, cs_s]
theorem cC_14_0 {α : Type} {u : Mm} (h : RC u) (N : Option α) (f : Nat → Option α) : cs (gR u 14 0) N f = f 15 := by rw [rc_14_0 h, cs_s]
theorem cC_14_1 {α : Type} {u : Mm} (h : RC u) (N : Option α) (f : Nat → Option α) : cs (gR u 14 1) N f = f 16 := by rw [rc_14_1 h, cs_s]
theorem cC_21_0 {α : Type} {u : Mm} (h : RC u) (N : Option α) (f : Nat → Option α) : cs (gR u 21 0) N f = f 22 := by rw [rc_21_0 h, cs_s]
theorem cC_21_1 {α : Type} {u : Mm} (h : RC u) (N : Option α) (f : Nat → Option α) : cs (gR u 21 1) N f = f 23 := by rw [rc_21_1 h, cs_s]
theorem cC_21_2 {α : Type} {u : Mm} (h : RC u) (N : Option α) (f : Nat → Option α) : cs (gR u 21 2) N f = f 24 := by rw [rc_21_2 h, cs_s]
theorem cC_25_0 {α : Type} {u : Mm} (h : RC u) (N : Option α) (f : Nat → Option α) : cs (gR u 25 0) N f = f 26 := by rw [rc_25_0 h, cs_s]
theorem cC_27_0 {α : Type} {u : Mm} (h : RC u) (N : Option α) (f : Nat → Option α) : cs (gR u 27 0) N f = f 28 := by rw [rc_27_0 h, cs_s]
theorem cC_29_0 {α : Type} {u : Mm} (h : RC u) (N : Option α) (f : Nat → Option α) : cs (gR u 29 0) N f = f 30 := by rw [rc_29_0 h, cs_s]
theorem cC_31_0 {α : Type} {u : Mm} (h : RC u) (N : Option α) (f : Nat → Option α) : cs (gR u 31 0) N f = f 32 := by rw [rc_31_0 h, cs_s]
theorem cM_4 {α : Type} {u : Mm} (h : RM u) (N : Option α) (f : Nat → Option α) : cs (gR u 33 4) N f = f 34 := by rw [rm_4 h, cs_s]
theorem cM_5 {α : Type} {u : Mm} (h : RM u) (N : Option α) (f : Nat → Option α) : cs (gR u 33 5) N f = f 35 := by rw [rm_5 h, cs_s]
theorem cM_6 {α : Type} {u : Mm} (h : RM u) (N : Option α) (f : Nat → Option α) : cs (gR u 33 6) N f = f 36 := by rw [rm_6 h, cs_s]
theorem cM_8 {α : Type} {u : Mm} (h : RM u) (N : Option α) (f : Nat → Option α) : cs (gR u 33 8) N f = f 37 := by rw [rm_8 h, cs_s]
theorem cM_9 {α : Type} {u : Mm} (h : RM u) (N : Option α) (f : Nat → Option α) : cs (gR u 33 9) N f = f 38 := by rw [rm_9 h, cs_s]
theorem cM_10 {α : Type} {u : Mm} (h : RM u) (N : Option α) (f : Nat → Option α) : cs (gR u 33 10) N f = f 39 := by rw [rm_10 h, cs_s]
theorem cM_11 {α : Type} {u : Mm} (h : RM u) (N : Option α) (f : Nat → Option α) : cs (gR u 33 11) N f = f 40 := by rw [rm_11 h, cs_s]
theorem cM_12 {α : Type} {u : Mm} (h : RM u) (N : Option α) (f : Nat → Option α) : cs (gR u 33 12) N f = f 41 := by rw [rm_12 h, cs_s]
theorem cM_13 {α : Type} {u : Mm} (h : RM u) (N : Option α) (f : Nat → Option α) : cs (gR u 33 13) N f = f 42 := by rw [rm_13 h, cs_s]
theorem cM_14 {α : Type} {u : Mm} (h : RM u) (N : Option α) (f : Nat → Option α) : cs (gR u 33 14) N f = f 43 := by rw [rm_14 h, cs_s]
theorem cM_15 {α : Type} {u : Mm} (h : RM u) (N : Option α) (f : Nat → Option α) : cs (gR u 33 15) N f = f 44 := by rw [rm_15 h, cs_s]
theorem cM_16 {α : Type} {u : Mm} (h : RM u) (N : Option α) (f : Nat → Option α) : cs (gR u 33 16) N f = f 45 := by rw [rm_16 h, cs_s]
theorem cM_17 {α : Type} {u : Mm} (h : RM u) (N : Option α) (f : Nat → Option α) : cs (gR u 33 17) N f = f 46 := by rw [rm_17 h, cs_s]
theorem cM_18 {α : Type} {u : Mm} (h : RM u) (N : Option α) (f : Nat → Option α) : cs (gR u 33 18) N f = f 47 := by rw [rm_18 h, cs_s]
theorem cM_19 {α : Type} {u : Mm} (h : RM u) (N : Option α) (f : Nat → Option α) : cs (gR u 33 19) N f = f 48 := by rw [rm_19 h, cs_s]
theorem cM_20 {α : Type} {u : Mm} (h : RM u) (N : Option α) (f : Nat → Option α) : cs (gR u 33 20) N f = f 49 := by rw [rm_20 h, cs_s]
theorem cM_21 {α : Type} {u : Mm} (h : RM u) (N : Option α) (f : Nat → Option α) : cs (gR u 33 21) N f = f 50 := by rw [rm_21 h, cs_s]
theorem cM_23 {α : Type} {u : Mm} (h : RM u) (N : Option α) (f : Nat → Option α) : cs (gR u 33 23) N f = f 51 := by rw [rm_23 h, cs_s]
theorem cM_24 {α : Type} {u : Mm} (h : RM u) (N : Option α) (f : Nat → Option α) : cs (gR u 33 24) N f = f 52 := by rw [rm_24 h, cs_s]
theorem cM_25 {α : Type} {u : Mm} (h : RM u) (N : Option α) (f : Nat → Option α) : cs (gR u 33 25) N f = f 53 := by rw [rm_25 h, cs_s]
theorem cM_26 {α : Type} {u : Mm} (h : RM u) (N : Option α) (f : Nat → Option α) : cs (gR u 33 26) N f = f 54 := by rw [rm_26 h, cs_s]
theorem cM_27 {α : Type} {u : Mm} (h : RM u) (N : Option α) (f : Nat → Option α) : cs (gR u 33 27) N f = f 55 := by rw [rm_27 h, cs_s]
theorem cM_28 {α : Type} {u : Mm} (h : RM u) (N : Option α) (f : Nat → Option α) : cs (gR u 33 28) N f = f 56 := by rw [rm_28 h, cs_s]
theorem cM_29 {α : Type} {u : Mm} (h : RM u) (N : Option α) (f : Nat → Option α) : cs (gR u 33 29) N f = f 57 := by rw [rm_29 h, cs_s]
theorem cM_30 {α : Type} {u : Mm} (h : RM u) (N : Option α) (f : Nat → Option α) : cs (gR u 33 30) N f = f 58 := by rw [rm_30 h, cs_s]
theorem cM_32 {α : Type} {u : Mm} (h : RM u) (N : Option α) (f : Nat → Option α) : cs (gR u 33 32) N f = f 59 := by rw [rm_32 h, cs_s]
theorem gO0 {α : Type} {u : Mm} (h : 60 ≤ u.1) (X : Option α) : gd (okO u 0 7) X = X := by rw [oO0 h, gd_t]
theorem gO1 {α : Type} {u : Mm} (h : 60 ≤ u.1) (X : Option α) : gd (okO u 1 13) X = X := by rw [oO1 h, gd_t]
theorem gA1 {α : Type} {u : Mm} (h : 60 ≤ u.1) {i : Nat} (hi : i < 4) (X : Option α) : gd (okA u 1 13 (nI i)) X = X := by rw [oA1 h hi, gd_t]
theorem gO2 {α : Type} {u : Mm} (h : 60 ≤ u.1) (X : Option α) : gd (okO u 2 0) X = X := by rw [oO2 h, gd_t]
theorem gO3 {α : Type} {u : Mm} (h : 60 ≤ u.1) (X : Option α) : gd (okO u 3 12) X = X := by rw [oO3 h, gd_t]
theorem gA3 {α : Type} {u : Mm} (h : 60 ≤ u.1) {i : Nat} (hi : i < 80) (X : Option α) : gd (okA u 3 12 (nI i)) X = X := by rw [oA3 h hi, gd_t]
theorem gO4 {α : Type} {u : Mm} (h : 60 ≤ u.1) (X : Option α) : gd (okO u 4 12) X = X := by rw [oO4 h, gd_t]
theorem gA4 {α : Type} {u : Mm} (h : 60 ≤ u.1) {i : Nat} (hi : i < 80) (X : Option α) : gd (okA u 4 12 (nI i)) X = X := by rw [oA4 h hi, gd_t]
theorem gO5 {α : Type} {u : Mm} (h : 60 ≤ u.1) (X : Option α) : gd (okO u 5 11) X = X := by rw [oO5 h, gd_t]
theorem gA5 {α : Type} {u : Mm} (h : 60 ≤ u.1) {i : Nat} (hi : i < 80) (X : Option α) : gd (okA u 5 11 (nI i)) X = X := by rw [oA5 h hi, gd_t]
theorem gO6 {α : Type} {u : Mm} (h : 60 ≤ u.1) (X : Option α) : gd (okO u 6 2) X = X := by rw [oO6 h, gd_t]
theorem gO7 {α : Type} {u : Mm} (h : 60 ≤ u.1) (X : Option α) : gd (okO u 7 9) X = X := by rw [oO7 h, gd_t]
theorem gA7 {α : Type} {u : Mm} (h : 60 ≤ u.1) {i : Nat} (hi : i < 200) (X : Option α) : gd (okA u 7 9 (nI i)) X = X := by rw [oA7 h hi, gd_t]
theorem gO8 {α : Type} {u : Mm} (h : 60 ≤ u.1) (X : Option α) : gd (okO u 8 9) X = X := by rw [oO8 h, gd_t]
theorem gA8 {α : Type} {u : Mm} (h : 60 ≤ u.1) {i : Nat} (hi : i < 200) (X : Option α) : gd (okA u 8 9 (nI i)) X = X := by rw [oA8 h hi, gd_t]
theorem gO9 {α : Type} {u : Mm} (h : 60 ≤ u.1) (X : Option α) : gd (okO u 9 9) X = X := by rw [oO9 h, gd_t]
theorem gA9 {α : Type} {u : Mm} (h : 60 ≤ u.1) {i : Nat} (hi : i < 200) (X : Option α) : gd (okA u 9 9 (nI i)) X = X := by rw [oA9 h hi, gd_t]
theorem gO10 {α : Type} {u : Mm} (h : 60 ≤ u.1) (X : Option α) : gd (okO u 10 4) X = X := by rw [oO10 h, gd_t]
theorem gO11 {α : Type} {u : Mm} (h : 60 ≤ u.1) (X : Option α) : gd (okO u 11 1) X = X := by rw [oO11 h, gd_t]
theorem gO12 {α : Type} {u : Mm} (h : 60 ≤ u.1) (X : Option α) : gd (okO u 12 9) X = X := by rw [oO12 h, gd_t]
theorem gA12 {α : Type} {u : Mm} (h : 60 ≤ u.1) {i : Nat} (hi : i < 80) (X : Option α) : gd (okA u 12 9 (nI i)) X = X := by rw [oA12 h hi, gd_t]
theorem gO13 {α : Type} {u : Mm} (h : 60 ≤ u.1) (X : Option α) : gd (okO u 13 9) X = X := by rw [oO13 h, gd_t]
theorem gA13 {α : Type} {u : Mm} (h : 60 ≤ u.1) {i : Nat} (hi : i < 40) (X : Option α) : gd (okA u 13 9 (nI i)) X = X := by rw [oA13 h hi, gd_t]
theorem gO14 {α : Type} {u : Mm} (h : 60 ≤ u.1) (X : Option α) : gd (okO u 14 1) X = X := by rw [oO14 h, gd_t]
theorem gO15 {α : Type} {u : Mm} (h : 60 ≤ u.1) (X : Option α) : gd (okO u 15 9) X = X := by rw [oO15 h, gd_t]
theorem gA15 {α : Type} {u : Mm} (h : 60 ≤ u.1) {i : Nat} (hi : i < 80) (X : Option α) : gd (okA u 15 9 (nI i)) X = X := by rw [oA15 h hi, gd_t]
theorem gO16 {α : Type} {u : Mm} (h : 60 ≤ u.1) (X : Option α) : gd (okO u 16 9) X = X := by rw [oO16 h, gd_t]
theorem gA16 {α : Type} {u : Mm} (h : 60 ≤ u.1) {i : Nat} (hi : i < 40) (X : Option α) : gd (okA u 16 9 (nI i)) X = X := by rw [oA16 h hi, gd_t]
theorem gO17 {α : Type} {u : Mm} (h : 60 ≤ u.1) (X : Option α) : gd (okO u 17 9) X = X := by rw [oO17 h, gd_t]
theorem gA17 {α : Type} {u : Mm} (h : 60 ≤ u.1) {i : Nat} (hi : i < 80) (X : Option α) : gd (okA u 17 9 (nI i)) X = X := by rw [oA17 h hi, gd_t]
theorem gO18 {α : Type} {u : Mm} (h : 60 ≤ u.1) (X : Option α) : gd (okO u 18 9) X = X := by rw [oO18 h, gd_t]
theorem gA18 {α : Type} {u : Mm} (h : 60 ≤ u.1) {i : Nat} (hi : i < 80) (X : Option α) : gd (okA u 18 9 (nI i)) X = X := by rw [oA18 h hi, gd_t]
theorem gO19 {α : Type} {u : Mm} (h : 60 ≤ u.1) (X : Option α) : gd (okO u 19 9) X = X := by rw [oO19 h, gd_t]
theorem gA19 {α : Type} {u : Mm} (h : 60 ≤ u.1) {i : Nat} (hi : i < 80) (X : Option α) : gd (okA u 19 9 (nI i)) X = X := by rw [oA19 h hi, gd_t]
theorem gO20 {α : Type} {u : Mm} (h : 60 ≤ u.1) (X : Option α) : gd (okO u 20 9) X = X := by rw [oO20 h, gd_t]
theorem gA20 {α : Type} {u : Mm} (h : 60 ≤ u.1) {i : Nat} (hi : i < 80) (X : Option α) : gd (okA u 20 9 (nI i)) X = X := by rw [oA20 h hi, gd_t]
theorem gO21 {α : Type} {u : Mm} (h : 60 ≤ u.1) (X : Option α) : gd (okO u 21 3) X = X := by rw [oO21 h, gd_t]
theorem gO22 {α : Type} {u : Mm} (h : 60 ≤ u.1) (X : Option α) : gd (okO u 22 9) X = X := by rw [oO22 h, gd_t]
theorem gA22 {α : Type} {u : Mm} (h : 60 ≤ u.1) {i : Nat} (hi : i < 20) (X : Option α) : gd (okA u 22 9 (nI i)) X = X := by rw [oA22 h hi, gd_t]
theorem gO23 {α : Type} {u : Mm} (h : 60 ≤ u.1) (X : Option α) : gd (okO u 23 10) X = X := by rw [oO23 h, gd_t]
theorem gA23 {α : Type} {u : Mm} (h : 60 ≤ u.1) {i : Nat} (hi : i < 20) (X : Option α) : gd (okA u 23 10 (nI i)) X = X := by rw [oA23 h hi, gd_t]
theorem gO24 {α : Type} {u : Mm} (h : 60 ≤ u.1) (X : Option α) : gd (okO u 24 10) X = X := by rw [oO24 h, gd_t]
theorem gA24 {α : Type} {u : Mm} (h : 60 ≤ u.1) {i : Nat} (hi : i < 20) (X : Option α) : gd (okA u 24 10 (nI i)) X = X := by rw [oA24 h hi, gd_t]
theorem gO25 {α : Type} {u : Mm} (h : 60 ≤ u.1) (X : Option α) : gd (okO u 25 6) X = X := by rw [oO25 h, gd_t]
theorem gO26 {α : Type} {u : Mm} (h : 60 ≤ u.1) (X : Option α) : gd (okO u 26 10) X = X := by rw [oO26 h, gd_t]
theorem gA26 {α : Type} {u : Mm} (h : 60 ≤ u.1) {i : Nat} (hi : i < 40) (X : Option α) : gd (okA u 26 10 (nI i)) X = X := by rw [oA26 h hi, gd_t]
theorem gO27 {α : Type} {u : Mm} (h : 60 ≤ u.1) (X : Option α) : gd (okO u 27 6) X = X := by rw [oO27 h, gd_t]
theorem gO28 {α : Type} {u : Mm} (h : 60 ≤ u.1) (X : Option α) : gd (okO u 28 10) X = X := by rw [oO28 h, gd_t]
theorem gA28 {α : Type} {u : Mm} (h : 60 ≤ u.1) {i : Nat} (hi : i < 40) (X : Option α) : gd (okA u 28 10 (nI i)) X = X := by rw [oA28 h hi, gd_t]
theorem gO29 {α : Type} {u : Mm} (h : 60 ≤ u.1) (X : Option α) : gd (okO u 29 6) X = X := by rw [oO29 h, gd_t]
theorem gO30 {α : Type} {u : Mm} (h : 60 ≤ u.1) (X : Option α) : gd (okO u 30 10) X = X := by rw [oO30 h, gd_t]
theorem gA30 {α : Type} {u : Mm} (h : 60 ≤ u.1) {i : Nat} (hi : i < 40) (X : Option α) : gd (okA u 30 10 (nI i)) X = X := by rw [oA30 h hi, gd_t]
theorem gO31 {α : Type} {u : Mm} (h : 60 ≤ u.1) (X : Option α) : gd (okO u 31 6) X = X := by rw [oO31 h, gd_t]
theorem gO32 {α : Type} {u : Mm} (h : 60 ≤ u.1) (X : Option α) : gd (okO u 32 10) X = X := by rw [oO32 h, gd_t]
theorem gA32 {α : Type} {u : Mm} (h : 60 ≤ u.1) {i : Nat} (hi : i < 40) (X : Option α) : gd (okA u 32 10 (nI i)) X = X := by rw [oA32 h hi, gd_t]
theorem gO33 {α : Type} {u : Mm} (h : 60 ≤ u.1) (X : Option α) : gd (okO u 33 8) X = X := by rw [oO33 h, gd_t]
theorem gO34 {α : Type} {u : Mm} (h : 60 ≤ u.1) (X : Option α) : gd (okO u 34 9) X = X := by rw [oO34 h, gd_t]
theorem gA34 {α : Type} {u : Mm} (h : 60 ≤ u.1) {i : Nat} (hi : i < 4) (X : Option α) : gd (okA u 34 9 (nI i)) X = X := by rw [oA34 h hi, gd_t]
theorem gO35 {α : Type} {u : Mm} (h : 60 ≤ u.1) (X : Option α) : gd (okO u 35 9) X = X := by rw [oO35 h, gd_t]
theorem gA35 {α : Type} {u : Mm} (h : 60 ≤ u.1) {i : Nat} (hi : i < 4) (X : Option α) : gd (okA u 35 9 (nI i)) X = X := by rw [oA35 h hi, gd_t]
theorem gO36 {α : Type} {u : Mm} (h : 60 ≤ u.1) (X : Option α) : gd (okO u 36 10) X = X := by rw [oO36 h, gd_t]
theorem gA36 {α : Type} {u : Mm} (h : 60 ≤ u.1) {i : Nat} (hi : i < 160) (X : Option α) : gd (okA u 36 10 (nI i)) X = X := by rw [oA36 h hi, gd_t]
theorem gO37 {α : Type} {u : Mm} (h : 60 ≤ u.1) (X : Option α) : gd (okO u 37 9) X = X := by rw [oO37 h, gd_t]
theorem gA37 {α : Type} {u : Mm} (h : 60 ≤ u.1) {i : Nat} (hi : i < 80) (X : Option α) : gd (okA u 37 9 (nI i)) X = X := by rw [oA37 h hi, gd_t]
theorem gO38 {α : Type} {u : Mm} (h : 60 ≤ u.1) (X : Option α) : gd (okO u 38 9) X = X := by rw [oO38 h, gd_t]
theorem gA38 {α : Type} {u : Mm} (h : 60 ≤ u.1) {i : Nat} (hi : i < 80) (X : Option α) : gd (okA u 38 9 (nI i)) X = X := by rw [oA38 h hi, gd_t]
theorem gO39 {α : Type} {u : Mm} (h : 60 ≤ u.1) (X : Option α) : gd (okO u 39 9) X = X := by rw [oO39 h, gd_t]
theorem gA39 {α : Type} {u : Mm} (h : 60 ≤ u.1) {i : Nat} (hi : i < 80) (X : Option α) : gd (okA u 39 9 (nI i)) X = X := by rw [oA39 h hi, gd_t]
theorem gO40 {α : Type} {u : Mm} (h : 60 ≤ u.1) (X : Option α) : gd (okO u 40 9) X = X := by rw [oO40 h, gd_t]
theorem gA40 {α : Type} {u : Mm} (h : 60 ≤ u.1) {i : Nat} (hi : i < 80) (X : Option α) : gd (okA u 40 9 (nI i)) X = X := by rw [oA40 h hi, gd_t]
theorem gO41 {α : Type} {u : Mm} (h : 60 ≤ u.1) (X : Option α) : gd (okO u 41 9) X = X := by rw [oO41 h, gd_t]
theorem gA41 {α : Type} {u : Mm} (h : 60 ≤ u.1) {i : Nat} (hi : i < 480) (X : Option α) : gd (okA u 41 9 (nI i)) X = X := by rw [oA41 h hi, gd_t]
theorem gO42 {α : Type} {u : Mm} (h : 60 ≤ u.1) (X : Option α) : gd (okO u 42 9) X = X := by rw [oO42 h, gd_t]
theorem gA42 {α : Type} {u : Mm} (h : 60 ≤ u.1) {i : Nat} (hi : i < 80) (X : Option α) : gd (okA u 42 9 (nI i)) X = X := by rw [oA42 h hi, gd_t]
theorem gO43 {α : Type} {u : Mm} (h : 60 ≤ u.1) (X : Option α) : gd (okO u 43 9) X = X := by rw [oO43 h, gd_t]
theorem gA43 {α : Type} {u : Mm} (h : 60 ≤ u.1) {i : Nat} (hi : i < 80) (X : Option α) : gd (okA u 43 9 (nI i)) X = X := by rw [oA43 h hi, gd_t]
theorem gO44 {α : Type} {u : Mm} (h : 60 ≤ u.1) (X : Option α) : gd (okO u 44 9) X = X := by rw [oO44 h, gd_t]
theorem gA44 {α : Type} {u : Mm} (h : 60 ≤ u.1) {i : Nat} (hi : i < 80) (X : Option α) : gd (okA u 44 9 (nI i)) X = X := by rw [oA44 h hi, gd_t]
theorem gO45 {α : Type} {u : Mm} (h : 60 ≤ u.1) (X : Option α) : gd (okO u 45 9) X = X := by rw [oO45 h, gd_t]
theorem gA45 {α : Type} {u : Mm} (h : 60 ≤ u.1) {i : Nat} (hi : i < 80) (X : Option α) : gd (okA u 45 9 (nI i)) X = X := by rw [oA45 h hi, gd_t]
theorem gO46 {α : Type} {u : Mm} (h : 60 ≤ u.1) (X : Option α) : gd (okO u 46 9) X = X := by rw [oO46 h, gd_t]
theorem gA46 {α : Type} {u : Mm} (h : 60 ≤ u.1) {i : Nat} (hi : i < 80) (X : Option α) : gd (okA u 46 9 (nI i)) X = X := by rw [oA46 h hi, gd_t]
theorem gO47 {α : Type} {u : Mm} (h : 60 ≤ u.1) (X : Option α) : gd (okO u 47 9) X = X := by rw [oO47 h, gd_t]
theorem gA47 {α : Type} {u : Mm} (h : 60 ≤ u.1) {i : Nat} (hi : i < 80) (X : Option α) : gd (okA u 47 9 (nI i)) X = X := by rw [oA47 h hi, gd_t]
theorem gO48 {α : Type} {u : Mm} (h : 60 ≤ u.1) (X : Option α) : gd (okO u 48 9) X = X := by rw [oO48 h, gd_t]
theorem gA48 {α : Type} {u : Mm} (h : 60 ≤ u.1) {i : Nat} (hi : i < 80) (X : Option α) : gd (okA u 48 9 (nI i)) X = X := by rw [oA48 h hi, gd_t]
theorem gO49 {α : Type} {u : Mm} (h : 60 ≤ u.1) (X : Option α) : gd (okO u 49 9) X = X := by rw [oO49 h, gd_t]
theorem gA49 {α : Type} {u : Mm} (h : 60 ≤ u.1) {i : Nat} (hi : i < 80) (X : Option α) : gd (okA u 49 9 (nI i)) X = X := by rw [oA49 h hi, gd_t]
theorem gO50 {α : Type} {u : Mm} (h : 60 ≤ u.1) (X : Option α) : gd (okO u 50 9) X = X := by rw [oO50 h, gd_t]
theorem gA50 {α : Type} {u : Mm} (h : 60 ≤ u.1) {i : Nat} (hi : i < 80) (X : Option α) : gd (okA u 50 9 (nI i)) X = X := by rw [oA50 h hi, gd_t]
theorem gO51 {α : Type} {u : Mm} (h : 60 ≤ u.1) (X : Option α) : gd (okO u 51 9) X = X := by rw [oO51 h, gd_t]
theorem gA51 {α : Type} {u : Mm} (h : 60 ≤ u.1) {i : Nat} (hi : i < 200) (X : Option α) : gd (okA u 51 9 (nI i)) X = X := by rw [oA51 h hi, gd_t]
theorem gO52 {α : Type} {u : Mm} (h : 60 ≤ u.1) (X : Option α) : gd (okO u 52 9) X = X := by rw [oO52 h, gd_t]
theorem gA52 {α : Type} {u : Mm} (h : 60 ≤ u.1) {i : Nat} (hi : i < 200) (X : Option α) : gd (okA u 52 9 (nI i)) X = X := by rw [oA52 h hi, gd_t]
theorem gO53 {α : Type} {u : Mm} (h : 60 ≤ u.1) (X : Option α) : gd (okO u 53 9) X = X := by rw [oO53 h, gd_t]
theorem gA53 {α : Type} {u : Mm} (h : 60 ≤ u.1) {i : Nat} (hi : i < 200) (X : Option α) : gd (okA u 53 9 (nI i)) X = X := by rw [oA53 h hi, gd_t]
theorem gO54 {α : Type} {u : Mm} (h : 60 ≤ u.1) (X : Option α) : gd (okO u 54 9) X = X := by rw [oO54 h, gd_t]
theorem gA54 {α : Type} {u : Mm} (h : 60 ≤ u.1) {i : Nat} (hi : i < 40) (X : Option α) : gd (okA u 54 9 (nI i)) X = X := by rw [oA54 h hi, gd_t]
theorem gO55 {α : Type} {u : Mm} (h : 60 ≤ u.1) (X : Option α) : gd (okO u 55 9) X = X := by rw [oO55 h, gd_t]
theorem gA55 {α : Type} {u : Mm} (h : 60 ≤ u.1) {i : Nat} (hi : i < 80) (X : Option α) : gd (okA u 55 9 (nI i)) X = X := by rw [oA55 h hi, gd_t]
theorem gO56 {α : Type} {u : Mm} (h : 60 ≤ u.1) (X : Option α) : gd (okO u 56 9) X = X := by rw [oO56 h, gd_t]
theorem gA56 {α : Type} {u : Mm} (h : 60 ≤ u.1) {i : Nat} (hi : i < 400) (X : Option α) : gd (okA u 56 9 (nI i)) X = X := by rw [oA56 h hi, gd_t]
theorem gO57 {α : Type} {u : Mm} (h : 60 ≤ u.1) (X : Option α) : gd (okO u 57 9) X = X := by rw [oO57 h, gd_t]
theorem gA57 {α : Type} {u : Mm} (h : 60 ≤ u.1) {i : Nat} (hi : i < 400) (X : Option α) : gd (okA u 57 9 (nI i)) X = X := by rw [oA57 h hi, gd_t]
theorem gO58 {α : Type} {u : Mm} (h : 60 ≤ u.1) (X : Option α) : gd (okO u 58 9) X = X := by rw [oO58 h, gd_t]
theorem gA58 {α : Type} {u : Mm} (h : 60 ≤ u.1) {i : Nat} (hi : i < 400) (X : Option α) : gd (okA u 58 9 (nI i)) X = X := by rw [oA58 h hi, gd_t]
theorem gO59 {α : Type} {u : Mm} (h : 60 ≤ u.1) (X : Option α) : gd (okO u 59 9) X = X := by rw [oO59 h, gd_t]
theorem gA59 {α : Type} {u : Mm} (h : 60 ≤ u.1) {i : Nat} (hi : i < 20) (X : Option α) : gd (okA u 59 9 (nI i)) X = X := by rw [oA59 h hi, gd_t]
theorem bd_of {α β : Type} {e : Option β} {v : β} (h : e = some v) (K : β → Option α) : bd e K = K v := by rw [h, bd_s]
theorem gd_of {α : Type} {b : Bool} (h : b = true) (X : Option α) : gd b X = X := by rw [h, gd_t]
theorem cs_of {α : Type} {x : Option Nat} {k : Nat} (h : x = some k) (N : Option α) (f : Nat → Option α) : cs x N f = f k := by rw [h, cs_s]
theorem gB0 {α : Type} (X : Option α) : gd (isB (0 : Int32)) X = X := by rw [isB_0, gd_t]
theorem gB1 {α : Type} (X : Option α) : gd (isB (1 : Int32)) X = X := by rw [isB_1, gd_t]
theorem gOT {α : Type} {u : Mm} {i : Nat} (h : 60 + 2 * i < u.1) (X : Option α) : gd (okO u (60 + 2 * i) 5) X = X := by rw [oT h, gd_t]
theorem gAS {α : Type} {u : Mm} {i f : Nat} (h : 61 + 2 * i < u.1) (hf : f < 6) (X : Option α) : gd (okA u (61 + 2 * i) 9 (nI f)) X = X := by rw [oS h hf, gd_t]
theorem gOY {α : Type} {u : Mm} {t : Nat} (h : 60 ≤ u.1) (ht : t < 4) (X : Option α) : gd (okO u (25 + 2 * t) 6) X = X := by rw [oY h ht, gd_t]
theorem gAY {α : Type} {u : Mm} {t j : Nat} (h : 60 ≤ u.1) (ht : t < 4) (hj : j < 40) (X : Option α) : gd (okA u (26 + 2 * t) 10 (nI j)) X = X := by rw [oYn h ht hj, gd_t]
theorem d10 : ((1 : Int32) = 0) = False := by decide
theorem i0eq (x : Int32) : (x = x) = True := by simp
theorem no8 {w : Mm} (h : 60 ≤ w.1) (c : Int32) : f_X8_no 33 c w = some (0, sI w 33 0 c) := by rw [f_X8_no, oO33 h, gd_t]
theorem rf8 {w : Mm} (h : 60 ≤ w.1) (c : Int32) : f_X8_refuse 33 c w = some (-1, sI w 33 0 c) := by rw [f_X8_refuse, oO33 h, gd_t]
theorem dn7 {w : Mm} (h : 60 ≤ w.1) (c : Int32) : f_X7_deny 0 c w = some (0, sI w 0 5 c) := by rw [f_X7_deny, oO0 h, gd_t]
theorem rf7 {w : Mm} (h : 60 ≤ w.1) (c : Int32) : f_X7_refuse 0 c w = some (-1, sI w 0 5 c) := by rw [f_X7_refuse, oO0 h, gd_t]
theorem gr7 {w : Mm} (h : 60 ≤ w.1) : f_X7_grant 0 w = some (1, sI w 0 5 0) := by rw [f_X7_grant, oO0 h, gd_t]
theorem an7 {w : Mm} (h : 60 ≤ w.1) (c : Int32) : f_X7_answer 0 c w = some (c, sI w 0 5 0) := by rw [f_X7_answer, oO0 h, gd_t]
theorem bno8 {α : Type} {w : Mm} (h : 60 ≤ w.1) (c : Int32) (K : Int32 × Mm → Option α) : bd (f_X8_no 33 c w) K = K (0, sI w 33 0 c) := by rw [no8 h, bd_s]
theorem brf8 {α : Type} {w : Mm} (h : 60 ≤ w.1) (c : Int32) (K : Int32 × Mm → Option α) : bd (f_X8_refuse 33 c w) K = K (-1, sI w 33 0 c) := by rw [rf8 h, bd_s]
theorem bdn7 {α : Type} {w : Mm} (h : 60 ≤ w.1) (c : Int32) (K : Int32 × Mm → Option α) : bd (f_X7_deny 0 c w) K = K (0, sI w 0 5 c) := by rw [dn7 h, bd_s]
theorem brf7 {α : Type} {w : Mm} (h : 60 ≤ w.1) (c : Int32) (K : Int32 × Mm → Option α) : bd (f_X7_refuse 0 c w) K = K (-1, sI w 0 5 c) := by rw [rf7 h, bd_s]
theorem bgr7 {α : Type} {w : Mm} (h : 60 ≤ w.1) (K : Int32 × Mm → Option α) : bd (f_X7_grant 0 w) K = K (1, sI w 0 5 0) := by rw [gr7 h, bd_s]
theorem ban7 {α : Type} {w : Mm} (h : 60 ≤ w.1) (c : Int32) (K : Int32 × Mm → Option α) : bd (f_X7_answer 0 c w) K = K (c, sI w 0 5 0) := by rw [an7 h, bd_s]
theorem gI_nw (u : Mm) (a j : Nat) : gI (nw u) a j = if a = u.1 then 0 else gI u a j := rfl
theorem gL_nw (u : Mm) (a j : Nat) : gL (nw u) a j = if a = u.1 then 0 else gL u a j := rfl
theorem gR_nw (u : Mm) (a j : Nat) : gR (nw u) a j = if a = u.1 then none else gR u a j := rfl
theorem n_nw (u : Mm) : (nw u).1 = u.1 + 1 := rfl
theorem n_rngI (u : Mm) (r a n : Nat) (v : Int32) : (rngI u r a n v).1 = u.1 := rfl
theorem n_rngL (u : Mm) (r a n : Nat) (v : Int64) : (rngL u r a n v).1 = u.1 := rfl
theorem okN_t {u : Mm} {c : Nat} (h : shp u.1 = c) : okN u c = true := by simp [okN, h]
theorem okM_t {u : Mm} {c n : Nat} (h : shp u.1 = c) (h2 : aln u.1 = n) : okM u c n = true := by simp [okM, h, h2]
theorem gI_n {u : Mm} {r k a j : Nat} {v : Int32} (h : ¬ (a = r ∧ j = k)) : gI (sI u r k v) a j = gI u a j := by rw [gI_sI, if_neg h]
theorem gI_e {u : Mm} {r k : Nat} {v : Int32} : gI (sI u r k v) r k = v := by rw [gI_sI, if_pos ⟨rfl, rfl⟩]
theorem gL_n {u : Mm} {r k a j : Nat} {v : Int64} (h : ¬ (a = r ∧ j = k)) : gL (sL u r k v) a j = gL u a j := by rw [gL_sL, if_neg h]
theorem gL_e {u : Mm} {r k : Nat} {v : Int64} : gL (sL u r k v) r k = v := by rw [gL_sL, if_pos ⟨rfl, rfl⟩]
theorem gR_n {u : Mm} {r k a j : Nat} {v : Option Nat} (h : ¬ (a = r ∧ j = k)) : gR (sR u r k v) a j = gR u a j := by rw [gR_sR, if_neg h]
theorem gR_e {u : Mm} {r k : Nat} {v : Option Nat} : gR (sR u r k v) r k = v := by rw [gR_sR, if_pos ⟨rfl, rfl⟩]
theorem gI_rn {u : Mm} {r a n b j : Nat} {v : Int32} (h : ¬ (b = r ∧ a ≤ j ∧ j < a + n)) : gI (rngI u r a n v) b j = gI u b j := by rw [gI_rngI, if_neg h]
theorem gI_re {u : Mm} {r a n j : Nat} {v : Int32} (h : a ≤ j ∧ j < a + n) : gI (rngI u r a n v) r j = v := by rw [gI_rngI, if_pos ⟨rfl, h⟩]
theorem gI_nn {u : Mm} {a j : Nat} (h : a ≠ u.1) : gI (nw u) a j = gI u a j := by rw [gI_nw, if_neg h]
theorem gL_nn {u : Mm} {a j : Nat} (h : a ≠ u.1) : gL (nw u) a j = gL u a j := by rw [gL_nw, if_neg h]
theorem gR_nn {u : Mm} {a j : Nat} (h : a ≠ u.1) : gR (nw u) a j = gR u a j := by rw [gR_nw, if_neg h]
-- a quick test: MAY BE IN
theorem may_t (p q : Int32) (u : Mm) : f_X7_mayBeIn p q u = some (b2i (decide (q = p - 1) || (decide (p = 3) && decide (q = 1)))) := by
  unfold f_X7_mayBeIn
  by_cases h1 : q = p - 1
  · simp [h1, b2i]
  · by_cases h2 : p = 3
    · subst h2
      have h1 : ¬ q = 2 := h1
      by_cases h3 : q = 1 <;> simp [h1, h3, b2i]
    · simp [h1, h2, b2i]
/-- the model's loop over the six fields -/
theorem thl {v : Mm} (h60 : 60 ≤ v.1) (hRM : RM v) {n : Nat} (hn : n < 80) {p1 p2 : Int32} {k : Int32 → Mm → Option (Int32 × Mm)} : L_X8_thing_141 33 p1 p2 (nI n) k 1000 0 v = k 6 (rngI v 41 (6 * n) 6 (-1)) := by
  have key : ∀ (d m j : Nat), j + d = 6 → d < m → L_X8_thing_141 33 p1 p2 (nI n) k m (nI j) (rngI v 41 (6 * n) j (-1)) = k 6 (rngI v 41 (6 * n) 6 (-1)) := by
    intro d
    induction d with
    | zero =>
      intro m j h1 h2
      obtain ⟨m, rfl⟩ : ∃ a, m = a + 1 := ⟨m - 1, by omega⟩
      have e : j = 6 := by omega
      subst e
      rw [L_X8_thing_141, if_pos (by decide)]
      rfl
    | succ d ih =>
      intro m j h1 h2
      obtain ⟨m, rfl⟩ : ∃ a, m = a + 1 := ⟨m - 1, by omega⟩
      rw [L_X8_thing_141, if_neg (by rw [show (6 : Int32) = nI 6 from rfl]; exact nI_ge (by omega) (by omega))]
      simp (disch := first | exact h60 | omega | with_unfolding_all exact h60) only [↓bb_e, ↓c_sI, ↓o_sI, ↓a_sI, ↓c_sL, ↓o_sL, ↓a_sL, ↓c_rI, ↓o_rI, ↓a_rI, ↓c_rL, ↓o_rL, ↓a_rL, ↓c_rngI, ↓o_rngI, ↓a_rngI, ↓c_rngL, ↓o_rngL, ↓a_rngL, ↓bd_s, ↓cs_s, ↓cs_n, ↓gd_t, ↓gB0, ↓gB1, ↓gOT, ↓gAS, ↓gOY, ↓gAY, ↓reduceIte, d10, nI_clamp, nI_1', i0eq, ↓gO33 h60, ↓gA34 h60, ↓gA35 h60, ↓gA36 h60, ↓gA37 h60, ↓gA38 h60, ↓gA39 h60, ↓gA40 h60, ↓gA41 h60, ↓gA42 h60, ↓gA43 h60, ↓gA44 h60, ↓gA45 h60, ↓gA46 h60, ↓gA47 h60, ↓gA48 h60, ↓gA49 h60, ↓gA50 h60, ↓gA51 h60, ↓gA52 h60, ↓gA53 h60, ↓gA54 h60, ↓gA55 h60, ↓gA56 h60, ↓gA57 h60, ↓gA58 h60, ↓gA59 h60, ↓cM_4 hRM, ↓cM_5 hRM, ↓cM_6 hRM, ↓cM_8 hRM, ↓cM_9 hRM, ↓cM_10 hRM, ↓cM_11 hRM, ↓cM_12 hRM, ↓cM_13 hRM, ↓cM_14 hRM, ↓cM_15 hRM, ↓cM_16 hRM, ↓cM_17 hRM, ↓cM_18 hRM, ↓cM_19 hRM, ↓cM_20 hRM, ↓cM_21 hRM, ↓cM_23 hRM, ↓cM_24 hRM, ↓cM_25 hRM, ↓cM_26 hRM, ↓cM_27 hRM, ↓cM_28 hRM, ↓cM_29 hRM, ↓cM_30 hRM, ↓cM_32 hRM, ↓bno8, ↓brf8, ix6, rngI_s]
      exact ih m (j + 1) (by omega) (by omega)
  have := key 6 1000 0 (by omega) (by omega)
  rw [rngI_0, nI_0] at this
  exact this
