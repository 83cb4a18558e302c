/-! THE ABSTRACT STATE: how many things, how many entries, tables of ints and longs (numbered as the reference's cells are) -/
abbrev Ab : Type := Nat × Nat × (Nat → Nat → Int32) × (Nat → Nat → Int64)
def an (A : Ab) : Nat := A.1
def ae (A : Ab) : Nat := A.2.1
def aI (A : Ab) (r k : Nat) : Int32 := A.2.2.1 r k
def aL (A : Ab) (r k : Nat) : Int64 := A.2.2.2 r k
def tI (A : Ab) (r k : Nat) (v : Int32) : Ab := (A.1, A.2.1, up2 A.2.2.1 r k v, A.2.2.2)
def tL (A : Ab) (r k : Nat) (v : Int64) : Ab := (A.1, A.2.1, A.2.2.1, up2 A.2.2.2 r k v)
def qI (A : Ab) (r : Nat) (g : Nat → Int32) : Ab := (A.1, A.2.1, upr A.2.2.1 r g, A.2.2.2)
def qL (A : Ab) (r : Nat) (g : Nat → Int64) : Ab := (A.1, A.2.1, A.2.2.1, upr A.2.2.2 r g)
def tN (A : Ab) (n : Nat) : Ab := (n, A.2.1, A.2.2.1, A.2.2.2)
def tE (A : Ab) (e : Nat) : Ab := (A.1, e, A.2.2.1, A.2.2.2)
theorem aI_tI (A : Ab) (r k : Nat) (v : Int32) (a j : Nat) : aI (tI A r k v) a j = if a = r ∧ j = k then v else aI A a j := rfl
theorem aI_tL (A : Ab) (r k : Nat) (v : Int64) (a j : Nat) : aI (tL A r k v) a j = aI A a j := rfl
theorem aI_qI (A : Ab) (r : Nat) (g : Nat → Int32) (a j : Nat) : aI (qI A r g) a j = if a = r then g j else aI A a j := rfl
theorem aI_qL (A : Ab) (r : Nat) (g : Nat → Int64) (a j : Nat) : aI (qL A r g) a j = aI A a j := rfl
theorem aI_tN (A : Ab) (n a j : Nat) : aI (tN A n) a j = aI A a j := rfl
theorem aI_tE (A : Ab) (n a j : Nat) : aI (tE A n) a j = aI A a j := rfl
theorem aL_tI (A : Ab) (r k : Nat) (v : Int32) (a j : Nat) : aL (tI A r k v) a j = aL A a j := rfl
theorem aL_tL (A : Ab) (r k : Nat) (v : Int64) (a j : Nat) : aL (tL A r k v) a j = if a = r ∧ j = k then v else aL A a j := rfl
theorem aL_qI (A : Ab) (r : Nat) (g : Nat → Int32) (a j : Nat) : aL (qI A r g) a j = aL A a j := rfl
theorem aL_qL (A : Ab) (r : Nat) (g : Nat → Int64) (a j : Nat) : aL (qL A r g) a j = if a = r then g j else aL A a j := rfl
theorem aL_tN (A : Ab) (n a j : Nat) : aL (tN A n) a j = aL A a j := rfl
theorem aL_tE (A : Ab) (n a j : Nat) : aL (tE A n) a j = aL A a j := rfl
theorem an_tI (A : Ab) (r k : Nat) (v : Int32) : an (tI A r k v) = an A := rfl
theorem an_tL (A : Ab) (r k : Nat) (v : Int64) : an (tL A r k v) = an A := rfl
theorem an_qI (A : Ab) (r : Nat) (g : Nat → Int32) : an (qI A r g) = an A := rfl
theorem an_qL (A : Ab) (r : Nat) (g : Nat → Int64) : an (qL A r g) = an A := rfl
theorem an_tN (A : Ab) (n : Nat) : an (tN A n) = n := rfl
theorem an_tE (A : Ab) (n : Nat) : an (tE A n) = an A := rfl
theorem ae_tI (A : Ab) (r k : Nat) (v : Int32) : ae (tI A r k v) = ae A := rfl
theorem ae_tL (A : Ab) (r k : Nat) (v : Int64) : ae (tL A r k v) = ae A := rfl
theorem ae_qI (A : Ab) (r : Nat) (g : Nat → Int32) : ae (qI A r g) = ae A := rfl
theorem ae_qL (A : Ab) (r : Nat) (g : Nat → Int64) : ae (qL A r g) = ae A := rfl
theorem ae_tN (A : Ab) (n : Nat) : ae (tN A n) = ae A := rfl
theorem ae_tE (A : Ab) (n : Nat) : ae (tE A n) = n := rfl
/-- the status -/
def st (A : Ab) (v : Int32) : Ab := tI A 33 0 v
/-- the thing above, as a number -/
def par (A : Ab) (i : Nat) : Option Nat := if aI A 38 i = -1 then none else some (aI A 38 i).toNatClampNeg
/-- the references that never change -/
def rfC : List (Nat × Nat × Nat) := [(0, 0, 1), (0, 1, 2), (0, 2, 6), (0, 3, 10), (0, 4, 21), (1, 0, 25), (1, 1, 27), (1, 2, 29), (1, 3, 31), (2, 0, 3), (2, 2, 4), (2, 3, 5), (6, 0, 7), (6, 1, 8), (6, 2, 9), (10, 0, 11), (10, 1, 14), (10, 2, 17), (10, 3, 18), (10, 4, 19), (10, 5, 20), (11, 0, 12), (11, 1, 13), (14, 0, 15), (14, 1, 16), (21, 0, 22), (21, 1, 23), (21, 2, 24), (25, 0, 26), (27, 0, 28), (29, 0, 30), (31, 0, 32)]
def rfM : List (Nat × Nat × Nat) := [(33, 4, 34), (33, 5, 35), (33, 6, 36), (33, 8, 37), (33, 9, 38), (33, 10, 39), (33, 11, 40), (33, 12, 41), (33, 13, 42), (33, 14, 43), (33, 15, 44), (33, 16, 45), (33, 17, 46), (33, 18, 47), (33, 19, 48), (33, 20, 49), (33, 21, 50), (33, 23, 51), (33, 24, 52), (33, 25, 53), (33, 26, 54), (33, 27, 55), (33, 28, 56), (33, 29, 57), (33, 30, 58), (33, 32, 59)]
def RC (u : Mm) : Prop := ∀ q ∈ rfC, gR u q.1 q.2.1 = some q.2.2
def RM (u : Mm) : Prop := ∀ q ∈ rfM, gR u q.1 q.2.1 = some q.2.2
theorem rc_0_0 {u : Mm} (h : RC u) : gR u 0 0 = some 1 := h (0, 0, 1) (by decide)
theorem rc_0_1 {u : Mm} (h : RC u) : gR u 0 1 = some 2 := h (0, 1, 2) (by decide)
theorem rc_0_2 {u : Mm} (h : RC u) : gR u 0 2 = some 6 := h (0, 2, 6) (by decide)
theorem rc_0_3 {u : Mm} (h : RC u) : gR u 0 3 = some 10 := h (0, 3, 10) (by decide)
theorem rc_0_4 {u : Mm} (h : RC u) : gR u 0 4 = some 21 := h (0, 4, 21) (by decide)
theorem rc_1_0 {u : Mm} (h : RC u) : gR u 1 0 = some 25 := h (1, 0, 25) (by decide)
theorem rc_1_1 {u : Mm} (h : RC u) : gR u 1 1 = some 27 := h (1, 1, 27) (by decide)
theorem rc_1_2 {u : Mm} (h : RC u) : gR u 1 2 = some 29 := h (1, 2, 29) (by decide)
theorem rc_1_3 {u : Mm} (h : RC u) : gR u 1 3 = some 31 := h (1, 3, 31) (by decide)
theorem rc_2_0 {u : Mm} (h : RC u) : gR u 2 0 = some 3 := h (2, 0, 3) (by decide)
theorem rc_2_2 {u : Mm} (h : RC u) : gR u 2 2 = some 4 := h (2, 2, 4) (by decide)
theorem rc_2_3 {u : Mm} (h : RC u) : gR u 2 3 = some 5 := h (2, 3, 5) (by decide)
theorem rc_6_0 {u : Mm} (h : RC u) : gR u 6 0 = some 7 := h (6, 0, 7) (by decide)
theorem rc_6_1 {u : Mm} (h : RC u) : gR u 6 1 = some 8 := h (6, 1, 8) (by decide)
theorem rc_6_2 {u : Mm} (h : RC u) : gR u 6 2 = some 9 := h (6, 2, 9) (by decide)
theorem rc_10_0 {u : Mm} (h : RC u) : gR u 10 0 = some 11 := h (10, 0, 11) (by decide)
theorem rc_10_1 {u : Mm} (h : RC u) : gR u 10 1 = some 14 := h (10, 1, 14) (by decide)
theorem rc_10_2 {u : Mm} (h : RC u) : gR u 10 2 = some 17 := h (10, 2, 17) (by decide)
theorem rc_10_3 {u : Mm} (h : RC u) : gR u 10 3 = some 18 := h (10, 3, 18) (by decide)
theorem rc_10_4 {u : Mm} (h : RC u) : gR u 10 4 = some 19 := h (10, 4, 19) (by decide)
theorem rc_10_5 {u : Mm} (h : RC u) : gR u 10 5 = some 20 := h (10, 5, 20) (by decide)
theorem rc_11_0 {u : Mm} (h : RC u) : gR u 11 0 = some 12 := h (11, 0, 12) (by decide)
theorem rc_11_1 {u : Mm} (h : RC u) : gR u 11 1 = some 13 := h (11, 1, 13) (by decide)
theorem rc_14_0 {u : Mm} (h : RC u) : gR u 14 0 = some 15 := h (14, 0, 15) (by decide)
theorem rc_14_1 {u : Mm} (h : RC u) : gR u 14 1 = some 16 := h (14, 1, 16) (by decide)
theorem rc_21_0 {u : Mm} (h : RC u) : gR u 21 0 = some 22 := h (21, 0, 22) (by decide)
theorem rc_21_1 {u : Mm} (h : RC u) : gR u 21 1 = some 23 := h (21, 1, 23) (by decide)
theorem rc_21_2 {u : Mm} (h : RC u) : gR u 21 2 = some 24 := h (21, 2, 24) (by decide)
theorem rc_25_0 {u : Mm} (h : RC u) : gR u 25 0 = some 26 := h (25, 0, 26) (by decide)
theorem rc_27_0 {u : Mm} (h : RC u) : gR u 27 0 = some 28 := h (27, 0, 28) (by decide)
theorem rc_29_0 {u : Mm} (h : RC u) : gR u 29 0 = some 30 := h (29, 0, 30) (by decide)
theorem rc_31_0 {u : Mm} (h : RC u) : gR u 31 0 = some 32 := h (31, 0, 32) (by decide)
theorem rm_4 {u : Mm} (h : RM u) : gR u 33 4 = some 34 := h (33, 4, 34) (by decide)
theorem rm_5 {u : Mm} (h : RM u) : gR u 33 5 = some 35 := h (33, 5, 35) (by decide)
theorem rm_6 {u : Mm} (h : RM u) : gR u 33 6 = some 36 := h (33, 6, 36) (by decide)
theorem rm_8 {u : Mm} (h : RM u) : gR u 33 8 = some 37 := h (33, 8, 37) (by decide)
theorem rm_9 {u : Mm} (h : RM u) : gR u 33 9 = some 38 := h (33, 9, 38) (by decide)
theorem rm_10 {u : Mm} (h : RM u) : gR u 33 10 = some 39 := h (33, 10, 39) (by decide)
theorem rm_11 {u : Mm} (h : RM u) : gR u 33 11 = some 40 := h (33, 11, 40) (by decide)
theorem rm_12 {u : Mm} (h : RM u) : gR u 33 12 = some 41 := h (33, 12, 41) (by decide)
theorem rm_13 {u : Mm} (h : RM u) : gR u 33 13 = some 42 := h (33, 13, 42) (by decide)
theorem rm_14 {u : Mm} (h : RM u) : gR u 33 14 = some 43 := h (33, 14, 43) (by decide)
theorem rm_15 {u : Mm} (h : RM u) : gR u 33 15 = some 44 := h (33, 15, 44) (by decide)
theorem rm_16 {u : Mm} (h : RM u) : gR u 33 16 = some 45 := h (33, 16, 45) (by decide)
theorem rm_17 {u : Mm} (h : RM u) : gR u 33 17 = some 46 := h (33, 17, 46) (by decide)
theorem rm_18 {u : Mm} (h : RM u) : gR u 33 18 = some 47 := h (33, 18, 47) (by decide)
theorem rm_19 {u : Mm} (h : RM u) : gR u 33 19 = some 48 := h (33, 19, 48) (by decide)
theorem rm_20 {u : Mm} (h : RM u) : gR u 33 20 = some 49 := h (33, 20, 49) (by decide)
theorem rm_21 {u : Mm} (h : RM u) : gR u 33 21 = some 50 := h (33, 21, 50) (by decide)
theorem rm_23 {u : Mm} (h : RM u) : gR u 33 23 = some 51 := h (33, 23, 51) (by decide)
theorem rm_24 {u : Mm} (h : RM u) : gR u 33 24 = some 52 := h (33, 24, 52) (by decide)
theorem rm_25 {u : Mm} (h : RM u) : gR u 33 25 = some 53 := h (33, 25, 53) (by decide)
theorem rm_26 {u : Mm} (h : RM u) : gR u 33 26 = some 54 := h (33, 26, 54) (by decide)
theorem rm_27 {u : Mm} (h : RM u) : gR u 33 27 = some 55 := h (33, 27, 55) (by decide)
theorem rm_28 {u : Mm} (h : RM u) : gR u 33 28 = some 56 := h (33, 28, 56) (by decide)
theorem rm_29 {u : Mm} (h : RM u) : gR u 33 29 = some 57 := h (33, 29, 57) (by decide)
theorem rm_30 {u : Mm} (h : RM u) : gR u 33 30 = some 58 := h (33, 30, 58) (by decide)
theorem rm_32 {u : Mm} (h : RM u) : gR u 33 32 = some 59 := h (33, 32, 59) (by decide)
theorem oO0 {u : Mm} (h : 60 ≤ u.1) : okO u 0 7 = true := okO_t (by omega) rfl
theorem oO1 {u : Mm} (h : 60 ≤ u.1) : okO u 1 13 = true := okO_t (by omega) rfl
theorem oA1 {u : Mm} (h : 60 ≤ u.1) {i : Nat} (hi : i < 4) : okA u 1 13 (nI i) = true := okA_t (by omega) rfl rfl (by decide) hi
theorem oO2 {u : Mm} (h : 60 ≤ u.1) : okO u 2 0 = true := okO_t (by omega) rfl
theorem oO3 {u : Mm} (h : 60 ≤ u.1) : okO u 3 12 = true := okO_t (by omega) rfl
theorem oA3 {u : Mm} (h : 60 ≤ u.1) {i : Nat} (hi : i < 80) : okA u 3 12 (nI i) = true := okA_t (by omega) rfl rfl (by decide) hi
theorem oO4 {u : Mm} (h : 60 ≤ u.1) : okO u 4 12 = true := okO_t (by omega) rfl
theorem oA4 {u : Mm} (h : 60 ≤ u.1) {i : Nat} (hi : i < 80) : okA u 4 12 (nI i) = true := okA_t (by omega) rfl rfl (by decide) hi
theorem oO5 {u : Mm} (h : 60 ≤ u.1) : okO u 5 11 = true := okO_t (by omega) rfl
theorem oA5 {u : Mm} (h : 60 ≤ u.1) {i : Nat} (hi : i < 80) : okA u 5 11 (nI i) = true := okA_t (by omega) rfl rfl (by decide) hi
theorem oO6 {u : Mm} (h : 60 ≤ u.1) : okO u 6 2 = true := okO_t (by omega) rfl
theorem oO7 {u : Mm} (h : 60 ≤ u.1) : okO u 7 9 = true := okO_t (by omega) rfl
theorem oA7 {u : Mm} (h : 60 ≤ u.1) {i : Nat} (hi : i < 200) : okA u 7 9 (nI i) = true := okA_t (by omega) rfl rfl (by decide) hi
theorem oO8 {u : Mm} (h : 60 ≤ u.1) : okO u 8 9 = true := okO_t (by omega) rfl
theorem oA8 {u : Mm} (h : 60 ≤ u.1) {i : Nat} (hi : i < 200) : okA u 8 9 (nI i) = true := okA_t (by omega) rfl rfl (by decide) hi
theorem oO9 {u : Mm} (h : 60 ≤ u.1) : okO u 9 9 = true := okO_t (by omega) rfl
theorem oA9 {u : Mm} (h : 60 ≤ u.1) {i : Nat} (hi : i < 200) : okA u 9 9 (nI i) = true := okA_t (by omega) rfl rfl (by decide) hi
theorem oO10 {u : Mm} (h : 60 ≤ u.1) : okO u 10 4 = true := okO_t (by omega) rfl
theorem oO11 {u : Mm} (h : 60 ≤ u.1) : okO u 11 1 = true := okO_t (by omega) rfl
theorem oO12 {u : Mm} (h : 60 ≤ u.1) : okO u 12 9 = true := okO_t (by omega) rfl
theorem oA12 {u : Mm} (h : 60 ≤ u.1) {i : Nat} (hi : i < 80) : okA u 12 9 (nI i) = true := okA_t (by omega) rfl rfl (by decide) hi
theorem oO13 {u : Mm} (h : 60 ≤ u.1) : okO u 13 9 = true := okO_t (by omega) rfl
theorem oA13 {u : Mm} (h : 60 ≤ u.1) {i : Nat} (hi : i < 40) : okA u 13 9 (nI i) = true := okA_t (by omega) rfl rfl (by decide) hi
theorem oO14 {u : Mm} (h : 60 ≤ u.1) : okO u 14 1 = true := okO_t (by omega) rfl
theorem oO15 {u : Mm} (h : 60 ≤ u.1) : okO u 15 9 = true := okO_t (by omega) rfl
theorem oA15 {u : Mm} (h : 60 ≤ u.1) {i : Nat} (hi : i < 80) : okA u 15 9 (nI i) = true := okA_t (by omega) rfl rfl (by decide) hi
theorem oO16 {u : Mm} (h : 60 ≤ u.1) : okO u 16 9 = true := okO_t (by omega) rfl
theorem oA16 {u : Mm} (h : 60 ≤ u.1) {i : Nat} (hi : i < 40) : okA u 16 9 (nI i) = true := okA_t (by omega) rfl rfl (by decide) hi
theorem oO17 {u : Mm} (h : 60 ≤ u.1) : okO u 17 9 = true := okO_t (by omega) rfl
theorem oA17 {u : Mm} (h : 60 ≤ u.1) {i : Nat} (hi : i < 80) : okA u 17 9 (nI i) = true := okA_t (by omega) rfl rfl (by decide) hi
theorem oO18 {u : Mm} (h : 60 ≤ u.1) : okO u 18 9 = true := okO_t (by omega) rfl
theorem oA18 {u : Mm} (h : 60 ≤ u.1) {i : Nat} (hi : i < 80) : okA u 18 9 (nI i) = true := okA_t (by omega) rfl rfl (by decide) hi
theorem oO19 {u : Mm} (h : 60 ≤ u.1) : okO u 19 9 = true := okO_t (by omega) rfl
theorem oA19 {u : Mm} (h : 60 ≤ u.1) {i : Nat} (hi : i < 80) : okA u 19 9 (nI i) = true := okA_t (by omega) rfl rfl (by decide) hi
theorem oO20 {u : Mm} (h : 60 ≤ u.1) : okO u 20 9 = true := okO_t (by omega) rfl
theorem oA20 {u : Mm} (h : 60 ≤ u.1) {i : Nat} (hi : i < 80) : okA u 20 9 (nI i) = true := okA_t (by omega) rfl rfl (by decide) hi
theorem oO21 {u : Mm} (h : 60 ≤ u.1) : okO u 21 3 = true := okO_t (by omega) rfl
theorem oO22 {u : Mm} (h : 60 ≤ u.1) : okO u 22 9 = true := okO_t (by omega) rfl
theorem oA22 {u : Mm} (h : 60 ≤ u.1) {i : Nat} (hi : i < 20) : okA u 22 9 (nI i) = true := okA_t (by omega) rfl rfl (by decide) hi
theorem oO23 {u : Mm} (h : 60 ≤ u.1) : okO u 23 10 = true := okO_t (by omega) rfl
theorem oA23 {u : Mm} (h : 60 ≤ u.1) {i : Nat} (hi : i < 20) : okA u 23 10 (nI i) = true := okA_t (by omega) rfl rfl (by decide) hi
theorem oO24 {u : Mm} (h : 60 ≤ u.1) : okO u 24 10 = true := okO_t (by omega) rfl
theorem oA24 {u : Mm} (h : 60 ≤ u.1) {i : Nat} (hi : i < 20) : okA u 24 10 (nI i) = true := okA_t (by omega) rfl rfl (by decide) hi
theorem oO25 {u : Mm} (h : 60 ≤ u.1) : okO u 25 6 = true := okO_t (by omega) rfl
theorem oO26 {u : Mm} (h : 60 ≤ u.1) : okO u 26 10 = true := okO_t (by omega) rfl
theorem oA26 {u : Mm} (h : 60 ≤ u.1) {i : Nat} (hi : i < 40) : okA u 26 10 (nI i) = true := okA_t (by omega) rfl rfl (by decide) hi
theorem oO27 {u : Mm} (h : 60 ≤ u.1) : okO u 27 6 = true := okO_t (by omega) rfl
theorem oO28 {u : Mm} (h : 60 ≤ u.1) : okO u 28 10 = true := okO_t (by omega) rfl
theorem oA28 {u : Mm} (h : 60 ≤ u.1) {i : Nat} (hi : i < 40) : okA u 28 10 (nI i) = true := okA_t (by omega) rfl rfl (by decide) hi
theorem oO29 {u : Mm} (h : 60 ≤ u.1) : okO u 29 6 = true := okO_t (by omega) rfl
theorem oO30 {u : Mm} (h : 60 ≤ u.1) : okO u 30 10 = true := okO_t (by omega) rfl
theorem oA30 {u : Mm} (h : 60 ≤ u.1) {i : Nat} (hi : i < 40) : okA u 30 10 (nI i) = true := okA_t (by omega) rfl rfl (by decide) hi
theorem oO31 {u : Mm} (h : 60 ≤ u.1) : okO u 31 6 = true := okO_t (by omega) rfl
theorem oO32 {u : Mm} (h : 60 ≤ u.1) : okO u 32 10 = true := okO_t (by omega) rfl
theorem oA32 {u : Mm} (h : 60 ≤ u.1) {i : Nat} (hi : i < 40) : okA u 32 10 (nI i) = true := okA_t (by omega) rfl rfl (by decide) hi
theorem oO33 {u : Mm} (h : 60 ≤ u.1) : okO u 33 8 = true := okO_t (by omega) rfl
theorem oO34 {u : Mm} (h : 60 ≤ u.1) : okO u 34 9 = true := okO_t (by omega) rfl
theorem oA34 {u : Mm} (h : 60 ≤ u.1) {i : Nat} (hi : i < 4) : okA u 34 9 (nI i) = true := okA_t (by omega) rfl rfl (by decide) hi
theorem oO35 {u : Mm} (h : 60 ≤ u.1) : okO u 35 9 = true := okO_t (by omega) rfl
theorem oA35 {u : Mm} (h : 60 ≤ u.1) {i : Nat} (hi : i < 4) : okA u 35 9 (nI i) = true := okA_t (by omega) rfl rfl (by decide) hi
theorem oO36 {u : Mm} (h : 60 ≤ u.1) : okO u 36 10 = true := okO_t (by omega) rfl
theorem oA36 {u : Mm} (h : 60 ≤ u.1) {i : Nat} (hi : i < 160) : okA u 36 10 (nI i) = true := okA_t (by omega) rfl rfl (by decide) hi
theorem oO37 {u : Mm} (h : 60 ≤ u.1) : okO u 37 9 = true := okO_t (by omega) rfl
theorem oA37 {u : Mm} (h : 60 ≤ u.1) {i : Nat} (hi : i < 80) : okA u 37 9 (nI i) = true := okA_t (by omega) rfl rfl (by decide) hi
theorem oO38 {u : Mm} (h : 60 ≤ u.1) : okO u 38 9 = true := okO_t (by omega) rfl
theorem oA38 {u : Mm} (h : 60 ≤ u.1) {i : Nat} (hi : i < 80) : okA u 38 9 (nI i) = true := okA_t (by omega) rfl rfl (by decide) hi
theorem oO39 {u : Mm} (h : 60 ≤ u.1) : okO u 39 9 = true := okO_t (by omega) rfl
theorem oA39 {u : Mm} (h : 60 ≤ u.1) {i : Nat} (hi : i < 80) : okA u 39 9 (nI i) = true := okA_t (by omega) rfl rfl (by decide) hi
theorem oO40 {u : Mm} (h : 60 ≤ u.1) : okO u 40 9 = true := okO_t (by omega) rfl
theorem oA40 {u : Mm} (h : 60 ≤ u.1) {i : Nat} (hi : i < 80) : okA u 40 9 (nI i) = true := okA_t (by omega) rfl rfl (by decide) hi
theorem oO41 {u : Mm} (h : 60 ≤ u.1) : okO u 41 9 = true := okO_t (by omega) rfl
theorem oA41 {u : Mm} (h : 60 ≤ u.1) {i : Nat} (hi : i < 480) : okA u 41 9 (nI i) = true := okA_t (by omega) rfl rfl (by decide) hi
theorem oO42 {u : Mm} (h : 60 ≤ u.1) : okO u 42 9 = true := okO_t (by omega) rfl
theorem oA42 {u : Mm} (h : 60 ≤ u.1) {i : Nat} (hi : i < 80) : okA u 42 9 (nI i) = true := okA_t (by omega) rfl rfl (by decide) hi
theorem oO43 {u : Mm} (h : 60 ≤ u.1) : okO u 43 9 = true := okO_t (by omega) rfl
theorem oA43 {u : Mm} (h : 60 ≤ u.1) {i : Nat} (hi : i < 80) : okA u 43 9 (nI i) = true := okA_t (by omega) rfl rfl (by decide) hi
theorem oO44 {u : Mm} (h : 60 ≤ u.1) : okO u 44 9 = true := okO_t (by omega) rfl
theorem oA44 {u : Mm} (h : 60 ≤ u.1) {i : Nat} (hi : i < 80) : okA u 44 9 (nI i) = true := okA_t (by omega) rfl rfl (by decide) hi
theorem oO45 {u : Mm} (h : 60 ≤ u.1) : okO u 45 9 = true := okO_t (by omega) rfl
theorem oA45 {u : Mm} (h : 60 ≤ u.1) {i : Nat} (hi : i < 80) : okA u 45 9 (nI i) = true := okA_t (by omega) rfl rfl (by decide) hi
theorem oO46 {u : Mm} (h : 60 ≤ u.1) : okO u 46 9 = true := okO_t (by omega) rfl
theorem oA46 {u : Mm} (h : 60 ≤ u.1) {i : Nat} (hi : i < 80) : okA u 46 9 (nI i) = true := okA_t (by omega) rfl rfl (by decide) hi
theorem oO47 {u : Mm} (h : 60 ≤ u.1) : okO u 47 9 = true := okO_t (by omega) rfl
theorem oA47 {u : Mm} (h : 60 ≤ u.1) {i : Nat} (hi : i < 80) : okA u 47 9 (nI i) = true := okA_t (by omega) rfl rfl (by decide) hi
theorem oO48 {u : Mm} (h : 60 ≤ u.1) : okO u 48 9 = true := okO_t (by omega) rfl
theorem oA48 {u : Mm} (h : 60 ≤ u.1) {i : Nat} (hi : i < 80) : okA u 48 9 (nI i) = true := okA_t (by omega) rfl rfl (by decide) hi
theorem oO49 {u : Mm} (h : 60 ≤ u.1) : okO u 49 9 = true := okO_t (by omega) rfl
theorem oA49 {u : Mm} (h : 60 ≤ u.1) {i : Nat} (hi : i < 80) : okA u 49 9 (nI i) = true := okA_t (by omega) rfl rfl (by decide) hi
theorem oO50 {u : Mm} (h : 60 ≤ u.1) : okO u 50 9 = true := okO_t (by omega) rfl
theorem oA50 {u : Mm} (h : 60 ≤ u.1) {i : Nat} (hi : i < 80) : okA u 50 9 (nI i) = true := okA_t (by omega) rfl rfl (by decide) hi
theorem oO51 {u : Mm} (h : 60 ≤ u.1) : okO u 51 9 = true := okO_t (by omega) rfl
theorem oA51 {u : Mm} (h : 60 ≤ u.1) {i : Nat} (hi : i < 200) : okA u 51 9 (nI i) = true := okA_t (by omega) rfl rfl (by decide) hi
theorem oO52 {u : Mm} (h : 60 ≤ u.1) : okO u 52 9 = true := okO_t (by omega) rfl
theorem oA52 {u : Mm} (h : 60 ≤ u.1) {i : Nat} (hi : i < 200) : okA u 52 9 (nI i) = true := okA_t (by omega) rfl rfl (by decide) hi
theorem oO53 {u : Mm} (h : 60 ≤ u.1) : okO u 53 9 = true := okO_t (by omega) rfl
theorem oA53 {u : Mm} (h : 60 ≤ u.1) {i : Nat} (hi : i < 200) : okA u 53 9 (nI i) = true := okA_t (by omega) rfl rfl (by decide) hi
theorem oO54 {u : Mm} (h : 60 ≤ u.1) : okO u 54 9 = true := okO_t (by omega) rfl
theorem oA54 {u : Mm} (h : 60 ≤ u.1) {i : Nat} (hi : i < 40) : okA u 54 9 (nI i) = true := okA_t (by omega) rfl rfl (by decide) hi
theorem oO55 {u : Mm} (h : 60 ≤ u.1) : okO u 55 9 = true := okO_t (by omega) rfl
theorem oA55 {u : Mm} (h : 60 ≤ u.1) {i : Nat} (hi : i < 80) : okA u 55 9 (nI i) = true := okA_t (by omega) rfl rfl (by decide) hi
theorem oO56 {u : Mm} (h : 60 ≤ u.1) : okO u 56 9 = true := okO_t (by omega) rfl
theorem oA56 {u : Mm} (h : 60 ≤ u.1) {i : Nat} (hi : i < 400) : okA u 56 9 (nI i) = true := okA_t (by omega) rfl rfl (by decide) hi
theorem oO57 {u : Mm} (h : 60 ≤ u.1) : okO u 57 9 = true := okO_t (by omega) rfl
theorem oA57 {u : Mm} (h : 60 ≤ u.1) {i : Nat} (hi : i < 400) : okA u 57 9 (nI i) = true := okA_t (by omega) rfl rfl (by decide) hi
theorem oO58 {u : Mm} (h : 60 ≤ u.1) : okO u 58 9 = true := okO_t (by omega) rfl
theorem oA58 {u : Mm} (h : 60 ≤ u.1) {i : Nat} (hi : i < 400) : okA u 58 9 (nI i) = true := okA_t (by omega) rfl rfl (by decide) hi
theorem oO59 {u : Mm} (h : 60 ≤ u.1) : okO u 59 9 = true := okO_t (by omega) rfl
theorem oA59 {u : Mm} (h : 60 ≤ u.1) {i : Nat} (hi : i < 20) : okA u 59 9 (nI i) = true := okA_t (by omega) rfl rfl (by decide) hi
theorem oT {u : Mm} {i : Nat} (h : 60 + 2 * i < u.1) : okO u (60 + 2 * i) 5 = true := okO_t h (shp_t i)
theorem oS {u : Mm} {i f : Nat} (h : 61 + 2 * i < u.1) (hf : f < 6) : okA u (61 + 2 * i) 9 (nI f) = true := okA_t h (shp_s i) (aln_s i) (by decide) hf
theorem oY {u : Mm} {t : Nat} (h : 60 ≤ u.1) (ht : t < 4) : okO u (25 + 2 * t) 6 = true := okO_t (by omega) (by rcases (show t = 0 ∨ t = 1 ∨ t = 2 ∨ t = 3 by omega) with rfl | rfl | rfl | rfl <;> rfl)
theorem oYn {u : Mm} {t j : Nat} (h : 60 ≤ u.1) (ht : t < 4) (hj : j < 40) : okA u (26 + 2 * t) 10 (nI j) = true := okA_t (n := 40) (by omega) (by rcases (show t = 0 ∨ t = 1 ∨ t = 2 ∨ t = 3 by omega) with rfl | rfl | rfl | rfl <;> rfl) (by rcases (show t = 0 ∨ t = 1 ∨ t = 2 ∨ t = 3 by omega) with rfl | rfl | rfl | rfl <;> rfl) (by decide) hj
theorem rc_y {u : Mm} {t : Nat} (h : RC u) (ht : t < 4) : gR u 1 t = some (25 + 2 * t) := by rcases (show t = 0 ∨ t = 1 ∨ t = 2 ∨ t = 3 by omega) with rfl | rfl | rfl | rfl; all_goals first | exact rc_1_0 h | exact rc_1_1 h | exact rc_1_2 h | exact rc_1_3 h
theorem rc_yn {u : Mm} {t : Nat} (h : RC u) (ht : t < 4) : gR u (25 + 2 * t) 0 = some (26 + 2 * t) := by rcases (show t = 0 ∨ t = 1 ∨ t = 2 ∨ t = 3 by omega) with rfl | rfl | rfl | rfl; all_goals first | exact rc_25_0 h | exact rc_27_0 h | exact rc_29_0 h | exact rc_31_0 h
/-! what the class's cells hold -/
def GN (u : Mm) (A : Ab) : Prop := u.1 = 60 + 2 * an A ∧ gI u 2 1 = nI (an A)
def GF (u : Mm) (A : Ab) : Prop := gL u 0 6 = aL A 33 2 ∧ gL u 0 7 = aL A 33 3
def GT1 (u : Mm) (A : Ab) (i : Nat) : Prop :=
  gR u 3 i = some (60 + 2 * i) ∧ gI u (60 + 2 * i) 0 = nI i ∧ gI u (60 + 2 * i) 1 = aI A 37 i ∧ gR u (60 + 2 * i) 2 = (par A i).map (fun j => 60 + 2 * j) ∧ gR u (60 + 2 * i) 3 = some (61 + 2 * i) ∧
  gI u (60 + 2 * i) 4 = aI A 42 i ∧ (aI A 42 i ≠ -1 → gI u (60 + 2 * i) 5 = aI A 43 i) ∧ gI u (60 + 2 * i) 6 = aI A 39 i ∧ gI u (60 + 2 * i) 7 = aI A 44 i ∧ gI u (60 + 2 * i) 8 = aI A 45 i ∧ gI u (60 + 2 * i) 9 = aI A 46 i ∧
  ∀ f, f < 6 → gI u (61 + 2 * i) f = aI A 41 (6 * i + f)
def GT (u : Mm) (A : Ab) : Prop := ∀ i, i < an A → GT1 u A i
def GP (u : Mm) (A : Ab) : Prop := (∀ i, i < an A → ∃ q, q < an A ∧ gI u (60 + 2 * i) 10 = nI q) ∧ ∀ i j, i < an A → j < an A → (gI u (60 + 2 * i) 10 = gI u (60 + 2 * j) 10 ↔ aI A 40 i = aI A 40 j)
def GY1 (u : Mm) (A : Ab) (t : Nat) : Prop :=
  (aI A 35 t = -1 ∧ gI u (25 + 2 * t) 1 = -1 ∧ gI u (25 + 2 * t) 2 = 0) ∨
  (∃ k, k ≤ 40 ∧ aI A 35 t = nI k ∧ gI u (25 + 2 * t) 1 = aI A 34 t ∧ gI u (25 + 2 * t) 2 = nI k ∧ ∀ j, j < k → gL u (26 + 2 * t) j = aL A 36 (40 * t + j))
def GY (u : Mm) (A : Ab) : Prop := ∀ t, t < 4 → GY1 u A t
def GL (u : Mm) (A : Ab) : Prop := gI u 6 3 = nI (ae A) ∧ ∀ k, k < ae A → gI u 7 k = aI A 51 k ∧ gI u 8 k = aI A 52 k ∧ gI u 9 k = aI A 53 k
def plc (A : Ab) (i : Nat) : Int32 := if i < an A then aI A 47 i else -1
def gol (A : Ab) (i : Nat) : Int32 := if i < an A then aI A 48 i else -1
/-- a layout: where each of 80 stands (row rp), who stands in each of 40 places (row rb) -/
def Lay (u : Mm) (rp rb : Nat) (f : Nat → Int32) : Prop := (∀ i, i < 80 → gI u rp i = f i) ∧ ∀ p, p < 40 → (gI u rb p = -1 ∧ ∀ i, i < 80 → f i ≠ nI p) ∨ ∃ b, b < 80 ∧ gI u rb p = nI b ∧ f b = nI p
def GS (u : Mm) (A : Ab) : Prop := Lay u 12 13 (plc A) ∧ ∀ i, i < 80 → gI u 17 i = gol A i
def CR (u : Mm) (A : Ab) : Prop := RC u ∧ GN u A ∧ gI u 0 5 = aI A 33 0 ∧ GF u A ∧ GT u A ∧ GP u A ∧ GY u A ∧ GL u A ∧ GS u A
/-! what the reference's cells hold -/
def HT1 (u : Mm) (A : Ab) (i : Nat) : Prop :=
  gI u 37 i = aI A 37 i ∧ gI u 38 i = aI A 38 i ∧ gI u 39 i = aI A 39 i ∧ gI u 40 i = aI A 40 i ∧ gI u 42 i = aI A 42 i ∧ gI u 43 i = aI A 43 i ∧ gI u 44 i = aI A 44 i ∧ gI u 45 i = aI A 45 i ∧ gI u 46 i = aI A 46 i ∧ gI u 47 i = aI A 47 i ∧ gI u 48 i = aI A 48 i ∧
  ∀ f, f < 6 → gI u 41 (6 * i + f) = aI A 41 (6 * i + f)
def HT (u : Mm) (A : Ab) : Prop := (∀ i, i < an A → HT1 u A i) ∧ ∀ i, an A ≤ i → i < 80 → gI u 45 i = 0
def HY (u : Mm) (A : Ab) : Prop := ∀ t, t < 4 → gI u 34 t = aI A 34 t ∧ gI u 35 t = aI A 35 t ∧ ∀ k, aI A 35 t = nI k → k ≤ 40 → ∀ j, j < k → gL u 36 (40 * t + j) = aL A 36 (40 * t + j)
def HL (u : Mm) (A : Ab) : Prop := gI u 33 22 = nI (ae A) ∧ ∀ k, k < ae A → gI u 51 k = aI A 51 k ∧ gI u 52 k = aI A 52 k ∧ gI u 53 k = aI A 53 k
def MR (u : Mm) (A : Ab) : Prop := RM u ∧ 60 ≤ u.1 ∧ gI u 33 7 = nI (an A) ∧ gI u 33 0 = aI A 33 0 ∧ (gL u 33 2 = aL A 33 2 ∧ gL u 33 3 = aL A 33 3) ∧ HT u A ∧ HY u A ∧ HL u A
/-! what is always true of an abstract state -/
def WT1 (A : Ab) (i : Nat) : Prop :=
  (0 ≤ (aI A 37 i).toInt ∧ (aI A 37 i).toInt ≤ 3) ∧ (-1 ≤ (aI A 38 i).toInt ∧ (aI A 38 i).toInt < i) ∧ (-1 ≤ (aI A 39 i).toInt ∧ (aI A 39 i).toInt ≤ 999) ∧ (∃ q, q ≤ i ∧ aI A 40 i = nI q) ∧
  (-1 ≤ (aI A 42 i).toInt ∧ (aI A 42 i).toInt ≤ 100000) ∧ ((aI A 42 i).toInt ≠ -1 → (aI A 42 i).toInt ≤ (aI A 43 i).toInt ∧ (aI A 43 i).toInt ≤ 100000) ∧ (-1 ≤ (aI A 44 i).toInt ∧ (aI A 44 i).toInt ≤ 200000) ∧
  (-1 ≤ (aI A 46 i).toInt ∧ (aI A 46 i).toInt ≤ 9999) ∧ (-1 ≤ (aI A 47 i).toInt ∧ (aI A 47 i).toInt < 40) ∧ (-1 ≤ (aI A 48 i).toInt ∧ (aI A 48 i).toInt < 40) ∧
  ∀ f, f < 6 → -1 ≤ (aI A 41 (6 * i + f)).toInt ∧ (aI A 41 (6 * i + f)).toInt ≤ 999
def WT (A : Ab) : Prop := an A ≤ 80 ∧ ∀ i, i < an A → WT1 A i
/-- no two things have one mark, one place, one goal -/
def WD (A : Ab) (r : Nat) : Prop := ∀ i j, i < an A → j < an A → i ≠ j → aI A r i = aI A r j → aI A r i = -1
def WY (A : Ab) : Prop := ∀ t, t < 4 → (0 ≤ (aI A 34 t).toInt ∧ (aI A 34 t).toInt ≤ 3) ∧ -1 ≤ (aI A 35 t).toInt ∧ (aI A 35 t).toInt ≤ 40
def WL (A : Ab) : Prop := ae A ≤ 200 ∧ (∀ k, k < ae A → (-1 ≤ (aI A 52 k).toInt ∧ (aI A 52 k).toInt ≤ 15) ∧ 0 ≤ (aI A 53 k).toInt ∧ (aI A 53 k).toInt ≤ 100000) ∧ ∀ i j, i ≤ j → j < ae A → (aI A 53 i).toInt ≤ (aI A 53 j).toInt
def Wf (A : Ab) : Prop := WT A ∧ WD A 46 ∧ WD A 47 ∧ WD A 48 ∧ WY A ∧ WL A
/-- the reference's cells as they were, the class's cells as they were -/
def keepM (u v : Mm) : Prop := u.1 ≤ v.1 ∧ ∀ r, 33 ≤ r → r < 60 → (∀ k, gI v r k = gI u r k) ∧ (∀ k, gL v r k = gL u r k) ∧ ∀ k, gR v r k = gR u r k
def keepC (u v : Mm) : Prop := v.1 = u.1 ∧ ∀ r, r < 33 ∨ 60 ≤ r → (∀ k, gI v r k = gI u r k) ∧ (∀ k, gL v r k = gL u r k) ∧ ∀ k, gR v r k = gR u r k
def Inv (u : Mm) : Prop := ∃ A, Wf A ∧ CR u A ∧ MR u A
