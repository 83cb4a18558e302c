abbrev rm_X8_plans : Room := { frames := 1, cells := 0, slots := 0, locals := 36 }
def L_X8_plans_7 (b0 : Nat) (k : Int32 → Mm → Option ((Int32) × Mm)) : Nat → Int32 → Mm → Option ((Int32) × Mm)
  | 0, _, _ => none
  | n + 1, a1, u => (if (40 : Int32) ≤ a1 then k a1 u else gd (okO u b0 8) (bb (gR u b0 26) (fun x4 => cs x4 none (fun k5 => gd (okA u k5 9 a1) (bb (a1 + (1)) (fun v7 => L_X8_plans_7 b0 k n v7 (sI u k5 (Int32.toNatClampNeg a1) (-1 : Int32))))))))
set_option maxHeartbeats 4000000 in
set_option maxRecDepth 100000 in
theorem lp_X8_plans_7 {p : Program} {l : Launch} {e : Env} {s : State} {m : MethodId} {args : Array Value} {below : List Frame} {meth : Method} {c : Code} {D : va_G} {cy : Nat → ClassId} {sz : Nat} {H0 : Heap} {b0 : Nat} {k : Int32 → Mm → Option ((Int32) × Mm)} {res : (Int32) × Mm} (hr : meth.sig.returnType = (some .boolean)) (hlk : meth.locks = false) (E : EE p s m args c cX8_plans 5 RX8 D cy) : ∀ (n : Nat) (a1 : Int32) (u : Mm) (H : Heap) (locs : List Loc) (ls : Array Slot), MM D cy sz H0 u H locs → lv_has ls 5 [(0, .ref (sz + b0)), (1, .int a1)] → L_X8_plans_7 b0 k n a1 u = some res → (∀ (a1 : Int32) (u : Mm) (H : Heap) (locs : List Loc) (ls : Array Slot), MM D cy sz H0 u H locs → lv_has ls 5 [(0, .ref (sz + b0)), (1, .int a1)] → k a1 u = some res → W p l e rm_X8_plans s m args below meth c H locs 0 0 (MQ below (Post D cy sz H0 (some (.int res.1)) res.2) args s 0 0 (fun q => sz ≤ q)) (F0 m 26 ls [])) → W p l e rm_X8_plans s m args below meth c H locs 0 0 (MQ below (Post D cy sz H0 (some (.int res.1)) res.2) args s 0 0 (fun q => sz ≤ q)) (F0 m 7 ls []) := by
  obtain ⟨hx, hb, hml, hown, hts, hKK⟩ := id E
  intro n
  induction n with
  | zero => intros; rename_i h _; cases h
  | succ n ih =>
    intro a1 u H locs ls hM hl h hk
    rw [L_X8_plans_7] at h
    refine lv_iload_n hx hb dX8_plans_7 rfl (lv_at hl 1 rfl) ?_
    refine lv_bipush (v := 40) hx hb dX8_plans_8 (by decide) ?_
    refine lv_icmp_ge (tgt := 26) hx hb dX8_plans_10 (by decide) (fun c2 => ?_) (fun c2 => ?_)
    · replace h := (k_if h).1 c2
      exact hk a1 u H locs ls hM (lv_sub hl [0, 1] rfl) h
    · replace h := (k_if h).2 c2
      refine lv_aload_n hx hb dX8_plans_13 rfl (lv_at hl 0 rfl) ?_
      obtain ⟨ok3, h⟩ := k_gd h
      refine gs_X8_75 E hM ok3 dX8_plans_14 (fun x4 hxx4 => ?_)
      replace h := k_bb h x4 hxx4.symm
      refine lv_iload_n hx hb dX8_plans_17 rfl (lv_at hl 1 rfl) ?_
      refine lv_iconst (v := (-1)) hx hb dX8_plans_18 (by decide) ?_
      rcases x4 with _ | k5
      · cases h
      rw [cs_s] at h
      obtain ⟨ok6, h⟩ := k_gd h
      refine m_iast E hM ok6 dX8_plans_19 (fun H locs hM => ?_)
      obtain ⟨v7, hvv7⟩ : ∃ y : Int32, y = a1 + (1) := ⟨_, rfl⟩
      replace h := k_bb h v7 hvv7
      refine lv_iinc (v := v7) (lv' := [(1, .int v7), (0, .ref (sz + b0))]) hx hb dX8_plans_20 hl (k := 1) rfl (by rw [hvv7]; rfl) (by decide) (by first | rfl | simp [rv_cat, cat_i, cat_l, cat_r, cat_n]) (fun ls hl => ?_)
      refine lv_goto (tgt := 7) hx hb dX8_plans_23 (by decide) ?_
      exact ih v7 (sI u k5 (Int32.toNatClampNeg a1) (-1 : Int32)) H locs ls hM (lv_sub hl [1, 0] rfl) h hk

def L_X8_plans_28 (b0 : Nat) (k : Int32 → Mm → Option ((Int32) × Mm)) : Nat → Int32 → Mm → Option ((Int32) × Mm)
  | 0, _, _ => none
  | n + 1, a1, u => gd (okO u b0 8) ((if (gI u b0 7) ≤ a1 then k a1 u else bb (gR u b0 27) (fun x12 => bb (gR u b0 18) (fun x13 => cs x13 none (fun k14 => gd (okA u k14 9 a1) (cs x12 none (fun k16 => gd (okA u k16 9 a1) (bb (gR (sI u k16 (Int32.toNatClampNeg a1) (gI u k14 (Int32.toNatClampNeg a1))) b0 18) (fun x18 => cs x18 none (fun k19 => gd (okA (sI u k16 (Int32.toNatClampNeg a1) (gI u k14 (Int32.toNatClampNeg a1))) k19 9 a1) ((if (gI (sI u k16 (Int32.toNatClampNeg a1) (gI u k14 (Int32.toNatClampNeg a1))) k19 (Int32.toNatClampNeg a1)) < 0 then bb (a1 + (1)) (fun v22 => L_X8_plans_28 b0 k n v22 (sI u k16 (Int32.toNatClampNeg a1) (gI u k14 (Int32.toNatClampNeg a1)))) else bb (gR (sI u k16 (Int32.toNatClampNeg a1) (gI u k14 (Int32.toNatClampNeg a1))) b0 26) (fun x23 => bb (gR (sI u k16 (Int32.toNatClampNeg a1) (gI u k14 (Int32.toNatClampNeg a1))) b0 18) (fun x24 => cs x24 none (fun k25 => gd (okA (sI u k16 (Int32.toNatClampNeg a1) (gI u k14 (Int32.toNatClampNeg a1))) k25 9 a1) (cs x23 none (fun k27 => gd (okA (sI u k16 (Int32.toNatClampNeg a1) (gI u k14 (Int32.toNatClampNeg a1))) k27 9 (gI (sI u k16 (Int32.toNatClampNeg a1) (gI u k14 (Int32.toNatClampNeg a1))) k25 (Int32.toNatClampNeg a1))) (bb (a1 + (1)) (fun v29 => L_X8_plans_28 b0 k n v29 (sI (sI u k16 (Int32.toNatClampNeg a1) (gI u k14 (Int32.toNatClampNeg a1))) k27 (Int32.toNatClampNeg (gI (sI u k16 (Int32.toNatClampNeg a1) (gI u k14 (Int32.toNatClampNeg a1))) k25 (Int32.toNatClampNeg a1))) a1))))))))))))))))))))
set_option maxHeartbeats 4000000 in
set_option maxRecDepth 100000 in
theorem lp_X8_plans_28 {p : Program} {l : Launch} {e : Env} {s : State} {m : MethodId} {args : Array Value} {below : List Frame} {meth : Method} {c : Code} {D : va_G} {cy : Nat → ClassId} {sz : Nat} {H0 : Heap} {b0 : Nat} {k : Int32 → Mm → Option ((Int32) × Mm)} {res : (Int32) × Mm} (hr : meth.sig.returnType = (some .boolean)) (hlk : meth.locks = false) (E : EE p s m args c cX8_plans 5 RX8 D cy) : ∀ (n : Nat) (a1 : Int32) (u : Mm) (H : Heap) (locs : List Loc) (ls : Array Slot), MM D cy sz H0 u H locs → lv_has ls 5 [(0, .ref (sz + b0)), (1, .int a1)] → L_X8_plans_28 b0 k n a1 u = some res → (∀ (a1 : Int32) (u : Mm) (H : Heap) (locs : List Loc) (ls : Array Slot), MM D cy sz H0 u H locs → lv_has ls 5 [(0, .ref (sz + b0)), (1, .int a1)] → k a1 u = some res → W p l e rm_X8_plans s m args below meth c H locs 0 0 (MQ below (Post D cy sz H0 (some (.int res.1)) res.2) args s 0 0 (fun q => sz ≤ q)) (F0 m 75 ls [])) → W p l e rm_X8_plans s m args below meth c H locs 0 0 (MQ below (Post D cy sz H0 (some (.int res.1)) res.2) args s 0 0 (fun q => sz ≤ q)) (F0 m 28 ls []) := by
  obtain ⟨hx, hb, hml, hown, hts, hKK⟩ := id E
  intro n
  induction n with
  | zero => intros; rename_i h _; cases h
  | succ n ih =>
    intro a1 u H locs ls hM hl h hk
    rw [L_X8_plans_28] at h
    refine lv_iload_n hx hb dX8_plans_28 rfl (lv_at hl 1 rfl) ?_
    refine lv_aload_n hx hb dX8_plans_29 rfl (lv_at hl 0 rfl) ?_
    obtain ⟨ok10, h⟩ := k_gd h
    refine gs_X8_118 E hM ok10 dX8_plans_30 ?_
    refine lv_icmp_ge (tgt := 75) hx hb dX8_plans_33 (by decide) (fun c11 => ?_) (fun c11 => ?_)
    · replace h := (k_if h).1 c11
      exact hk a1 u H locs ls hM (lv_sub hl [0, 1] rfl) h
    · replace h := (k_if h).2 c11
      refine lv_aload_n hx hb dX8_plans_36 rfl (lv_at hl 0 rfl) ?_
      refine gs_X8_78 E hM ok10 dX8_plans_37 (fun x12 hxx12 => ?_)
      replace h := k_bb h x12 hxx12.symm
      refine lv_iload_n hx hb dX8_plans_40 rfl (lv_at hl 1 rfl) ?_
      refine lv_aload_n hx hb dX8_plans_41 rfl (lv_at hl 0 rfl) ?_
      refine gs_X8_54 E hM ok10 dX8_plans_42 (fun x13 hxx13 => ?_)
      replace h := k_bb h x13 hxx13.symm
      refine lv_iload_n hx hb dX8_plans_45 rfl (lv_at hl 1 rfl) ?_
      rcases x13 with _ | k14
      · cases h
      rw [cs_s] at h
      obtain ⟨ok15, h⟩ := k_gd h
      refine m_iald E hM ok15 dX8_plans_46 ?_
      rcases x12 with _ | k16
      · cases h
      rw [cs_s] at h
      obtain ⟨ok17, h⟩ := k_gd h
      refine m_iast E hM ok17 dX8_plans_47 (fun H locs hM => ?_)
      refine lv_aload_n hx hb dX8_plans_48 rfl (lv_at hl 0 rfl) ?_
      refine gs_X8_54 E hM ok10 dX8_plans_49 (fun x18 hxx18 => ?_)
      replace h := k_bb h x18 hxx18.symm
      refine lv_iload_n hx hb dX8_plans_52 rfl (lv_at hl 1 rfl) ?_
      rcases x18 with _ | k19
      · cases h
      rw [cs_s] at h
      obtain ⟨ok20, h⟩ := k_gd h
      refine m_iald E hM ok20 dX8_plans_53 ?_
      refine lv_if_lt (tgt := 69) hx hb dX8_plans_54 (by decide) (fun c21 => ?_) (fun c21 => ?_)
      · replace h := (k_if h).1 c21
        obtain ⟨v22, hvv22⟩ : ∃ y : Int32, y = a1 + (1) := ⟨_, rfl⟩
        replace h := k_bb h v22 hvv22
        refine lv_iinc (v := v22) (lv' := [(1, .int v22), (0, .ref (sz + b0))]) hx hb dX8_plans_69 hl (k := 1) rfl (by rw [hvv22]; rfl) (by decide) (by first | rfl | simp [rv_cat, cat_i, cat_l, cat_r, cat_n]) (fun ls hl => ?_)
        refine lv_goto (tgt := 28) hx hb dX8_plans_72 (by decide) ?_
        exact ih v22 (sI u k16 (Int32.toNatClampNeg a1) (gI u k14 (Int32.toNatClampNeg a1))) H locs ls hM (lv_sub hl [1, 0] rfl) h hk
      · replace h := (k_if h).2 c21
        refine lv_aload_n hx hb dX8_plans_57 rfl (lv_at hl 0 rfl) ?_
        refine gs_X8_75 E hM ok10 dX8_plans_58 (fun x23 hxx23 => ?_)
        replace h := k_bb h x23 hxx23.symm
        refine lv_aload_n hx hb dX8_plans_61 rfl (lv_at hl 0 rfl) ?_
        refine gs_X8_54 E hM ok10 dX8_plans_62 (fun x24 hxx24 => ?_)
        replace h := k_bb h x24 hxx24.symm
        refine lv_iload_n hx hb dX8_plans_65 rfl (lv_at hl 1 rfl) ?_
        rcases x24 with _ | k25
        · cases h
        rw [cs_s] at h
        obtain ⟨ok26, h⟩ := k_gd h
        refine m_iald E hM ok26 dX8_plans_66 ?_
        refine lv_iload_n hx hb dX8_plans_67 rfl (lv_at hl 1 rfl) ?_
        rcases x23 with _ | k27
        · cases h
        rw [cs_s] at h
        obtain ⟨ok28, h⟩ := k_gd h
        refine m_iast E hM ok28 dX8_plans_68 (fun H locs hM => ?_)
        obtain ⟨v29, hvv29⟩ : ∃ y : Int32, y = a1 + (1) := ⟨_, rfl⟩
        replace h := k_bb h v29 hvv29
        refine lv_iinc (v := v29) (lv' := [(1, .int v29), (0, .ref (sz + b0))]) hx hb dX8_plans_69 hl (k := 1) rfl (by rw [hvv29]; rfl) (by decide) (by first | rfl | simp [rv_cat, cat_i, cat_l, cat_r, cat_n]) (fun ls hl => ?_)
        refine lv_goto (tgt := 28) hx hb dX8_plans_72 (by decide) ?_
        exact ih v29 (sI (sI u k16 (Int32.toNatClampNeg a1) (gI u k14 (Int32.toNatClampNeg a1))) k27 (Int32.toNatClampNeg (gI (sI u k16 (Int32.toNatClampNeg a1) (gI u k14 (Int32.toNatClampNeg a1))) k25 (Int32.toNatClampNeg a1))) a1) H locs ls hM (lv_sub hl [1, 0] rfl) h hk

def L_X8_plans_79 (b0 : Nat) (u : Mm) (k : Int32 → Int32 → Option ((Int32) × Mm)) : Nat → Int32 → Int32 → Option ((Int32) × Mm)
  | 0, _, _ => none
  | n + 1, a1, a2 => gd (okO u b0 8) ((if (gI u b0 7) ≤ a2 then k a1 a2 else bb (gR u b0 27) (fun x34 => cs x34 none (fun k35 => gd (okA u k35 9 a2) ((if (gI u k35 (Int32.toNatClampNeg a2)) < 0 then bb (a2 + (1)) (fun v38 => L_X8_plans_79 b0 u k n a1 v38) else bb (gR u b0 19) (fun x39 => cs x39 none (fun k40 => gd (okA u k40 9 a2) ((if 0 ≤ (gI u k40 (Int32.toNatClampNeg a2)) then bb (gR u b0 26) (fun x43 => bb (gR u b0 19) (fun x44 => cs x44 none (fun k45 => gd (okA u k45 9 a2) (cs x43 none (fun k47 => gd (okA u k47 9 (gI u k45 (Int32.toNatClampNeg a2))) (bb ((gI u k47 (Int32.toNatClampNeg (gI u k45 (Int32.toNatClampNeg a2))))) (fun v49 => (if v49 < 0 then bd (f_X8_isAway b0 a2 u) (fun w51 => (if w51 = 0 then bb ((a1 + (0 : Int32))) (fun v53 => bb (a2 + (1)) (fun v54 => L_X8_plans_79 b0 u k n v53 v54)) else bb ((a1 + (1 : Int32))) (fun v55 => bb (a2 + (1)) (fun v56 => L_X8_plans_79 b0 u k n v55 v56)))) else bb (gR u b0 19) (fun x57 => cs x57 none (fun k58 => gd (okA u k58 9 v49) ((if 0 ≤ (gI u k58 (Int32.toNatClampNeg v49)) then bd (f_X8_isAway b0 a2 u) (fun w61 => (if w61 = 0 then bb ((a1 + (0 : Int32))) (fun v63 => bb (a2 + (1)) (fun v64 => L_X8_plans_79 b0 u k n v63 v64)) else bb ((a1 + (1 : Int32))) (fun v65 => bb (a2 + (1)) (fun v66 => L_X8_plans_79 b0 u k n v65 v66)))) else some ((0 : Int32), u))))))))))))) else bb (a2 + (1)) (fun v67 => L_X8_plans_79 b0 u k n a1 v67)))))))))))
set_option maxHeartbeats 4000000 in
set_option maxRecDepth 100000 in
theorem lp_X8_plans_79 {p : Program} {l : Launch} {e : Env} {s : State} {m : MethodId} {args : Array Value} {below : List Frame} {meth : Method} {c : Code} {D : va_G} {cy : Nat → ClassId} {sz : Nat} {H0 : Heap} {b0 : Nat} {u : Mm} {k : Int32 → Int32 → Option ((Int32) × Mm)} {res : (Int32) × Mm} (hr : meth.sig.returnType = (some .boolean)) (hlk : meth.locks = false) (E : EE p s m args c cX8_plans 5 RX8 D cy) : ∀ (n : Nat) (a1 : Int32) (a2 : Int32) (H : Heap) (locs : List Loc) (ls : Array Slot), MM D cy sz H0 u H locs → lv_has ls 5 [(0, .ref (sz + b0)), (1, .int a1), (2, .int a2)] → L_X8_plans_79 b0 u k n a1 a2 = some res → (∀ (a1 : Int32) (a2 : Int32) (H : Heap) (locs : List Loc) (ls : Array Slot), MM D cy sz H0 u H locs → lv_has ls 5 [(0, .ref (sz + b0)), (1, .int a1), (2, .int a2)] → k a1 a2 = some res → W p l e rm_X8_plans s m args below meth c H locs 0 0 (MQ below (Post D cy sz H0 (some (.int res.1)) res.2) args s 0 0 (fun q => sz ≤ q)) (F0 m 157 ls [])) → W p l e rm_X8_plans s m args below meth c H locs 0 0 (MQ below (Post D cy sz H0 (some (.int res.1)) res.2) args s 0 0 (fun q => sz ≤ q)) (F0 m 79 ls []) := by
  obtain ⟨hx, hb, hml, hown, hts, hKK⟩ := id E
  intro n
  induction n with
  | zero => intros; rename_i h _; cases h
  | succ n ih =>
    intro a1 a2 H locs ls hM hl h hk
    rw [L_X8_plans_79] at h
    refine lv_iload_n hx hb dX8_plans_79 rfl (lv_at hl 2 rfl) ?_
    refine lv_aload_n hx hb dX8_plans_80 rfl (lv_at hl 0 rfl) ?_
    obtain ⟨ok32, h⟩ := k_gd h
    refine gs_X8_118 E hM ok32 dX8_plans_81 ?_
    refine lv_icmp_ge (tgt := 157) hx hb dX8_plans_84 (by decide) (fun c33 => ?_) (fun c33 => ?_)
    · replace h := (k_if h).1 c33
      exact hk a1 a2 H locs ls hM (lv_sub hl [0, 1, 2] rfl) h
    · replace h := (k_if h).2 c33
      refine lv_aload_n hx hb dX8_plans_87 rfl (lv_at hl 0 rfl) ?_
      refine gs_X8_78 E hM ok32 dX8_plans_88 (fun x34 hxx34 => ?_)
      replace h := k_bb h x34 hxx34.symm
      refine lv_iload_n hx hb dX8_plans_91 rfl (lv_at hl 2 rfl) ?_
      rcases x34 with _ | k35
      · cases h
      rw [cs_s] at h
      obtain ⟨ok36, h⟩ := k_gd h
      refine m_iald E hM ok36 dX8_plans_92 ?_
      refine lv_if_lt (tgt := 151) hx hb dX8_plans_93 (by decide) (fun c37 => ?_) (fun c37 => ?_)
      · replace h := (k_if h).1 c37
        obtain ⟨v38, hvv38⟩ : ∃ y : Int32, y = a2 + (1) := ⟨_, rfl⟩
        replace h := k_bb h v38 hvv38
        refine lv_iinc (v := v38) (lv' := [(2, .int v38), (0, .ref (sz + b0)), (1, .int a1)]) hx hb dX8_plans_151 hl (k := 2) rfl (by rw [hvv38]; rfl) (by decide) (by first | rfl | simp [rv_cat, cat_i, cat_l, cat_r, cat_n]) (fun ls hl => ?_)
        refine lv_goto (tgt := 79) hx hb dX8_plans_154 (by decide) ?_
        exact ih a1 v38 H locs ls hM (lv_sub hl [1, 2, 0] rfl) h hk
      · replace h := (k_if h).2 c37
        refine lv_aload_n hx hb dX8_plans_96 rfl (lv_at hl 0 rfl) ?_
        refine gs_X8_57 E hM ok32 dX8_plans_97 (fun x39 hxx39 => ?_)
        replace h := k_bb h x39 hxx39.symm
        refine lv_iload_n hx hb dX8_plans_100 rfl (lv_at hl 2 rfl) ?_
        rcases x39 with _ | k40
        · cases h
        rw [cs_s] at h
        obtain ⟨ok41, h⟩ := k_gd h
        refine m_iald E hM ok41 dX8_plans_101 ?_
        refine lv_if_ge (tgt := 108) hx hb dX8_plans_102 (by decide) (fun c42 => ?_) (fun c42 => ?_)
        · replace h := (k_if h).1 c42
          refine lv_aload_n hx hb dX8_plans_108 rfl (lv_at hl 0 rfl) ?_
          refine gs_X8_75 E hM ok32 dX8_plans_109 (fun x43 hxx43 => ?_)
          replace h := k_bb h x43 hxx43.symm
          refine lv_aload_n hx hb dX8_plans_112 rfl (lv_at hl 0 rfl) ?_
          refine gs_X8_57 E hM ok32 dX8_plans_113 (fun x44 hxx44 => ?_)
          replace h := k_bb h x44 hxx44.symm
          refine lv_iload_n hx hb dX8_plans_116 rfl (lv_at hl 2 rfl) ?_
          rcases x44 with _ | k45
          · cases h
          rw [cs_s] at h
          obtain ⟨ok46, h⟩ := k_gd h
          refine m_iald E hM ok46 dX8_plans_117 ?_
          rcases x43 with _ | k47
          · cases h
          rw [cs_s] at h
          obtain ⟨ok48, h⟩ := k_gd h
          refine m_iald E hM ok48 dX8_plans_118 ?_
          refine lv_topi (fun v49 hvv49 => ?_)
          replace h := k_bb h v49 hvv49
          refine lv_istore_n (i := 3) (lv' := [(3, .int v49), (0, .ref (sz + b0)), (1, .int a1), (2, .int a2)]) hx hb dX8_plans_119 rfl hl (by decide) (by first | rfl | simp [rv_cat, cat_i, cat_l, cat_r, cat_n]) (fun ls hl => ?_)
          refine lv_iload_n hx hb dX8_plans_120 rfl (lv_at hl 0 rfl) ?_
          refine lv_if_lt (tgt := 135) hx hb dX8_plans_121 (by decide) (fun c50 => ?_) (fun c50 => ?_)
          · replace h := (k_if h).1 c50
            refine lv_iload_n hx hb dX8_plans_135 rfl (lv_at hl 2 rfl) ?_
            refine lv_aload_n hx hb dX8_plans_136 rfl (lv_at hl 1 rfl) ?_
            refine lv_iload_n hx hb dX8_plans_137 rfl (lv_at hl 3 rfl) ?_
            obtain ⟨w51, hzw51, h⟩ := k_bd h
            refine m_callV (C := RX8) (T := TX8) (N := 33) (ci := 8) (n := 1) (As := [.int a2]) (rest := [.int a1]) (st1 := (.int w51 :: [.int a1])) E hM hl.1 ok32 (by decide) rfl rfl (c_X8_isAway l D cy sz H0 u b0 a2 hzw51) wl_X8_189 wm_X8_isAway ws_X8_isAway wi_X8 wd_X8_isAway rfl rfl (by decide +kernel) ⟨by decide, by decide⟩ rfl rfl (by first | exact Nat.le_of_ble_eq_true rfl | simp [rv_cat, cat_i, cat_l, cat_r, cat_n]) dX8_plans_138 ⟨by decide, by decide⟩ rfl (fun H locs hM => ?_)
            refine lv_if_eq (tgt := 148) hx hb dX8_plans_141 (by decide) (fun c52 => ?_) (fun c52 => ?_)
            · replace h := (k_if h).1 c52
              refine lv_iconst (v := 0) hx hb dX8_plans_148 (by decide) ?_
              refine lv_iadd hx hb dX8_plans_149 ?_
              refine lv_topi (fun v53 hvv53 => ?_)
              replace h := k_bb h v53 hvv53
              refine lv_istore_n (i := 1) (lv' := [(1, .int v53), (3, .int v49), (0, .ref (sz + b0)), (2, .int a2)]) hx hb dX8_plans_150 rfl hl (by decide) (by first | rfl | simp [rv_cat, cat_i, cat_l, cat_r, cat_n]) (fun ls hl => ?_)
              obtain ⟨v54, hvv54⟩ : ∃ y : Int32, y = a2 + (1) := ⟨_, rfl⟩
              replace h := k_bb h v54 hvv54
              refine lv_iinc (v := v54) (lv' := [(2, .int v54), (1, .int v53), (3, .int v49), (0, .ref (sz + b0))]) hx hb dX8_plans_151 hl (k := 3) rfl (by rw [hvv54]; rfl) (by decide) (by first | rfl | simp [rv_cat, cat_i, cat_l, cat_r, cat_n]) (fun ls hl => ?_)
              refine lv_goto (tgt := 79) hx hb dX8_plans_154 (by decide) ?_
              exact ih v53 v54 H locs ls hM (lv_sub hl [3, 1, 0] rfl) h hk
            · replace h := (k_if h).2 c52
              refine lv_iconst (v := 1) hx hb dX8_plans_144 (by decide) ?_
              refine lv_goto (tgt := 149) hx hb dX8_plans_145 (by decide) ?_
              refine lv_iadd hx hb dX8_plans_149 ?_
              refine lv_topi (fun v55 hvv55 => ?_)
              replace h := k_bb h v55 hvv55
              refine lv_istore_n (i := 1) (lv' := [(1, .int v55), (3, .int v49), (0, .ref (sz + b0)), (2, .int a2)]) hx hb dX8_plans_150 rfl hl (by decide) (by first | rfl | simp [rv_cat, cat_i, cat_l, cat_r, cat_n]) (fun ls hl => ?_)
              obtain ⟨v56, hvv56⟩ : ∃ y : Int32, y = a2 + (1) := ⟨_, rfl⟩
              replace h := k_bb h v56 hvv56
              refine lv_iinc (v := v56) (lv' := [(2, .int v56), (1, .int v55), (3, .int v49), (0, .ref (sz + b0))]) hx hb dX8_plans_151 hl (k := 3) rfl (by rw [hvv56]; rfl) (by decide) (by first | rfl | simp [rv_cat, cat_i, cat_l, cat_r, cat_n]) (fun ls hl => ?_)
              refine lv_goto (tgt := 79) hx hb dX8_plans_154 (by decide) ?_
              exact ih v55 v56 H locs ls hM (lv_sub hl [3, 1, 0] rfl) h hk
          · replace h := (k_if h).2 c50
            refine lv_aload_n hx hb dX8_plans_124 rfl (lv_at hl 1 rfl) ?_
            refine gs_X8_57 E hM ok32 dX8_plans_125 (fun x57 hxx57 => ?_)
            replace h := k_bb h x57 hxx57.symm
            refine lv_iload_n hx hb dX8_plans_128 rfl (lv_at hl 0 rfl) ?_
            rcases x57 with _ | k58
            · cases h
            rw [cs_s] at h
            obtain ⟨ok59, h⟩ := k_gd h
            refine m_iald E hM ok59 dX8_plans_129 ?_
            refine lv_if_ge (tgt := 135) hx hb dX8_plans_130 (by decide) (fun c60 => ?_) (fun c60 => ?_)
            · replace h := (k_if h).1 c60
              refine lv_iload_n hx hb dX8_plans_135 rfl (lv_at hl 2 rfl) ?_
              refine lv_aload_n hx hb dX8_plans_136 rfl (lv_at hl 1 rfl) ?_
              refine lv_iload_n hx hb dX8_plans_137 rfl (lv_at hl 3 rfl) ?_
              obtain ⟨w61, hzw61, h⟩ := k_bd h
              refine m_callV (C := RX8) (T := TX8) (N := 33) (ci := 8) (n := 1) (As := [.int a2]) (rest := [.int a1]) (st1 := (.int w61 :: [.int a1])) E hM hl.1 ok32 (by decide) rfl rfl (c_X8_isAway l D cy sz H0 u b0 a2 hzw61) wl_X8_189 wm_X8_isAway ws_X8_isAway wi_X8 wd_X8_isAway rfl rfl (by decide +kernel) ⟨by decide, by decide⟩ rfl rfl (by first | exact Nat.le_of_ble_eq_true rfl | simp [rv_cat, cat_i, cat_l, cat_r, cat_n]) dX8_plans_138 ⟨by decide, by decide⟩ rfl (fun H locs hM => ?_)
              refine lv_if_eq (tgt := 148) hx hb dX8_plans_141 (by decide) (fun c62 => ?_) (fun c62 => ?_)
              · replace h := (k_if h).1 c62
                refine lv_iconst (v := 0) hx hb dX8_plans_148 (by decide) ?_
                refine lv_iadd hx hb dX8_plans_149 ?_
                refine lv_topi (fun v63 hvv63 => ?_)
                replace h := k_bb h v63 hvv63
                refine lv_istore_n (i := 1) (lv' := [(1, .int v63), (3, .int v49), (0, .ref (sz + b0)), (2, .int a2)]) hx hb dX8_plans_150 rfl hl (by decide) (by first | rfl | simp [rv_cat, cat_i, cat_l, cat_r, cat_n]) (fun ls hl => ?_)
                obtain ⟨v64, hvv64⟩ : ∃ y : Int32, y = a2 + (1) := ⟨_, rfl⟩
                replace h := k_bb h v64 hvv64
                refine lv_iinc (v := v64) (lv' := [(2, .int v64), (1, .int v63), (3, .int v49), (0, .ref (sz + b0))]) hx hb dX8_plans_151 hl (k := 3) rfl (by rw [hvv64]; rfl) (by decide) (by first | rfl | simp [rv_cat, cat_i, cat_l, cat_r, cat_n]) (fun ls hl => ?_)
                refine lv_goto (tgt := 79) hx hb dX8_plans_154 (by decide) ?_
                exact ih v63 v64 H locs ls hM (lv_sub hl [3, 1, 0] rfl) h hk
              · replace h := (k_if h).2 c62
                refine lv_iconst (v := 1) hx hb dX8_plans_144 (by decide) ?_
                refine lv_goto (tgt := 149) hx hb dX8_plans_145 (by decide) ?_
                refine lv_iadd hx hb dX8_plans_149 ?_
                refine lv_topi (fun v65 hvv65 => ?_)
                replace h := k_bb h v65 hvv65
                refine lv_istore_n (i := 1) (lv' := [(1, .int v65), (3, .int v49), (0, .ref (sz + b0)), (2, .int a2)]) hx hb dX8_plans_150 rfl hl (by decide) (by first | rfl | simp [rv_cat, cat_i, cat_l, cat_r, cat_n]) (fun ls hl => ?_)
                obtain ⟨v66, hvv66⟩ : ∃ y : Int32, y = a2 + (1) := ⟨_, rfl⟩
                replace h := k_bb h v66 hvv66
                refine lv_iinc (v := v66) (lv' := [(2, .int v66), (1, .int v65), (3, .int v49), (0, .ref (sz + b0))]) hx hb dX8_plans_151 hl (k := 3) rfl (by rw [hvv66]; rfl) (by decide) (by first | rfl | simp [rv_cat, cat_i, cat_l, cat_r, cat_n]) (fun ls hl => ?_)
                refine lv_goto (tgt := 79) hx hb dX8_plans_154 (by decide) ?_
                exact ih v65 v66 H locs ls hM (lv_sub hl [3, 1, 0] rfl) h hk
            · replace h := (k_if h).2 c60
              refine lv_iconst (v := 0) hx hb dX8_plans_133 (by decide) ?_
              cases h
              exact m_zret hx hb hr hlk hM (by decide) rfl rfl dX8_plans_134
        · replace h := (k_if h).2 c42
          refine lv_goto (tgt := 151) hx hb dX8_plans_105 (by decide) ?_
          obtain ⟨v67, hvv67⟩ : ∃ y : Int32, y = a2 + (1) := ⟨_, rfl⟩
          replace h := k_bb h v67 hvv67
          refine lv_iinc (v := v67) (lv' := [(2, .int v67), (0, .ref (sz + b0)), (1, .int a1)]) hx hb dX8_plans_151 hl (k := 2) rfl (by rw [hvv67]; rfl) (by decide) (by first | rfl | simp [rv_cat, cat_i, cat_l, cat_r, cat_n]) (fun ls hl => ?_)
          refine lv_goto (tgt := 79) hx hb dX8_plans_154 (by decide) ?_
          exact ih a1 v67 H locs ls hM (lv_sub hl [1, 2, 0] rfl) h hk

def L_X8_plans_173 (b0 : Nat) (b1 : Int32) (u : Mm) (k : Int32 → Int32 → Int32 → Option ((Int32) × Mm)) : Nat → Int32 → Int32 → Int32 → Option ((Int32) × Mm)
  | 0, _, _, _ => none
  | n + 1, a2, a3, a4 => (if a4 < 0 then k a2 a3 a4 else gd (okO u b0 8) (bd (f_X8_isAway b0 a4 u) (fun w75 => (if w75 = 0 then bb (a4 + (-1)) (fun v86 => L_X8_plans_173 b0 b1 u k n a2 a3 v86) else bb (gR u b0 26) (fun x77 => bb (gR u b0 19) (fun x78 => cs x78 none (fun k79 => gd (okA u k79 9 a4) (cs x77 none (fun k81 => gd (okA u k81 9 (gI u k79 (Int32.toNatClampNeg a4))) ((if 0 ≤ (gI u k81 (Int32.toNatClampNeg (gI u k79 (Int32.toNatClampNeg a4)))) then bb (a4 + (-1)) (fun v84 => L_X8_plans_173 b0 b1 u k n a2 a4 v84) else bb (a4 + (-1)) (fun v85 => L_X8_plans_173 b0 b1 u k n a4 a4 v85))))))))))))
set_option maxHeartbeats 4000000 in
set_option maxRecDepth 100000 in
theorem lp_X8_plans_173 {p : Program} {l : Launch} {e : Env} {s : State} {m : MethodId} {args : Array Value} {below : List Frame} {meth : Method} {c : Code} {D : va_G} {cy : Nat → ClassId} {sz : Nat} {H0 : Heap} {b0 : Nat} {b1 : Int32} {u : Mm} {k : Int32 → Int32 → Int32 → Option ((Int32) × Mm)} {res : (Int32) × Mm} (hr : meth.sig.returnType = (some .boolean)) (hlk : meth.locks = false) (E : EE p s m args c cX8_plans 5 RX8 D cy) : ∀ (n : Nat) (a2 : Int32) (a3 : Int32) (a4 : Int32) (H : Heap) (locs : List Loc) (ls : Array Slot), MM D cy sz H0 u H locs → lv_has ls 5 [(0, .ref (sz + b0)), (1, .int b1), (2, .int a2), (3, .int a3), (4, .int a4)] → L_X8_plans_173 b0 b1 u k n a2 a3 a4 = some res → (∀ (a2 : Int32) (a3 : Int32) (a4 : Int32) (H : Heap) (locs : List Loc) (ls : Array Slot), MM D cy sz H0 u H locs → lv_has ls 5 [(0, .ref (sz + b0)), (1, .int b1), (2, .int a2), (3, .int a3), (4, .int a4)] → k a2 a3 a4 = some res → W p l e rm_X8_plans s m args below meth c H locs 0 0 (MQ below (Post D cy sz H0 (some (.int res.1)) res.2) args s 0 0 (fun q => sz ≤ q)) (F0 m 217 ls [])) → W p l e rm_X8_plans s m args below meth c H locs 0 0 (MQ below (Post D cy sz H0 (some (.int res.1)) res.2) args s 0 0 (fun q => sz ≤ q)) (F0 m 173 ls []) := by
  obtain ⟨hx, hb, hml, hown, hts, hKK⟩ := id E
  intro n
  induction n with
  | zero => intros; rename_i h _; cases h
  | succ n ih =>
    intro a2 a3 a4 H locs ls hM hl h hk
    rw [L_X8_plans_173] at h
    refine lv_iload hx hb dX8_plans_173 (lv_at hl 4 rfl) ?_
    refine lv_if_lt (tgt := 217) hx hb dX8_plans_175 (by decide) (fun c73 => ?_) (fun c73 => ?_)
    · replace h := (k_if h).1 c73
      exact hk a2 a3 a4 H locs ls hM (lv_sub hl [0, 1, 2, 3, 4] rfl) h
    · replace h := (k_if h).2 c73
      refine lv_aload_n hx hb dX8_plans_178 rfl (lv_at hl 0 rfl) ?_
      refine lv_iload hx hb dX8_plans_179 (lv_at hl 4 rfl) ?_
      obtain ⟨ok74, h⟩ := k_gd h
      obtain ⟨w75, hzw75, h⟩ := k_bd h
      refine m_callV (C := RX8) (T := TX8) (N := 33) (ci := 8) (n := 1) (As := [.int a4]) (rest := []) (st1 := (.int w75 :: [])) E hM hl.1 ok74 (by decide) rfl rfl (c_X8_isAway l D cy sz H0 u b0 a4 hzw75) wl_X8_189 wm_X8_isAway ws_X8_isAway wi_X8 wd_X8_isAway rfl rfl (by decide +kernel) ⟨by decide, by decide⟩ rfl rfl (by first | exact Nat.le_of_ble_eq_true rfl | simp [rv_cat, cat_i, cat_l, cat_r, cat_n]) dX8_plans_181 ⟨by decide, by decide⟩ rfl (fun H locs hM => ?_)
      refine lv_if_ne (tgt := 190) hx hb dX8_plans_184 (by decide) (fun c76 => ?_) (fun c76 => ?_)
      · replace h := (k_if h).2 c76
        refine lv_iload hx hb dX8_plans_190 (lv_at hl 4 rfl) ?_
        refine lv_istore_n (i := 3) (lv' := [(3, .int a4), (0, .ref (sz + b0)), (1, .int b1), (2, .int a2), (4, .int a4)]) hx hb dX8_plans_192 rfl hl (by decide) (by first | rfl | simp [rv_cat, cat_i, cat_l, cat_r, cat_n]) (fun ls hl => ?_)
        refine lv_aload_n hx hb dX8_plans_193 rfl (lv_at hl 1 rfl) ?_
        refine gs_X8_75 E hM ok74 dX8_plans_194 (fun x77 hxx77 => ?_)
        replace h := k_bb h x77 hxx77.symm
        refine lv_aload_n hx hb dX8_plans_197 rfl (lv_at hl 1 rfl) ?_
        refine gs_X8_57 E hM ok74 dX8_plans_198 (fun x78 hxx78 => ?_)
        replace h := k_bb h x78 hxx78.symm
        refine lv_iload hx hb dX8_plans_201 (lv_at hl 4 rfl) ?_
        rcases x78 with _ | k79
        · cases h
        rw [cs_s] at h
        obtain ⟨ok80, h⟩ := k_gd h
        refine m_iald E hM ok80 dX8_plans_203 ?_
        rcases x77 with _ | k81
        · cases h
        rw [cs_s] at h
        obtain ⟨ok82, h⟩ := k_gd h
        refine m_iald E hM ok82 dX8_plans_204 ?_
        refine lv_if_ge (tgt := 211) hx hb dX8_plans_205 (by decide) (fun c83 => ?_) (fun c83 => ?_)
        · replace h := (k_if h).1 c83
          obtain ⟨v84, hvv84⟩ : ∃ y : Int32, y = a4 + (-1) := ⟨_, rfl⟩
          replace h := k_bb h v84 hvv84
          refine lv_iinc (v := v84) (lv' := [(4, .int v84), (3, .int a4), (0, .ref (sz + b0)), (1, .int b1), (2, .int a2)]) hx hb dX8_plans_211 hl (k := 4) rfl (by rw [hvv84]; rfl) (by decide) (by first | rfl | simp [rv_cat, cat_i, cat_l, cat_r, cat_n]) (fun ls hl => ?_)
          refine lv_goto (tgt := 173) hx hb dX8_plans_214 (by decide) ?_
          exact ih a2 a4 v84 H locs ls hM (lv_sub hl [2, 3, 4, 1, 0] rfl) h hk
        · replace h := (k_if h).2 c83
          refine lv_iload hx hb dX8_plans_208 (lv_at hl 4 rfl) ?_
          refine lv_istore_n (i := 2) (lv' := [(2, .int a4), (3, .int a4), (0, .ref (sz + b0)), (1, .int b1), (4, .int a4)]) hx hb dX8_plans_210 rfl hl (by decide) (by first | rfl | simp [rv_cat, cat_i, cat_l, cat_r, cat_n]) (fun ls hl => ?_)
          obtain ⟨v85, hvv85⟩ : ∃ y : Int32, y = a4 + (-1) := ⟨_, rfl⟩
          replace h := k_bb h v85 hvv85
          refine lv_iinc (v := v85) (lv' := [(4, .int v85), (2, .int a4), (3, .int a4), (0, .ref (sz + b0)), (1, .int b1)]) hx hb dX8_plans_211 hl (k := 4) rfl (by rw [hvv85]; rfl) (by decide) (by first | rfl | simp [rv_cat, cat_i, cat_l, cat_r, cat_n]) (fun ls hl => ?_)
          refine lv_goto (tgt := 173) hx hb dX8_plans_214 (by decide) ?_
          exact ih a4 a4 v85 H locs ls hM (lv_sub hl [3, 4, 1, 2, 0] rfl) h hk
      · replace h := (k_if h).1 c76
        refine lv_goto (tgt := 211) hx hb dX8_plans_187 (by decide) ?_
        obtain ⟨v86, hvv86⟩ : ∃ y : Int32, y = a4 + (-1) := ⟨_, rfl⟩
        replace h := k_bb h v86 hvv86
        refine lv_iinc (v := v86) (lv' := [(4, .int v86), (0, .ref (sz + b0)), (1, .int b1), (2, .int a2), (3, .int a3)]) hx hb dX8_plans_211 hl (k := 4) rfl (by rw [hvv86]; rfl) (by decide) (by first | rfl | simp [rv_cat, cat_i, cat_l, cat_r, cat_n]) (fun ls hl => ?_)
        refine lv_goto (tgt := 173) hx hb dX8_plans_214 (by decide) ?_
        exact ih a2 a3 v86 H locs ls hM (lv_sub hl [1, 2, 3, 4, 0] rfl) h hk

def L_X8_plans_241 (b0 : Nat) (b1 : Int32) (b2 : Int32) (b3 : Int32) (u : Mm) (k : Int32 → Option ((Int32) × Mm)) : Nat → Int32 → Option ((Int32) × Mm)
  | 0, _ => none
  | n + 1, a4 => (if (40 : Int32) ≤ a4 then k a4 else gd (okO u b0 8) (bb (gR u b0 26) (fun x93 => cs x93 none (fun k94 => gd (okA u k94 9 a4) ((if (gI u k94 (Int32.toNatClampNeg a4)) < 0 then k a4 else bb (a4 + (1)) (fun v97 => L_X8_plans_241 b0 b1 b2 b3 u k n v97)))))))
set_option maxHeartbeats 4000000 in
set_option maxRecDepth 100000 in
theorem lp_X8_plans_241 {p : Program} {l : Launch} {e : Env} {s : State} {m : MethodId} {args : Array Value} {below : List Frame} {meth : Method} {c : Code} {D : va_G} {cy : Nat → ClassId} {sz : Nat} {H0 : Heap} {b0 : Nat} {b1 : Int32} {b2 : Int32} {b3 : Int32} {u : Mm} {k : Int32 → Option ((Int32) × Mm)} {res : (Int32) × Mm} (hr : meth.sig.returnType = (some .boolean)) (hlk : meth.locks = false) (E : EE p s m args c cX8_plans 5 RX8 D cy) : ∀ (n : Nat) (a4 : Int32) (H : Heap) (locs : List Loc) (ls : Array Slot), MM D cy sz H0 u H locs → lv_has ls 5 [(0, .ref (sz + b0)), (1, .int b1), (2, .int b2), (3, .int b3), (4, .int a4)] → L_X8_plans_241 b0 b1 b2 b3 u k n a4 = some res → (∀ (a4 : Int32) (H : Heap) (locs : List Loc) (ls : Array Slot), MM D cy sz H0 u H locs → lv_has ls 5 [(0, .ref (sz + b0)), (1, .int b1), (2, .int b2), (3, .int b3), (4, .int a4)] → k a4 = some res → W p l e rm_X8_plans s m args below meth c H locs 0 0 (MQ below (Post D cy sz H0 (some (.int res.1)) res.2) args s 0 0 (fun q => sz ≤ q)) (F0 m 264 ls [])) → W p l e rm_X8_plans s m args below meth c H locs 0 0 (MQ below (Post D cy sz H0 (some (.int res.1)) res.2) args s 0 0 (fun q => sz ≤ q)) (F0 m 241 ls []) := by
  obtain ⟨hx, hb, hml, hown, hts, hKK⟩ := id E
  intro n
  induction n with
  | zero => intros; rename_i h _; cases h
  | succ n ih =>
    intro a4 H locs ls hM hl h hk
    rw [L_X8_plans_241] at h
    refine lv_iload hx hb dX8_plans_241 (lv_at hl 4 rfl) ?_
    refine lv_bipush (v := 40) hx hb dX8_plans_243 (by decide) ?_
    refine lv_icmp_ge (tgt := 264) hx hb dX8_plans_245 (by decide) (fun c91 => ?_) (fun c91 => ?_)
    · replace h := (k_if h).1 c91
      exact hk a4 H locs ls hM (lv_sub hl [0, 1, 2, 3, 4] rfl) h
    · replace h := (k_if h).2 c91
      refine lv_aload_n hx hb dX8_plans_248 rfl (lv_at hl 0 rfl) ?_
      obtain ⟨ok92, h⟩ := k_gd h
      refine gs_X8_75 E hM ok92 dX8_plans_249 (fun x93 hxx93 => ?_)
      replace h := k_bb h x93 hxx93.symm
      refine lv_iload hx hb dX8_plans_252 (lv_at hl 4 rfl) ?_
      rcases x93 with _ | k94
      · cases h
      rw [cs_s] at h
      obtain ⟨ok95, h⟩ := k_gd h
      refine m_iald E hM ok95 dX8_plans_254 ?_
      refine lv_if_lt (tgt := 264) hx hb dX8_plans_255 (by decide) (fun c96 => ?_) (fun c96 => ?_)
      · replace h := (k_if h).1 c96
        exact hk a4 H locs ls hM (lv_sub hl [0, 1, 2, 3, 4] rfl) h
      · replace h := (k_if h).2 c96
        obtain ⟨v97, hvv97⟩ : ∃ y : Int32, y = a4 + (1) := ⟨_, rfl⟩
        replace h := k_bb h v97 hvv97
        refine lv_iinc (v := v97) (lv' := [(4, .int v97), (0, .ref (sz + b0)), (1, .int b1), (2, .int b2), (3, .int b3)]) hx hb dX8_plans_258 hl (k := 4) rfl (by rw [hvv97]; rfl) (by decide) (by first | rfl | simp [rv_cat, cat_i, cat_l, cat_r, cat_n]) (fun ls hl => ?_)
        refine lv_goto (tgt := 241) hx hb dX8_plans_261 (by decide) ?_
        exact ih v97 H locs ls hM (lv_sub hl [1, 2, 3, 4, 0] rfl) h hk

def L_X8_plans_157 (b0 : Nat) (k : Int32 → Int32 → Mm → Option ((Int32) × Mm)) : Nat → Int32 → Int32 → Mm → Option ((Int32) × Mm)
  | 0, _, _, _ => none
  | n + 1, a1, a2, u => (if a1 ≤ 0 then k a1 a2 u else gd (okO u b0 8) (bb (((gI u b0 7) - (1 : Int32))) (fun v72 => L_X8_plans_173 b0 a1 u (fun a87 a88 a89 => (if a87 < 0 then L_X8_plans_241 b0 a1 a87 a88 u (fun a98 => (if a98 = (40 : Int32) then some ((0 : Int32), u) else bd (f_X8_take b0 a88 a98 u) (fun w100 => L_X8_plans_157 b0 k n a1 a87 w100))) 1000 (0 : Int32)  else bb (gR u b0 19) (fun x101 => cs x101 none (fun k102 => gd (okA u k102 9 a87) (bd (f_X8_take b0 a87 (gI u k102 (Int32.toNatClampNeg a87)) u) (fun w104 => bb (a1 + (-1)) (fun v105 => L_X8_plans_157 b0 k n v105 a87 w104))))))) 1000 (-1 : Int32) (-1 : Int32) v72 )))
set_option maxHeartbeats 4000000 in
set_option maxRecDepth 100000 in
theorem lp_X8_plans_157 {p : Program} {l : Launch} {e : Env} {s : State} {m : MethodId} {args : Array Value} {below : List Frame} {meth : Method} {c : Code} {D : va_G} {cy : Nat → ClassId} {sz : Nat} {H0 : Heap} {b0 : Nat} {k : Int32 → Int32 → Mm → Option ((Int32) × Mm)} {res : (Int32) × Mm} (hr : meth.sig.returnType = (some .boolean)) (hlk : meth.locks = false) (E : EE p s m args c cX8_plans 5 RX8 D cy) : ∀ (n : Nat) (a1 : Int32) (a2 : Int32) (u : Mm) (H : Heap) (locs : List Loc) (ls : Array Slot), MM D cy sz H0 u H locs → lv_has ls 5 [(0, .ref (sz + b0)), (1, .int a1), (2, .int a2)] → L_X8_plans_157 b0 k n a1 a2 u = some res → (∀ (a1 : Int32) (a2 : Int32) (u : Mm) (H : Heap) (locs : List Loc) (ls : Array Slot), MM D cy sz H0 u H locs → lv_has ls 5 [(0, .ref (sz + b0)), (1, .int a1), (2, .int a2)] → k a1 a2 u = some res → W p l e rm_X8_plans s m args below meth c H locs 0 0 (MQ below (Post D cy sz H0 (some (.int res.1)) res.2) args s 0 0 (fun q => sz ≤ q)) (F0 m 283 ls [])) → W p l e rm_X8_plans s m args below meth c H locs 0 0 (MQ below (Post D cy sz H0 (some (.int res.1)) res.2) args s 0 0 (fun q => sz ≤ q)) (F0 m 157 ls []) := by
  obtain ⟨hx, hb, hml, hown, hts, hKK⟩ := id E
  intro n
  induction n with
  | zero => intros; rename_i h _; cases h
  | succ n ih =>
    intro a1 a2 u H locs ls hM hl h hk
    rw [L_X8_plans_157] at h
    refine lv_iload_n hx hb dX8_plans_157 rfl (lv_at hl 1 rfl) ?_
    refine lv_if_le (tgt := 283) hx hb dX8_plans_158 (by decide) (fun c70 => ?_) (fun c70 => ?_)
    · replace h := (k_if h).1 c70
      exact hk a1 a2 u H locs ls hM (lv_sub hl [0, 1, 2] rfl) h
    · replace h := (k_if h).2 c70
      refine lv_iconst (v := (-1)) hx hb dX8_plans_161 (by decide) ?_
      refine lv_istore_n (i := 2) (lv' := [(2, .int (-1 : Int32)), (0, .ref (sz + b0)), (1, .int a1)]) hx hb dX8_plans_162 rfl hl (by decide) (by first | rfl | simp [rv_cat, cat_i, cat_l, cat_r, cat_n]) (fun ls hl => ?_)
      refine lv_iconst (v := (-1)) hx hb dX8_plans_163 (by decide) ?_
      refine lv_istore_n (i := 3) (lv' := [(3, .int (-1 : Int32)), (2, .int (-1 : Int32)), (0, .ref (sz + b0)), (1, .int a1)]) hx hb dX8_plans_164 rfl hl (by decide) (by first | rfl | simp [rv_cat, cat_i, cat_l, cat_r, cat_n]) (fun ls hl => ?_)
      refine lv_aload_n hx hb dX8_plans_165 rfl (lv_at hl 2 rfl) ?_
      obtain ⟨ok71, h⟩ := k_gd h
      refine gs_X8_118 E hM ok71 dX8_plans_166 ?_
      refine lv_iconst (v := 1) hx hb dX8_plans_169 (by decide) ?_
      refine lv_isub hx hb dX8_plans_170 ?_
      refine lv_topi (fun v72 hvv72 => ?_)
      replace h := k_bb h v72 hvv72
      refine lv_istore (i := 4) (lv' := [(4, .int v72), (3, .int (-1 : Int32)), (2, .int (-1 : Int32)), (0, .ref (sz + b0)), (1, .int a1)]) hx hb dX8_plans_171 hl (by decide) (by first | rfl | simp [rv_cat, cat_i, cat_l, cat_r, cat_n]) (fun ls hl => ?_)
      refine lp_X8_plans_173 hr hlk  E 1000 (-1 : Int32) (-1 : Int32) v72 H locs ls hM (lv_sub hl [3, 4, 2, 1, 0] rfl) h (fun a87 a88 a89 H locs ls hM hl h => ?_)
      refine lv_iload_n hx hb dX8_plans_217 rfl (lv_at hl 2 rfl) ?_
      refine lv_if_lt (tgt := 238) hx hb dX8_plans_218 (by decide) (fun c90 => ?_) (fun c90 => ?_)
      · replace h := (k_if h).1 c90
        refine lv_iconst (v := 0) hx hb dX8_plans_238 (by decide) ?_
        refine lv_istore (i := 4) (lv' := [(4, .int (0 : Int32)), (0, .ref (sz + b0)), (1, .int a1), (2, .int a87), (3, .int a88)]) hx hb dX8_plans_239 hl (by decide) (by first | rfl | simp [rv_cat, cat_i, cat_l, cat_r, cat_n]) (fun ls hl => ?_)
        refine lp_X8_plans_241 hr hlk  E 1000 (0 : Int32) H locs ls hM (lv_sub hl [1, 2, 3, 4, 0] rfl) h (fun a98 H locs ls hM hl h => ?_)
        refine lv_iload hx hb dX8_plans_264 (lv_at hl 4 rfl) ?_
        refine lv_bipush (v := 40) hx hb dX8_plans_266 (by decide) ?_
        refine lv_icmp_ne (tgt := 273) hx hb dX8_plans_268 (by decide) (fun c99 => ?_) (fun c99 => ?_)
        · replace h := (k_if h).2 c99
          refine lv_aload_n hx hb dX8_plans_273 rfl (lv_at hl 0 rfl) ?_
          refine lv_iload_n hx hb dX8_plans_274 rfl (lv_at hl 3 rfl) ?_
          refine lv_iload hx hb dX8_plans_275 (lv_at hl 4 rfl) ?_
          obtain ⟨w100, hzw100, h⟩ := k_bd h
          refine m_callV (C := RX8) (T := TX8) (N := 33) (ci := 8) (n := 2) (As := [.int a88, .int a98]) (rest := []) (st1 := []) E hM hl.1 ok71 (by decide) rfl rfl (c_X8_take l D cy sz H0 u b0 a88 a98 hzw100) wl_X8_192 wm_X8_take ws_X8_take wi_X8 wd_X8_take rfl rfl (by decide +kernel) ⟨by decide, by decide⟩ rfl rfl (by first | exact Nat.le_of_ble_eq_true rfl | simp [rv_cat, cat_i, cat_l, cat_r, cat_n]) dX8_plans_277 ⟨by decide, by decide⟩ rfl (fun H locs hM => ?_)
          refine lv_goto (tgt := 157) hx hb dX8_plans_280 (by decide) ?_
          exact ih a1 a87 w100 H locs ls hM (lv_sub hl [0, 1, 2] rfl) h hk
        · replace h := (k_if h).1 c99
          refine lv_iconst (v := 0) hx hb dX8_plans_271 (by decide) ?_
          cases h
          exact m_zret hx hb hr hlk hM (by decide) rfl rfl dX8_plans_272
      · replace h := (k_if h).2 c90
        refine lv_aload_n hx hb dX8_plans_221 rfl (lv_at hl 0 rfl) ?_
        refine lv_iload_n hx hb dX8_plans_222 rfl (lv_at hl 2 rfl) ?_
        refine lv_aload_n hx hb dX8_plans_223 rfl (lv_at hl 0 rfl) ?_
        refine gs_X8_57 E hM ok71 dX8_plans_224 (fun x101 hxx101 => ?_)
        replace h := k_bb h x101 hxx101.symm
        refine lv_iload_n hx hb dX8_plans_227 rfl (lv_at hl 2 rfl) ?_
        rcases x101 with _ | k102
        · cases h
        rw [cs_s] at h
        obtain ⟨ok103, h⟩ := k_gd h
        refine m_iald E hM ok103 dX8_plans_228 ?_
        obtain ⟨w104, hzw104, h⟩ := k_bd h
        refine m_callV (C := RX8) (T := TX8) (N := 33) (ci := 8) (n := 2) (As := [.int a87, .int (gI u k102 (Int32.toNatClampNeg a87))]) (rest := []) (st1 := []) E hM hl.1 ok71 (by decide) rfl rfl (c_X8_take l D cy sz H0 u b0 a87 (gI u k102 (Int32.toNatClampNeg a87)) hzw104) wl_X8_192 wm_X8_take ws_X8_take wi_X8 wd_X8_take rfl rfl (by decide +kernel) ⟨by decide, by decide⟩ rfl rfl (by first | exact Nat.le_of_ble_eq_true rfl | simp [rv_cat, cat_i, cat_l, cat_r, cat_n]) dX8_plans_229 ⟨by decide, by decide⟩ rfl (fun H locs hM => ?_)
        obtain ⟨v105, hvv105⟩ : ∃ y : Int32, y = a1 + (-1) := ⟨_, rfl⟩
        replace h := k_bb h v105 hvv105
        refine lv_iinc (v := v105) (lv' := [(1, .int v105), (0, .ref (sz + b0)), (2, .int a87), (3, .int a88), (4, .int a89)]) hx hb dX8_plans_232 hl (k := 1) rfl (by rw [hvv105]; rfl) (by decide) (by first | rfl | simp [rv_cat, cat_i, cat_l, cat_r, cat_n]) (fun ls hl => ?_)
        refine lv_goto (tgt := 280) hx hb dX8_plans_235 (by decide) ?_
        refine lv_goto (tgt := 157) hx hb dX8_plans_280 (by decide) ?_
        exact ih v105 a87 w104 H locs ls hM (lv_sub hl [1, 0, 2] rfl) h hk

def f_X8_plans (r : Nat) (u : Mm) : Option ((Int32) × Mm) := gd (okO u r 8) (L_X8_plans_7 r  (fun a8 u9 => L_X8_plans_28 r  (fun a30 u31 => L_X8_plans_79 r u31 (fun a68 a69 => L_X8_plans_157 r  (fun a106 a107 u108 => some ((1 : Int32), u108)) 1000 a68 a69 u31) 1000 (0 : Int32) (0 : Int32) ) 1000 (0 : Int32) u9) 1000 (0 : Int32) (sI u r 31 (0 : Int32)))
set_option maxHeartbeats 4000000 in
set_option maxRecDepth 100000 in
theorem c_X8_plans (l : Launch) (D : va_G) (cy : Nat → ClassId) (sz : Nat) (H0 : Heap) (u : Mm) (r : Nat) {res : (Int32) × Mm} (h : f_X8_plans r u = some res) : Ctr l yX8_plans cX8_plans 5 (some .boolean) rm_X8_plans 0 0 D cy sz H0 u [.ref (sz + r)] (some (.int res.1)) res.2 := by
  refine m_start (lv := [(0, .ref (sz + r))]) (by decide) (by first | exact Nat.le_of_ble_eq_true rfl | simp [lg_sl, rv_cat, cat_i, cat_l, cat_r, cat_n]) (by first | rfl | simp [lv_args, rv_cat, cat_i, cat_l, cat_r, cat_n]) ?_
  intro p e s m below meth c ls E hr hlk hinit hM hl
  obtain ⟨hx, hb, hml, hown, hts, hKK⟩ := id E
  obtain ⟨H, hH⟩ : ∃ H, H = s.heap := ⟨_, rfl⟩
  obtain ⟨locs, hlocs⟩ : ∃ L : List Loc, L = [] := ⟨_, rfl⟩
  rw [← hH, ← hlocs] at hM ⊢
  unfold f_X8_plans at h
  refine lv_aload_n hx hb dX8_plans_0 rfl (lv_at hl 0 rfl) ?_
  refine lv_iconst (v := 0) hx hb dX8_plans_1 (by decide) ?_
  obtain ⟨ok1, h⟩ := k_gd h
  refine ps_X8_186 (v := (0 : Int32)) E hM ok1 dX8_plans_2 (fun H locs hM => ?_)
  refine lv_iconst (v := 0) hx hb dX8_plans_5 (by decide) ?_
  refine lv_istore_n (i := 1) (lv' := [(1, .int (0 : Int32)), (0, .ref (sz + r))]) hx hb dX8_plans_6 rfl hl (by decide) (by first | rfl | simp [rv_cat, cat_i, cat_l, cat_r, cat_n]) (fun ls hl => ?_)
  refine lp_X8_plans_7 hr hlk  E 1000 (0 : Int32) (sI u r 31 (0 : Int32)) H locs ls hM (lv_sub hl [1, 0] rfl) h (fun a8 u9 H locs ls hM hl h => ?_)
  refine lv_iconst (v := 0) hx hb dX8_plans_26 (by decide) ?_
  refine lv_istore_n (i := 1) (lv' := [(1, .int (0 : Int32)), (0, .ref (sz + r))]) hx hb dX8_plans_27 rfl hl (by decide) (by first | rfl | simp [rv_cat, cat_i, cat_l, cat_r, cat_n]) (fun ls hl => ?_)
  refine lp_X8_plans_28 hr hlk  E 1000 (0 : Int32) u9 H locs ls hM (lv_sub hl [1, 0] rfl) h (fun a30 u31 H locs ls hM hl h => ?_)
  refine lv_iconst (v := 0) hx hb dX8_plans_75 (by decide) ?_
  refine lv_istore_n (i := 1) (lv' := [(1, .int (0 : Int32)), (0, .ref (sz + r))]) hx hb dX8_plans_76 rfl hl (by decide) (by first | rfl | simp [rv_cat, cat_i, cat_l, cat_r, cat_n]) (fun ls hl => ?_)
  refine lv_iconst (v := 0) hx hb dX8_plans_77 (by decide) ?_
  refine lv_istore_n (i := 2) (lv' := [(2, .int (0 : Int32)), (1, .int (0 : Int32)), (0, .ref (sz + r))]) hx hb dX8_plans_78 rfl hl (by decide) (by first | rfl | simp [rv_cat, cat_i, cat_l, cat_r, cat_n]) (fun ls hl => ?_)
  refine lp_X8_plans_79 hr hlk  E 1000 (0 : Int32) (0 : Int32) H locs ls hM (lv_sub hl [2, 1, 0] rfl) h (fun a68 a69 H locs ls hM hl h => ?_)
  refine lp_X8_plans_157 hr hlk  E 1000 a68 a69 u31 H locs ls hM (lv_sub hl [0, 1, 2] rfl) h (fun a106 a107 u108 H locs ls hM hl h => ?_)
  refine lv_iconst (v := 1) hx hb dX8_plans_283 (by decide) ?_
  cases h
  exact m_zret hx hb hr hlk hM (by decide) rfl rfl dX8_plans_284

abbrev rm_X8_plan : Room := { frames := 2, cells := 0, slots := 0, locals := 72 }
def f_X8_plan (r : Nat) (u : Mm) : Option ((Int32) × Mm) := gd (okO u r 8) (bd (f_X8_plans r (sI (sI u r 1 (0 : Int32)) r 0 (0 : Int32))) (fun w2 => (if w2.1 = 0 then gd (okO w2.2 r 8) (bd (f_X8_refuse r (12 : Int32) w2.2) (fun w5 => some (w5.1, w5.2))) else gd (okO w2.2 r 8) (some ((gI w2.2 r 31), w2.2)))))
set_option maxHeartbeats 4000000 in
set_option maxRecDepth 100000 in
theorem c_X8_plan (l : Launch) (D : va_G) (cy : Nat → ClassId) (sz : Nat) (H0 : Heap) (u : Mm) (r : Nat) {res : (Int32) × Mm} (h : f_X8_plan r u = some res) : Ctr l yX8_plan cX8_plan 1 (some .int) rm_X8_plan 0 0 D cy sz H0 u [.ref (sz + r)] (some (.int res.1)) res.2 := by
  refine m_start (lv := [(0, .ref (sz + r))]) (by decide) (by first | exact Nat.le_of_ble_eq_true rfl | simp [lg_sl, rv_cat, cat_i, cat_l, cat_r, cat_n]) (by first | rfl | simp [lv_args, rv_cat, cat_i, cat_l, cat_r, cat_n]) ?_
  intro p e s m below meth c ls E hr hlk hinit hM hl
  obtain ⟨hx, hb, hml, hown, hts, hKK⟩ := id E
  obtain ⟨H, hH⟩ : ∃ H, H = s.heap := ⟨_, rfl⟩
  obtain ⟨locs, hlocs⟩ : ∃ L : List Loc, L = [] := ⟨_, rfl⟩
  rw [← hH, ← hlocs] at hM ⊢
  unfold f_X8_plan at h
  refine lv_aload_n hx hb dX8_plan_0 rfl (lv_at hl 0 rfl) ?_
  refine lv_iconst (v := 0) hx hb dX8_plan_1 (by decide) ?_
  obtain ⟨ok1, h⟩ := k_gd h
  refine ps_X8_93 (v := (0 : Int32)) E hM ok1 dX8_plan_2 (fun H locs hM => ?_)
  refine lv_aload_n hx hb dX8_plan_5 rfl (lv_at hl 0 rfl) ?_
  refine lv_iconst (v := 0) hx hb dX8_plan_6 (by decide) ?_
  refine ps_X8_97 (v := (0 : Int32)) E hM ok1 dX8_plan_7 (fun H locs hM => ?_)
  refine lv_aload_n hx hb dX8_plan_10 rfl (lv_at hl 0 rfl) ?_
  obtain ⟨w2, hzw2, h⟩ := k_bd h
  refine m_callV (C := RX8) (T := TX8) (N := 33) (ci := 8) (n := 0) (As := []) (rest := []) (st1 := (.int w2.1 :: [])) E hM hl.1 ok1 (by decide) rfl rfl (c_X8_plans l D cy sz H0 (sI (sI u r 1 (0 : Int32)) r 0 (0 : Int32)) r hzw2) wl_X8_196 wm_X8_plans ws_X8_plans wi_X8 wd_X8_plans rfl rfl (by decide +kernel) ⟨by decide, by decide⟩ rfl rfl (by first | exact Nat.le_of_ble_eq_true rfl | simp [rv_cat, cat_i, cat_l, cat_r, cat_n]) dX8_plan_11 ⟨by decide, by decide⟩ rfl (fun H locs hM => ?_)
  refine lv_if_eq (tgt := 24) hx hb dX8_plan_14 (by decide) (fun c3 => ?_) (fun c3 => ?_)
  · replace h := (k_if h).1 c3
    refine lv_aload_n hx hb dX8_plan_24 rfl (lv_at hl 0 rfl) ?_
    refine lv_bipush (v := 12) hx hb dX8_plan_25 (by decide) ?_
    obtain ⟨ok4, h⟩ := k_gd h
    obtain ⟨w5, hzw5, h⟩ := k_bd h
    refine m_callV (C := RX8) (T := TX8) (N := 33) (ci := 8) (n := 1) (As := [.int (12 : Int32)]) (rest := []) (st1 := (.int w5.1 :: [])) E hM hl.1 ok4 (by decide) rfl rfl (c_X8_refuse l D cy sz H0 w2.2 r (12 : Int32) hzw5) wl_X8_121 wm_X8_refuse ws_X8_refuse wi_X8 wd_X8_refuse rfl rfl (by decide +kernel) ⟨by decide, by decide⟩ rfl rfl (by first | exact Nat.le_of_ble_eq_true rfl | simp [rv_cat, cat_i, cat_l, cat_r, cat_n]) dX8_plan_27 ⟨by decide, by decide⟩ rfl (fun H locs hM => ?_)
    cases h
    exact m_iret hx hb hr hlk hM rfl rfl dX8_plan_30
  · replace h := (k_if h).2 c3
    refine lv_aload_n hx hb dX8_plan_17 rfl (lv_at hl 0 rfl) ?_
    obtain ⟨ok6, h⟩ := k_gd h
    refine gs_X8_186 E hM ok6 dX8_plan_18 ?_
    refine lv_goto (tgt := 30) hx hb dX8_plan_21 (by decide) ?_
    cases h
    exact m_iret hx hb hr hlk hM rfl rfl dX8_plan_30

abbrev rm_X8_carry : Room := { frames := 2, cells := 0, slots := 0, locals := 72 }
def f_X8_carry (r : Nat) (p1 : Int32) (p2 : Int32) (u : Mm) : Option ((Int32) × Mm) := gd (okO u r 8) (bd (f_X8_plans r (sI (sI u r 1 (0 : Int32)) r 0 (0 : Int32))) (fun w2 => (if w2.1 = 0 then gd (okO w2.2 r 8) (bd (f_X8_refuse r (12 : Int32) w2.2) (fun w24 => some (w24.1, w24.2))) else (if p1 < 0 then gd (okO w2.2 r 8) (bd (f_X8_refuse r (9 : Int32) w2.2) (fun w6 => some (w6.1, w6.2))) else gd (okO w2.2 r 8) ((if p1 < (gI w2.2 r 31) then (if p2 = 0 then bb (gR w2.2 r 28) (fun x10 => cs x10 none (fun k11 => gd (okA w2.2 k11 9 p1) (some ((gI w2.2 k11 (Int32.toNatClampNeg p1)), w2.2)))) else (if p2 = 1 then bb (gR w2.2 r 29) (fun x14 => cs x14 none (fun k15 => gd (okA w2.2 k15 9 p1) (some ((gI w2.2 k15 (Int32.toNatClampNeg p1)), w2.2)))) else (if p2 = 2 then bb (gR w2.2 r 30) (fun x18 => cs x18 none (fun k19 => gd (okA w2.2 k19 9 p1) (some ((gI w2.2 k19 (Int32.toNatClampNeg p1)), w2.2)))) else (bd (f_X8_refuse r (5 : Int32) w2.2) (fun w21 => some (w21.1, w21.2)))))) else bd (f_X8_refuse r (9 : Int32) w2.2) (fun w22 => some (w22.1, w22.2))))))))
set_option maxHeartbeats 4000000 in
set_option maxRecDepth 100000 in
theorem c_X8_carry (l : Launch) (D : va_G) (cy : Nat → ClassId) (sz : Nat) (H0 : Heap) (u : Mm) (r : Nat) (p1 : Int32) (p2 : Int32) {res : (Int32) × Mm} (h : f_X8_carry r p1 p2 u = some res) : Ctr l yX8_carry cX8_carry 3 (some .int) rm_X8_carry 0 0 D cy sz H0 u [.ref (sz + r), .int p1, .int p2] (some (.int res.1)) res.2 := by
  refine m_start (lv := [(0, .ref (sz + r)), (1, .int p1), (2, .int p2)]) (by decide) (by first | exact Nat.le_of_ble_eq_true rfl | simp [lg_sl, rv_cat, cat_i, cat_l, cat_r, cat_n]) (by first | rfl | simp [lv_args, rv_cat, cat_i, cat_l, cat_r, cat_n]) ?_
  intro p e s m below meth c ls E hr hlk hinit hM hl
  obtain ⟨hx, hb, hml, hown, hts, hKK⟩ := id E
  obtain ⟨H, hH⟩ : ∃ H, H = s.heap := ⟨_, rfl⟩
  obtain ⟨locs, hlocs⟩ : ∃ L : List Loc, L = [] := ⟨_, rfl⟩
  rw [← hH, ← hlocs] at hM ⊢
  unfold f_X8_carry at h
  refine lv_aload_n hx hb dX8_carry_0 rfl (lv_at hl 0 rfl) ?_
  refine lv_iconst (v := 0) hx hb dX8_carry_1 (by decide) ?_
  obtain ⟨ok1, h⟩ := k_gd h
  refine ps_X8_93 (v := (0 : Int32)) E hM ok1 dX8_carry_2 (fun H locs hM => ?_)
  refine lv_aload_n hx hb dX8_carry_5 rfl (lv_at hl 0 rfl) ?_
  refine lv_iconst (v := 0) hx hb dX8_carry_6 (by decide) ?_
  refine ps_X8_97 (v := (0 : Int32)) E hM ok1 dX8_carry_7 (fun H locs hM => ?_)
  refine lv_aload_n hx hb dX8_carry_10 rfl (lv_at hl 0 rfl) ?_
  obtain ⟨w2, hzw2, h⟩ := k_bd h
  refine m_callV (C := RX8) (T := TX8) (N := 33) (ci := 8) (n := 0) (As := []) (rest := []) (st1 := (.int w2.1 :: [])) E hM hl.1 ok1 (by decide) rfl rfl (c_X8_plans l D cy sz H0 (sI (sI u r 1 (0 : Int32)) r 0 (0 : Int32)) r hzw2) wl_X8_196 wm_X8_plans ws_X8_plans wi_X8 wd_X8_plans rfl rfl (by decide +kernel) ⟨by decide, by decide⟩ rfl rfl (by first | exact Nat.le_of_ble_eq_true rfl | simp [rv_cat, cat_i, cat_l, cat_r, cat_n]) dX8_carry_11 ⟨by decide, by decide⟩ rfl (fun H locs hM => ?_)
  refine lv_if_ne (tgt := 24) hx hb dX8_carry_14 (by decide) (fun c3 => ?_) (fun c3 => ?_)
  · replace h := (k_if h).2 c3
    refine lv_iload_n hx hb dX8_carry_24 rfl (lv_at hl 1 rfl) ?_
    refine lv_if_lt (tgt := 36) hx hb dX8_carry_25 (by decide) (fun c4 => ?_) (fun c4 => ?_)
    · replace h := (k_if h).1 c4
      refine lv_aload_n hx hb dX8_carry_36 rfl (lv_at hl 0 rfl) ?_
      refine lv_bipush (v := 9) hx hb dX8_carry_37 (by decide) ?_
      obtain ⟨ok5, h⟩ := k_gd h
      obtain ⟨w6, hzw6, h⟩ := k_bd h
      refine m_callV (C := RX8) (T := TX8) (N := 33) (ci := 8) (n := 1) (As := [.int (9 : Int32)]) (rest := []) (st1 := (.int w6.1 :: [])) E hM hl.1 ok5 (by decide) rfl rfl (c_X8_refuse l D cy sz H0 w2.2 r (9 : Int32) hzw6) wl_X8_121 wm_X8_refuse ws_X8_refuse wi_X8 wd_X8_refuse rfl rfl (by decide +kernel) ⟨by decide, by decide⟩ rfl rfl (by first | exact Nat.le_of_ble_eq_true rfl | simp [rv_cat, cat_i, cat_l, cat_r, cat_n]) dX8_carry_39 ⟨by decide, by decide⟩ rfl (fun H locs hM => ?_)
      cases h
      exact m_iret hx hb hr hlk hM rfl rfl dX8_carry_42
    · replace h := (k_if h).2 c4
      refine lv_iload_n hx hb dX8_carry_28 rfl (lv_at hl 1 rfl) ?_
      refine lv_aload_n hx hb dX8_carry_29 rfl (lv_at hl 0 rfl) ?_
      obtain ⟨ok7, h⟩ := k_gd h
      refine gs_X8_186 E hM ok7 dX8_carry_30 ?_
      refine lv_icmp_lt (tgt := 43) hx hb dX8_carry_33 (by decide) (fun c8 => ?_) (fun c8 => ?_)
      · replace h := (k_if h).1 c8
        refine lv_iload_n hx hb dX8_carry_43 rfl (lv_at hl 2 rfl) ?_
        by_cases c9 : p2 = 0
        · replace h := (k_if h).1 c9
          refine m_tsw (k := 0) (tgt := 72) hx hb dX8_carry_44 c9 (by decide) (by decide) rfl (by decide) ?_
          refine lv_aload_n hx hb dX8_carry_72 rfl (lv_at hl 0 rfl) ?_
          refine gs_X8_81 E hM ok7 dX8_carry_73 (fun x10 hxx10 => ?_)
          replace h := k_bb h x10 hxx10.symm
          refine lv_iload_n hx hb dX8_carry_76 rfl (lv_at hl 1 rfl) ?_
          rcases x10 with _ | k11
          · cases h
          rw [cs_s] at h
          obtain ⟨ok12, h⟩ := k_gd h
          refine m_iald E hM ok12 dX8_carry_77 ?_
          cases h
          exact m_iret hx hb hr hlk hM rfl rfl dX8_carry_78
        replace h := (k_if h).2 c9
        by_cases c13 : p2 = 1
        · replace h := (k_if h).1 c13
          refine m_tsw (k := 1) (tgt := 79) hx hb dX8_carry_44 c13 (by decide) (by decide) rfl (by decide) ?_
          refine lv_aload_n hx hb dX8_carry_79 rfl (lv_at hl 0 rfl) ?_
          refine gs_X8_84 E hM ok7 dX8_carry_80 (fun x14 hxx14 => ?_)
          replace h := k_bb h x14 hxx14.symm
          refine lv_iload_n hx hb dX8_carry_83 rfl (lv_at hl 1 rfl) ?_
          rcases x14 with _ | k15
          · cases h
          rw [cs_s] at h
          obtain ⟨ok16, h⟩ := k_gd h
          refine m_iald E hM ok16 dX8_carry_84 ?_
          cases h
          exact m_iret hx hb hr hlk hM rfl rfl dX8_carry_85
        replace h := (k_if h).2 c13
        by_cases c17 : p2 = 2
        · replace h := (k_if h).1 c17
          refine m_tsw (k := 2) (tgt := 86) hx hb dX8_carry_44 c17 (by decide) (by decide) rfl (by decide) ?_
          refine lv_aload_n hx hb dX8_carry_86 rfl (lv_at hl 0 rfl) ?_
          refine gs_X8_87 E hM ok7 dX8_carry_87 (fun x18 hxx18 => ?_)
          replace h := k_bb h x18 hxx18.symm
          refine lv_iload_n hx hb dX8_carry_90 rfl (lv_at hl 1 rfl) ?_
          rcases x18 with _ | k19
          · cases h
          rw [cs_s] at h
          obtain ⟨ok20, h⟩ := k_gd h
          refine m_iald E hM ok20 dX8_carry_91 ?_
          cases h
          exact m_iret hx hb hr hlk hM rfl rfl dX8_carry_92
        replace h := (k_if h).2 c17
        refine lv_tableOut (tgt := 93) hx hb dX8_carry_44 (by have qc9 := lv_neT (a := 0) c9 (by decide); have qc13 := lv_neT (a := 1) c13 (by decide); have qc17 := lv_neT (a := 2) c17 (by decide); omega) (by decide) ?_
        refine lv_aload_n hx hb dX8_carry_93 rfl (lv_at hl 0 rfl) ?_
        refine lv_iconst (v := 5) hx hb dX8_carry_94 (by decide) ?_
        obtain ⟨w21, hzw21, h⟩ := k_bd h
        refine m_callV (C := RX8) (T := TX8) (N := 33) (ci := 8) (n := 1) (As := [.int (5 : Int32)]) (rest := []) (st1 := (.int w21.1 :: [])) E hM hl.1 ok7 (by decide) rfl rfl (c_X8_refuse l D cy sz H0 w2.2 r (5 : Int32) hzw21) wl_X8_121 wm_X8_refuse ws_X8_refuse wi_X8 wd_X8_refuse rfl rfl (by decide +kernel) ⟨by decide, by decide⟩ rfl rfl (by first | exact Nat.le_of_ble_eq_true rfl | simp [rv_cat, cat_i, cat_l, cat_r, cat_n]) dX8_carry_95 ⟨by decide, by decide⟩ rfl (fun H locs hM => ?_)
        cases h
        exact m_iret hx hb hr hlk hM rfl rfl dX8_carry_98
      · replace h := (k_if h).2 c8
        refine lv_aload_n hx hb dX8_carry_36 rfl (lv_at hl 0 rfl) ?_
        refine lv_bipush (v := 9) hx hb dX8_carry_37 (by decide) ?_
        obtain ⟨w22, hzw22, h⟩ := k_bd h
        refine m_callV (C := RX8) (T := TX8) (N := 33) (ci := 8) (n := 1) (As := [.int (9 : Int32)]) (rest := []) (st1 := (.int w22.1 :: [])) E hM hl.1 ok7 (by decide) rfl rfl (c_X8_refuse l D cy sz H0 w2.2 r (9 : Int32) hzw22) wl_X8_121 wm_X8_refuse ws_X8_refuse wi_X8 wd_X8_refuse rfl rfl (by decide +kernel) ⟨by decide, by decide⟩ rfl rfl (by first | exact Nat.le_of_ble_eq_true rfl | simp [rv_cat, cat_i, cat_l, cat_r, cat_n]) dX8_carry_39 ⟨by decide, by decide⟩ rfl (fun H locs hM => ?_)
        cases h
        exact m_iret hx hb hr hlk hM rfl rfl dX8_carry_42
  · replace h := (k_if h).1 c3
    refine lv_aload_n hx hb dX8_carry_17 rfl (lv_at hl 0 rfl) ?_
    refine lv_bipush (v := 12) hx hb dX8_carry_18 (by decide) ?_
    obtain ⟨ok23, h⟩ := k_gd h
    obtain ⟨w24, hzw24, h⟩ := k_bd h
    refine m_callV (C := RX8) (T := TX8) (N := 33) (ci := 8) (n := 1) (As := [.int (12 : Int32)]) (rest := []) (st1 := (.int w24.1 :: [])) E hM hl.1 ok23 (by decide) rfl rfl (c_X8_refuse l D cy sz H0 w2.2 r (12 : Int32) hzw24) wl_X8_121 wm_X8_refuse ws_X8_refuse wi_X8 wd_X8_refuse rfl rfl (by decide +kernel) ⟨by decide, by decide⟩ rfl rfl (by first | exact Nat.le_of_ble_eq_true rfl | simp [rv_cat, cat_i, cat_l, cat_r, cat_n]) dX8_carry_20 ⟨by decide, by decide⟩ rfl (fun H locs hM => ?_)
    cases h
    exact m_iret hx hb hr hlk hM rfl rfl dX8_carry_23

abbrev rm_X8_carried : Room := { frames := 2, cells := 0, slots := 0, locals := 72 }
def L_X8_carried_26 (b0 : Nat) (k : Int32 → Mm → Option ((Int32) × Mm)) : Nat → Int32 → Mm → Option ((Int32) × Mm)
  | 0, _, _ => none
  | n + 1, a1, u => gd (okO u b0 8) ((if (gI u b0 7) ≤ a1 then k a1 u else bb (gR u b0 18) (fun x6 => bb (gR u b0 27) (fun x7 => cs x7 none (fun k8 => gd (okA u k8 9 a1) (cs x6 none (fun k10 => gd (okA u k10 9 a1) (bb (a1 + (1)) (fun v12 => L_X8_carried_26 b0 k n v12 (sI u k10 (Int32.toNatClampNeg a1) (gI u k8 (Int32.toNatClampNeg a1))))))))))))
set_option maxHeartbeats 4000000 in
set_option maxRecDepth 100000 in
theorem lp_X8_carried_26 {p : Program} {l : Launch} {e : Env} {s : State} {m : MethodId} {args : Array Value} {below : List Frame} {meth : Method} {c : Code} {D : va_G} {cy : Nat → ClassId} {sz : Nat} {H0 : Heap} {b0 : Nat} {k : Int32 → Mm → Option ((Int32) × Mm)} {res : (Int32) × Mm} (hr : meth.sig.returnType = (some .boolean)) (hlk : meth.locks = false) (E : EE p s m args c cX8_carried 2 RX8 D cy) : ∀ (n : Nat) (a1 : Int32) (u : Mm) (H : Heap) (locs : List Loc) (ls : Array Slot), MM D cy sz H0 u H locs → lv_has ls 2 [(0, .ref (sz + b0)), (1, .int a1)] → L_X8_carried_26 b0 k n a1 u = some res → (∀ (a1 : Int32) (u : Mm) (H : Heap) (locs : List Loc) (ls : Array Slot), MM D cy sz H0 u H locs → lv_has ls 2 [(0, .ref (sz + b0)), (1, .int a1)] → k a1 u = some res → W p l e rm_X8_carried s m args below meth c H locs 0 0 (MQ below (Post D cy sz H0 (some (.int res.1)) res.2) args s 0 0 (fun q => sz ≤ q)) (F0 m 52 ls [])) → W p l e rm_X8_carried s m args below meth c H locs 0 0 (MQ below (Post D cy sz H0 (some (.int res.1)) res.2) args s 0 0 (fun q => sz ≤ q)) (F0 m 26 ls []) := by
  obtain ⟨hx, hb, hml, hown, hts, hKK⟩ := id E
  intro n
  induction n with
  | zero => intros; rename_i h _; cases h
  | succ n ih =>
    intro a1 u H locs ls hM hl h hk
    rw [L_X8_carried_26] at h
    refine lv_iload_n hx hb dX8_carried_26 rfl (lv_at hl 1 rfl) ?_
    refine lv_aload_n hx hb dX8_carried_27 rfl (lv_at hl 0 rfl) ?_
    obtain ⟨ok4, h⟩ := k_gd h
    refine gs_X8_118 E hM ok4 dX8_carried_28 ?_
    refine lv_icmp_ge (tgt := 52) hx hb dX8_carried_31 (by decide) (fun c5 => ?_) (fun c5 => ?_)
    · replace h := (k_if h).1 c5
      exact hk a1 u H locs ls hM (lv_sub hl [0, 1] rfl) h
    · replace h := (k_if h).2 c5
      refine lv_aload_n hx hb dX8_carried_34 rfl (lv_at hl 0 rfl) ?_
      refine gs_X8_54 E hM ok4 dX8_carried_35 (fun x6 hxx6 => ?_)
      replace h := k_bb h x6 hxx6.symm
      refine lv_iload_n hx hb dX8_carried_38 rfl (lv_at hl 1 rfl) ?_
      refine lv_aload_n hx hb dX8_carried_39 rfl (lv_at hl 0 rfl) ?_
      refine gs_X8_78 E hM ok4 dX8_carried_40 (fun x7 hxx7 => ?_)
      replace h := k_bb h x7 hxx7.symm
      refine lv_iload_n hx hb dX8_carried_43 rfl (lv_at hl 1 rfl) ?_
      rcases x7 with _ | k8
      · cases h
      rw [cs_s] at h
      obtain ⟨ok9, h⟩ := k_gd h
      refine m_iald E hM ok9 dX8_carried_44 ?_
      rcases x6 with _ | k10
      · cases h
      rw [cs_s] at h
      obtain ⟨ok11, h⟩ := k_gd h
      refine m_iast E hM ok11 dX8_carried_45 (fun H locs hM => ?_)
      obtain ⟨v12, hvv12⟩ : ∃ y : Int32, y = a1 + (1) := ⟨_, rfl⟩
      replace h := k_bb h v12 hvv12
      refine lv_iinc (v := v12) (lv' := [(1, .int v12), (0, .ref (sz + b0))]) hx hb dX8_carried_46 hl (k := 1) rfl (by rw [hvv12]; rfl) (by decide) (by first | rfl | simp [rv_cat, cat_i, cat_l, cat_r, cat_n]) (fun ls hl => ?_)
      refine lv_goto (tgt := 26) hx hb dX8_carried_49 (by decide) ?_
      exact ih v12 (sI u k10 (Int32.toNatClampNeg a1) (gI u k8 (Int32.toNatClampNeg a1))) H locs ls hM (lv_sub hl [1, 0] rfl) h hk

def f_X8_carried (r : Nat) (u : Mm) : Option ((Int32) × Mm) := gd (okO u r 8) (bd (f_X8_plans r (sI (sI u r 1 (0 : Int32)) r 0 (0 : Int32))) (fun w2 => (if w2.1 = 0 then gd (okO w2.2 r 8) (bd (f_X8_no r (12 : Int32) w2.2) (fun w16 => gd (isB w16.1) (some (w16.1, w16.2)))) else L_X8_carried_26 r  (fun a13 u14 => some ((1 : Int32), u14)) 1000 (0 : Int32) w2.2)))
set_option maxHeartbeats 4000000 in
set_option maxRecDepth 100000 in
theorem c_X8_carried (l : Launch) (D : va_G) (cy : Nat → ClassId) (sz : Nat) (H0 : Heap) (u : Mm) (r : Nat) {res : (Int32) × Mm} (h : f_X8_carried r u = some res) : Ctr l yX8_carried cX8_carried 2 (some .boolean) rm_X8_carried 0 0 D cy sz H0 u [.ref (sz + r)] (some (.int res.1)) res.2 := by
  refine m_start (lv := [(0, .ref (sz + r))]) (by decide) (by first | exact Nat.le_of_ble_eq_true rfl | simp [lg_sl, rv_cat, cat_i, cat_l, cat_r, cat_n]) (by first | rfl | simp [lv_args, rv_cat, cat_i, cat_l, cat_r, cat_n]) ?_
  intro p e s m below meth c ls E hr hlk hinit hM hl
  obtain ⟨hx, hb, hml, hown, hts, hKK⟩ := id E
  obtain ⟨H, hH⟩ : ∃ H, H = s.heap := ⟨_, rfl⟩
  obtain ⟨locs, hlocs⟩ : ∃ L : List Loc, L = [] := ⟨_, rfl⟩
  rw [← hH, ← hlocs] at hM ⊢
  unfold f_X8_carried at h
  refine lv_aload_n hx hb dX8_carried_0 rfl (lv_at hl 0 rfl) ?_
  refine lv_iconst (v := 0) hx hb dX8_carried_1 (by decide) ?_
  obtain ⟨ok1, h⟩ := k_gd h
  refine ps_X8_93 (v := (0 : Int32)) E hM ok1 dX8_carried_2 (fun H locs hM => ?_)
  refine lv_aload_n hx hb dX8_carried_5 rfl (lv_at hl 0 rfl) ?_
  refine lv_iconst (v := 0) hx hb dX8_carried_6 (by decide) ?_
  refine ps_X8_97 (v := (0 : Int32)) E hM ok1 dX8_carried_7 (fun H locs hM => ?_)
  refine lv_aload_n hx hb dX8_carried_10 rfl (lv_at hl 0 rfl) ?_
  obtain ⟨w2, hzw2, h⟩ := k_bd h
  refine m_callV (C := RX8) (T := TX8) (N := 33) (ci := 8) (n := 0) (As := []) (rest := []) (st1 := (.int w2.1 :: [])) E hM hl.1 ok1 (by decide) rfl rfl (c_X8_plans l D cy sz H0 (sI (sI u r 1 (0 : Int32)) r 0 (0 : Int32)) r hzw2) wl_X8_196 wm_X8_plans ws_X8_plans wi_X8 wd_X8_plans rfl rfl (by decide +kernel) ⟨by decide, by decide⟩ rfl rfl (by first | exact Nat.le_of_ble_eq_true rfl | simp [rv_cat, cat_i, cat_l, cat_r, cat_n]) dX8_carried_11 ⟨by decide, by decide⟩ rfl (fun H locs hM => ?_)
  refine lv_if_ne (tgt := 24) hx hb dX8_carried_14 (by decide) (fun c3 => ?_) (fun c3 => ?_)
  · replace h := (k_if h).2 c3
    refine lv_iconst (v := 0) hx hb dX8_carried_24 (by decide) ?_
    refine lv_istore_n (i := 1) (lv' := [(1, .int (0 : Int32)), (0, .ref (sz + r))]) hx hb dX8_carried_25 rfl hl (by decide) (by first | rfl | simp [rv_cat, cat_i, cat_l, cat_r, cat_n]) (fun ls hl => ?_)
    refine lp_X8_carried_26 hr hlk  E 1000 (0 : Int32) w2.2 H locs ls hM (lv_sub hl [1, 0] rfl) h (fun a13 u14 H locs ls hM hl h => ?_)
    refine lv_iconst (v := 1) hx hb dX8_carried_52 (by decide) ?_
    cases h
    exact m_zret hx hb hr hlk hM (by decide) rfl rfl dX8_carried_53
  · replace h := (k_if h).1 c3
    refine lv_aload_n hx hb dX8_carried_17 rfl (lv_at hl 0 rfl) ?_
    refine lv_bipush (v := 12) hx hb dX8_carried_18 (by decide) ?_
    obtain ⟨ok15, h⟩ := k_gd h
    obtain ⟨w16, hzw16, h⟩ := k_bd h
    refine m_callV (C := RX8) (T := TX8) (N := 33) (ci := 8) (n := 1) (As := [.int (12 : Int32)]) (rest := []) (st1 := (.int w16.1 :: [])) E hM hl.1 ok15 (by decide) rfl rfl (c_X8_no l D cy sz H0 w2.2 r (12 : Int32) hzw16) wl_X8_100 wm_X8_no ws_X8_no wi_X8 wd_X8_no rfl rfl (by decide +kernel) ⟨by decide, by decide⟩ rfl rfl (by first | exact Nat.le_of_ble_eq_true rfl | simp [rv_cat, cat_i, cat_l, cat_r, cat_n]) dX8_carried_20 ⟨by decide, by decide⟩ rfl (fun H locs hM => ?_)
    obtain ⟨hB17, h⟩ := k_gd h
    cases h
    exact m_zret hx hb hr hlk hM hB17 rfl rfl dX8_carried_23

abbrev rm_X8_weightOf : Room := { frames := 0, cells := 0, slots := 0, locals := 0 }
def f_X8_weightOf (r : Nat) (p1 : Int32) (p2 : Int32) (u : Mm) : Option (Int64) := gd (okO u r 8) (bb (gR u r 6) (fun x2 => cs x2 none (fun k3 => gd (okA u k3 10 (((40 : Int32) * p1) + ((2 : Int32) * p2))) (some (gL u k3 (Int32.toNatClampNeg (((40 : Int32) * p1) + ((2 : Int32) * p2))))))))
set_option maxHeartbeats 4000000 in
set_option maxRecDepth 100000 in
theorem c_X8_weightOf (l : Launch) (D : va_G) (cy : Nat → ClassId) (sz : Nat) (H0 : Heap) (u : Mm) (r : Nat) (p1 : Int32) (p2 : Int32) {res : Int64} (h : f_X8_weightOf r p1 p2 u = some res) : Ctr l yX8_weightOf cX8_weightOf 3 (some .long) rm_X8_weightOf 0 0 D cy sz H0 u [.ref (sz + r), .int p1, .int p2] (some (.long res)) u := by
  refine m_start (lv := [(0, .ref (sz + r)), (1, .int p1), (2, .int p2)]) (by decide) (by first | exact Nat.le_of_ble_eq_true rfl | simp [lg_sl, rv_cat, cat_i, cat_l, cat_r, cat_n]) (by first | rfl | simp [lv_args, rv_cat, cat_i, cat_l, cat_r, cat_n]) ?_
  intro p e s m below meth c ls E hr hlk hinit hM hl
  obtain ⟨hx, hb, hml, hown, hts, hKK⟩ := id E
  obtain ⟨H, hH⟩ : ∃ H, H = s.heap := ⟨_, rfl⟩
  obtain ⟨locs, hlocs⟩ : ∃ L : List Loc, L = [] := ⟨_, rfl⟩
  rw [← hH, ← hlocs] at hM ⊢
  unfold f_X8_weightOf at h
  refine lv_aload_n hx hb dX8_weightOf_0 rfl (lv_at hl 0 rfl) ?_
  obtain ⟨ok1, h⟩ := k_gd h
  refine gs_X8_20 E hM ok1 dX8_weightOf_1 (fun x2 hxx2 => ?_)
  replace h := k_bb h x2 hxx2.symm
  refine lv_bipush (v := 40) hx hb dX8_weightOf_4 (by decide) ?_
  refine lv_iload_n hx hb dX8_weightOf_6 rfl (lv_at hl 1 rfl) ?_
  refine lv_imul hx hb dX8_weightOf_7 ?_
  refine lv_iconst (v := 2) hx hb dX8_weightOf_8 (by decide) ?_
  refine lv_iload_n hx hb dX8_weightOf_9 rfl (lv_at hl 2 rfl) ?_
  refine lv_imul hx hb dX8_weightOf_10 ?_
  refine lv_iadd hx hb dX8_weightOf_11 ?_
  rcases x2 with _ | k3
  · cases h
  rw [cs_s] at h
  obtain ⟨ok4, h⟩ := k_gd h
  refine m_lald E hM ok4 dX8_weightOf_12 ?_
  cases h
  exact m_lret hx hb hr hlk hM rfl rfl dX8_weightOf_13

abbrev rm_X8_costOf : Room := { frames := 0, cells := 0, slots := 0, locals := 0 }
def f_X8_costOf (r : Nat) (p1 : Int32) (p2 : Int32) (u : Mm) : Option (Int64) := gd (okO u r 8) (bb (gR u r 6) (fun x2 => cs x2 none (fun k3 => gd (okA u k3 10 ((((40 : Int32) * p1) + ((2 : Int32) * p2)) + (1 : Int32))) (some (gL u k3 (Int32.toNatClampNeg ((((40 : Int32) * p1) + ((2 : Int32) * p2)) + (1 : Int32))))))))
set_option maxHeartbeats 4000000 in
set_option maxRecDepth 100000 in
theorem c_X8_costOf (l : Launch) (D : va_G) (cy : Nat → ClassId) (sz : Nat) (H0 : Heap) (u : Mm) (r : Nat) (p1 : Int32) (p2 : Int32) {res : Int64} (h : f_X8_costOf r p1 p2 u = some res) : Ctr l yX8_costOf cX8_costOf 3 (some .long) rm_X8_costOf 0 0 D cy sz H0 u [.ref (sz + r), .int p1, .int p2] (some (.long res)) u := by
  refine m_start (lv := [(0, .ref (sz + r)), (1, .int p1), (2, .int p2)]) (by decide) (by first | exact Nat.le_of_ble_eq_true rfl | simp [lg_sl, rv_cat, cat_i, cat_l, cat_r, cat_n]) (by first | rfl | simp [lv_args, rv_cat, cat_i, cat_l, cat_r, cat_n]) ?_
  intro p e s m below meth c ls E hr hlk hinit hM hl
  obtain ⟨hx, hb, hml, hown, hts, hKK⟩ := id E
  obtain ⟨H, hH⟩ : ∃ H, H = s.heap := ⟨_, rfl⟩
  obtain ⟨locs, hlocs⟩ : ∃ L : List Loc, L = [] := ⟨_, rfl⟩
  rw [← hH, ← hlocs] at hM ⊢
  unfold f_X8_costOf at h
  refine lv_aload_n hx hb dX8_costOf_0 rfl (lv_at hl 0 rfl) ?_
  obtain ⟨ok1, h⟩ := k_gd h
  refine gs_X8_20 E hM ok1 dX8_costOf_1 (fun x2 hxx2 => ?_)
  replace h := k_bb h x2 hxx2.symm
  refine lv_bipush (v := 40) hx hb dX8_costOf_4 (by decide) ?_
  refine lv_iload_n hx hb dX8_costOf_6 rfl (lv_at hl 1 rfl) ?_
  refine lv_imul hx hb dX8_costOf_7 ?_
  refine lv_iconst (v := 2) hx hb dX8_costOf_8 (by decide) ?_
  refine lv_iload_n hx hb dX8_costOf_9 rfl (lv_at hl 2 rfl) ?_
  refine lv_imul hx hb dX8_costOf_10 ?_
  refine lv_iadd hx hb dX8_costOf_11 ?_
  refine lv_iconst (v := 1) hx hb dX8_costOf_12 (by decide) ?_
  refine lv_iadd hx hb dX8_costOf_13 ?_
  rcases x2 with _ | k3
  · cases h
  rw [cs_s] at h
  obtain ⟨ok4, h⟩ := k_gd h
  refine m_lald E hM ok4 dX8_costOf_14 ?_
  cases h
  exact m_lret hx hb hr hlk hM rfl rfl dX8_costOf_15

abbrev rm_X8_search : Room := { frames := 1, cells := 0, slots := 0, locals := 36 }
def L_X8_search_61 (b0 : Nat) (b1 : Int32) (b2 : Int32) (b3 : Int32) (u : Mm) (k : Int32 → Option ((Int32) × Mm)) : Nat → Int32 → Option ((Int32) × Mm)
  | 0, _ => none
  | n + 1, a4 => (if ((2 : Int32) * b2) ≤ a4 then k a4 else gd (okO u b0 8) (bb (gR u b0 6) (fun x13 => cs x13 none (fun k14 => gd (okA u k14 10 (((40 : Int32) * b1) + a4)) ((if (lg_cmp (gL u k14 (Int32.toNatClampNeg (((40 : Int32) * b1) + a4))) (1 : Int64)) < 0 then bd (f_X8_refuse b0 (5 : Int32) u) (fun w17 => some (w17.1, w17.2)) else bb (gR u b0 6) (fun x18 => cs x18 none (fun k19 => gd (okA u k19 10 (((40 : Int32) * b1) + a4)) ((if (lg_cmp (gL u k19 (Int32.toNatClampNeg (((40 : Int32) * b1) + a4))) (999 : Int64)) ≤ 0 then bb (a4 + (1)) (fun v22 => L_X8_search_61 b0 b1 b2 b3 u k n v22) else bd (f_X8_refuse b0 (5 : Int32) u) (fun w23 => some (w23.1, w23.2))))))))))))
set_option maxHeartbeats 4000000 in
set_option maxRecDepth 100000 in
theorem lp_X8_search_61 {p : Program} {l : Launch} {e : Env} {s : State} {m : MethodId} {args : Array Value} {below : List Frame} {meth : Method} {c : Code} {D : va_G} {cy : Nat → ClassId} {sz : Nat} {H0 : Heap} {b0 : Nat} {b1 : Int32} {b2 : Int32} {b3 : Int32} {u : Mm} {k : Int32 → Option ((Int32) × Mm)} {res : (Int32) × Mm} (hr : meth.sig.returnType = (some .int)) (hlk : meth.locks = false) (E : EE p s m args c cX8_search 16 RX8 D cy) : ∀ (n : Nat) (a4 : Int32) (H : Heap) (locs : List Loc) (ls : Array Slot), MM D cy sz H0 u H locs → lv_has ls 16 [(0, .ref (sz + b0)), (1, .int b1), (2, .int b2), (3, .int b3), (4, .int a4)] → L_X8_search_61 b0 b1 b2 b3 u k n a4 = some res → (∀ (a4 : Int32) (H : Heap) (locs : List Loc) (ls : Array Slot), MM D cy sz H0 u H locs → lv_has ls 16 [(0, .ref (sz + b0)), (1, .int b1), (2, .int b2), (3, .int b3), (4, .int a4)] → k a4 = some res → W p l e rm_X8_search s m args below meth c H locs 0 0 (MQ below (Post D cy sz H0 (some (.int res.1)) res.2) args s 0 0 (fun q => sz ≤ q)) (F0 m 117 ls [])) → W p l e rm_X8_search s m args below meth c H locs 0 0 (MQ below (Post D cy sz H0 (some (.int res.1)) res.2) args s 0 0 (fun q => sz ≤ q)) (F0 m 61 ls []) := by
  obtain ⟨hx, hb, hml, hown, hts, hKK⟩ := id E
  intro n
  induction n with
  | zero => intros; rename_i h _; cases h
  | succ n ih =>
    intro a4 H locs ls hM hl h hk
    rw [L_X8_search_61] at h
    refine lv_iload hx hb dX8_search_61 (lv_at hl 4 rfl) ?_
    refine lv_iconst (v := 2) hx hb dX8_search_63 (by decide) ?_
    refine lv_iload_n hx hb dX8_search_64 rfl (lv_at hl 2 rfl) ?_
    refine lv_imul hx hb dX8_search_65 ?_
    refine lv_icmp_ge (tgt := 117) hx hb dX8_search_66 (by decide) (fun c11 => ?_) (fun c11 => ?_)
    · replace h := (k_if h).1 c11
      exact hk a4 H locs ls hM (lv_sub hl [0, 1, 2, 3, 4] rfl) h
    · replace h := (k_if h).2 c11
      refine lv_aload_n hx hb dX8_search_69 rfl (lv_at hl 0 rfl) ?_
      obtain ⟨ok12, h⟩ := k_gd h
      refine gs_X8_20 E hM ok12 dX8_search_70 (fun x13 hxx13 => ?_)
      replace h := k_bb h x13 hxx13.symm
      refine lv_bipush (v := 40) hx hb dX8_search_73 (by decide) ?_
      refine lv_iload_n hx hb dX8_search_75 rfl (lv_at hl 1 rfl) ?_
      refine lv_imul hx hb dX8_search_76 ?_
      refine lv_iload hx hb dX8_search_77 (lv_at hl 4 rfl) ?_
      refine lv_iadd hx hb dX8_search_79 ?_
      rcases x13 with _ | k14
      · cases h
      rw [cs_s] at h
      obtain ⟨ok15, h⟩ := k_gd h
      refine m_lald E hM ok15 dX8_search_80 ?_
      refine lv_lconst (v := 1) hx hb dX8_search_81 (by decide) ?_
      refine W.lcmp hx hb dX8_search_82 ?_
      refine lv_if_lt (tgt := 105) hx hb dX8_search_83 (by decide) (fun c16 => ?_) (fun c16 => ?_)
      · replace h := (k_if h).1 c16
        refine lv_aload_n hx hb dX8_search_105 rfl (lv_at hl 0 rfl) ?_
        refine lv_iconst (v := 5) hx hb dX8_search_106 (by decide) ?_
        obtain ⟨w17, hzw17, h⟩ := k_bd h
        refine m_callV (C := RX8) (T := TX8) (N := 33) (ci := 8) (n := 1) (As := [.int (5 : Int32)]) (rest := []) (st1 := (.int w17.1 :: [])) E hM hl.1 ok12 (by decide) rfl rfl (c_X8_refuse l D cy sz H0 u b0 (5 : Int32) hzw17) wl_X8_121 wm_X8_refuse ws_X8_refuse wi_X8 wd_X8_refuse rfl rfl (by decide +kernel) ⟨by decide, by decide⟩ rfl rfl (by first | exact Nat.le_of_ble_eq_true rfl | simp [rv_cat, cat_i, cat_l, cat_r, cat_n]) dX8_search_107 ⟨by decide, by decide⟩ rfl (fun H locs hM => ?_)
        cases h
        exact m_iret hx hb hr hlk hM rfl rfl dX8_search_110
      · replace h := (k_if h).2 c16
        refine lv_aload_n hx hb dX8_search_86 rfl (lv_at hl 0 rfl) ?_
        refine gs_X8_20 E hM ok12 dX8_search_87 (fun x18 hxx18 => ?_)
        replace h := k_bb h x18 hxx18.symm
        refine lv_bipush (v := 40) hx hb dX8_search_90 (by decide) ?_
        refine lv_iload_n hx hb dX8_search_92 rfl (lv_at hl 1 rfl) ?_
        refine lv_imul hx hb dX8_search_93 ?_
        refine lv_iload hx hb dX8_search_94 (lv_at hl 4 rfl) ?_
        refine lv_iadd hx hb dX8_search_96 ?_
        rcases x18 with _ | k19
        · cases h
        rw [cs_s] at h
        obtain ⟨ok20, h⟩ := k_gd h
        refine m_lald E hM ok20 dX8_search_97 ?_
        refine lv_ldc2 hx hb hown (hts _ wk_X8_200) dX8_search_98 ?_
        refine W.lcmp hx hb dX8_search_101 ?_
        refine lv_if_le (tgt := 111) hx hb dX8_search_102 (by decide) (fun c21 => ?_) (fun c21 => ?_)
        · replace h := (k_if h).1 c21
          obtain ⟨v22, hvv22⟩ : ∃ y : Int32, y = a4 + (1) := ⟨_, rfl⟩
          replace h := k_bb h v22 hvv22
          refine lv_iinc (v := v22) (lv' := [(4, .int v22), (0, .ref (sz + b0)), (1, .int b1), (2, .int b2), (3, .int b3)]) hx hb dX8_search_111 hl (k := 4) rfl (by rw [hvv22]; rfl) (by decide) (by first | rfl | simp [rv_cat, cat_i, cat_l, cat_r, cat_n]) (fun ls hl => ?_)
          refine lv_goto (tgt := 61) hx hb dX8_search_114 (by decide) ?_
          exact ih v22 H locs ls hM (lv_sub hl [1, 2, 3, 4, 0] rfl) h hk
        · replace h := (k_if h).2 c21
          refine lv_aload_n hx hb dX8_search_105 rfl (lv_at hl 0 rfl) ?_
          refine lv_iconst (v := 5) hx hb dX8_search_106 (by decide) ?_
          obtain ⟨w23, hzw23, h⟩ := k_bd h
          refine m_callV (C := RX8) (T := TX8) (N := 33) (ci := 8) (n := 1) (As := [.int (5 : Int32)]) (rest := []) (st1 := (.int w23.1 :: [])) E hM hl.1 ok12 (by decide) rfl rfl (c_X8_refuse l D cy sz H0 u b0 (5 : Int32) hzw23) wl_X8_121 wm_X8_refuse ws_X8_refuse wi_X8 wd_X8_refuse rfl rfl (by decide +kernel) ⟨by decide, by decide⟩ rfl rfl (by first | exact Nat.le_of_ble_eq_true rfl | simp [rv_cat, cat_i, cat_l, cat_r, cat_n]) dX8_search_107 ⟨by decide, by decide⟩ rfl (fun H locs hM => ?_)
          cases h
          exact m_iret hx hb hr hlk hM rfl rfl dX8_search_110

def L_X8_search_146 (b0 : Nat) (b1 : Int32) (b2 : Int32) (b3 : Int32) (b4 : Int32) (k : Int32 → Mm → Option ((Int32) × Mm)) : Nat → Int32 → Mm → Option ((Int32) × Mm)
  | 0, _, _ => none
  | n + 1, a5, u => (if a5 ≤ 0 then k a5 u else gd (okO u b0 8) (bb (gR u b0 32) (fun x31 => cs x31 none (fun k32 => gd (okA u k32 9 (a5 - (1 : Int32))) (bd (f_X8_costOf b0 b1 (gI u k32 (Int32.toNatClampNeg (a5 - (1 : Int32)))) u) (fun w34 => bd (f_X8_weightOf b0 b1 b4 u) (fun w35 => bd (f_X8_costOf b0 b1 b4 u) (fun w36 => bb (gR u b0 32) (fun x37 => cs x37 none (fun k38 => gd (okA u k38 9 (a5 - (1 : Int32))) (bd (f_X8_weightOf b0 b1 (gI u k38 (Int32.toNatClampNeg (a5 - (1 : Int32)))) u) (fun w40 => (if (lg_cmp (w34 * w35) (w36 * w40)) ≤ 0 then k a5 u else bb (gR u b0 32) (fun x42 => bb (gR u b0 32) (fun x43 => cs x43 none (fun k44 => gd (okA u k44 9 (a5 - (1 : Int32))) (cs x42 none (fun k46 => gd (okA u k46 9 a5) (bb (a5 + (-1)) (fun v48 => L_X8_search_146 b0 b1 b2 b3 b4 k n v48 (sI u k46 (Int32.toNatClampNeg a5) (gI u k44 (Int32.toNatClampNeg (a5 - (1 : Int32)))))))))))))))))))))))))
set_option maxHeartbeats 4000000 in
set_option maxRecDepth 100000 in
theorem lp_X8_search_146 {p : Program} {l : Launch} {e : Env} {s : State} {m : MethodId} {args : Array Value} {below : List Frame} {meth : Method} {c : Code} {D : va_G} {cy : Nat → ClassId} {sz : Nat} {H0 : Heap} {b0 : Nat} {b1 : Int32} {b2 : Int32} {b3 : Int32} {b4 : Int32} {k : Int32 → Mm → Option ((Int32) × Mm)} {res : (Int32) × Mm} (hr : meth.sig.returnType = (some .int)) (hlk : meth.locks = false) (E : EE p s m args c cX8_search 16 RX8 D cy) : ∀ (n : Nat) (a5 : Int32) (u : Mm) (H : Heap) (locs : List Loc) (ls : Array Slot), MM D cy sz H0 u H locs → lv_has ls 16 [(0, .ref (sz + b0)), (1, .int b1), (2, .int b2), (3, .int b3), (4, .int b4), (5, .int a5)] → L_X8_search_146 b0 b1 b2 b3 b4 k n a5 u = some res → (∀ (a5 : Int32) (u : Mm) (H : Heap) (locs : List Loc) (ls : Array Slot), MM D cy sz H0 u H locs → lv_has ls 16 [(0, .ref (sz + b0)), (1, .int b1), (2, .int b2), (3, .int b3), (4, .int b4), (5, .int a5)] → k a5 u = some res → W p l e rm_X8_search s m args below meth c H locs 0 0 (MQ below (Post D cy sz H0 (some (.int res.1)) res.2) args s 0 0 (fun q => sz ≤ q)) (F0 m 221 ls [])) → W p l e rm_X8_search s m args below meth c H locs 0 0 (MQ below (Post D cy sz H0 (some (.int res.1)) res.2) args s 0 0 (fun q => sz ≤ q)) (F0 m 146 ls []) := by
  obtain ⟨hx, hb, hml, hown, hts, hKK⟩ := id E
  intro n
  induction n with
  | zero => intros; rename_i h _; cases h
  | succ n ih =>
    intro a5 u H locs ls hM hl h hk
    rw [L_X8_search_146] at h
    refine lv_iload hx hb dX8_search_146 (lv_at hl 5 rfl) ?_
    refine lv_if_le (tgt := 221) hx hb dX8_search_148 (by decide) (fun c29 => ?_) (fun c29 => ?_)
    · replace h := (k_if h).1 c29
      exact hk a5 u H locs ls hM (lv_sub hl [0, 1, 2, 3, 4, 5] rfl) h
    · replace h := (k_if h).2 c29
      refine lv_aload_n hx hb dX8_search_151 rfl (lv_at hl 0 rfl) ?_
      refine lv_iload_n hx hb dX8_search_152 rfl (lv_at hl 1 rfl) ?_
      refine lv_aload_n hx hb dX8_search_153 rfl (lv_at hl 0 rfl) ?_
      obtain ⟨ok30, h⟩ := k_gd h
      refine gs_X8_90 E hM ok30 dX8_search_154 (fun x31 hxx31 => ?_)
      replace h := k_bb h x31 hxx31.symm
      refine lv_iload hx hb dX8_search_157 (lv_at hl 5 rfl) ?_
      refine lv_iconst (v := 1) hx hb dX8_search_159 (by decide) ?_
      refine lv_isub hx hb dX8_search_160 ?_
      rcases x31 with _ | k32
      · cases h
      rw [cs_s] at h
      obtain ⟨ok33, h⟩ := k_gd h
      refine m_iald E hM ok33 dX8_search_161 ?_
      obtain ⟨w34, hzw34, h⟩ := k_bd h
      refine m_callV (C := RX8) (T := TX8) (N := 33) (ci := 8) (n := 2) (As := [.int b1, .int (gI u k32 (Int32.toNatClampNeg (a5 - (1 : Int32))))]) (rest := []) (st1 := (.long w34 :: [])) E hM hl.1 ok30 (by decide) rfl rfl (c_X8_costOf l D cy sz H0 u b0 b1 (gI u k32 (Int32.toNatClampNeg (a5 - (1 : Int32)))) hzw34) wl_X8_202 wm_X8_costOf ws_X8_costOf wi_X8 wd_X8_costOf rfl rfl (by decide +kernel) ⟨by decide, by decide⟩ rfl rfl (by first | exact Nat.le_of_ble_eq_true rfl | simp [rv_cat, cat_i, cat_l, cat_r, cat_n]) dX8_search_162 ⟨by decide, by decide⟩ rfl (fun H locs hM => ?_)
      refine lv_aload_n hx hb dX8_search_165 rfl (lv_at hl 0 rfl) ?_
      refine lv_iload_n hx hb dX8_search_166 rfl (lv_at hl 1 rfl) ?_
      refine lv_iload hx hb dX8_search_167 (lv_at hl 4 rfl) ?_
      obtain ⟨w35, hzw35, h⟩ := k_bd h
      refine m_callV (C := RX8) (T := TX8) (N := 33) (ci := 8) (n := 2) (As := [.int b1, .int b4]) (rest := [.long w34]) (st1 := (.long w35 :: [.long w34])) E hM hl.1 ok30 (by decide) rfl rfl (c_X8_weightOf l D cy sz H0 u b0 b1 b4 hzw35) wl_X8_206 wm_X8_weightOf ws_X8_weightOf wi_X8 wd_X8_weightOf rfl rfl (by decide +kernel) ⟨by decide, by decide⟩ rfl rfl (by first | exact Nat.le_of_ble_eq_true rfl | simp [rv_cat, cat_i, cat_l, cat_r, cat_n]) dX8_search_169 ⟨by decide, by decide⟩ rfl (fun H locs hM => ?_)
      refine lv_lmul hx hb dX8_search_172 ?_
      refine lv_aload_n hx hb dX8_search_173 rfl (lv_at hl 0 rfl) ?_
      refine lv_iload_n hx hb dX8_search_174 rfl (lv_at hl 1 rfl) ?_
      refine lv_iload hx hb dX8_search_175 (lv_at hl 4 rfl) ?_
      obtain ⟨w36, hzw36, h⟩ := k_bd h
      refine m_callV (C := RX8) (T := TX8) (N := 33) (ci := 8) (n := 2) (As := [.int b1, .int b4]) (rest := [.long (w34 * w35)]) (st1 := (.long w36 :: [.long (w34 * w35)])) E hM hl.1 ok30 (by decide) rfl rfl (c_X8_costOf l D cy sz H0 u b0 b1 b4 hzw36) wl_X8_202 wm_X8_costOf ws_X8_costOf wi_X8 wd_X8_costOf rfl rfl (by decide +kernel) ⟨by decide, by decide⟩ rfl rfl (by first | exact Nat.le_of_ble_eq_true rfl | simp [rv_cat, cat_i, cat_l, cat_r, cat_n]) dX8_search_177 ⟨by decide, by decide⟩ rfl (fun H locs hM => ?_)
      refine lv_aload_n hx hb dX8_search_180 rfl (lv_at hl 0 rfl) ?_
      refine lv_iload_n hx hb dX8_search_181 rfl (lv_at hl 1 rfl) ?_
      refine lv_aload_n hx hb dX8_search_182 rfl (lv_at hl 0 rfl) ?_
      refine gs_X8_90 E hM ok30 dX8_search_183 (fun x37 hxx37 => ?_)
      replace h := k_bb h x37 hxx37.symm
      refine lv_iload hx hb dX8_search_186 (lv_at hl 5 rfl) ?_
      refine lv_iconst (v := 1) hx hb dX8_search_188 (by decide) ?_
      refine lv_isub hx hb dX8_search_189 ?_
      rcases x37 with _ | k38
      · cases h
      rw [cs_s] at h
      obtain ⟨ok39, h⟩ := k_gd h
      refine m_iald E hM ok39 dX8_search_190 ?_
      obtain ⟨w40, hzw40, h⟩ := k_bd h
      refine m_callV (C := RX8) (T := TX8) (N := 33) (ci := 8) (n := 2) (As := [.int b1, .int (gI u k38 (Int32.toNatClampNeg (a5 - (1 : Int32))))]) (rest := [.long w36, .long (w34 * w35)]) (st1 := (.long w40 :: [.long w36, .long (w34 * w35)])) E hM hl.1 ok30 (by decide) rfl rfl (c_X8_weightOf l D cy sz H0 u b0 b1 (gI u k38 (Int32.toNatClampNeg (a5 - (1 : Int32)))) hzw40) wl_X8_206 wm_X8_weightOf ws_X8_weightOf wi_X8 wd_X8_weightOf rfl rfl (by decide +kernel) ⟨by decide, by decide⟩ rfl rfl (by first | exact Nat.le_of_ble_eq_true rfl | simp [rv_cat, cat_i, cat_l, cat_r, cat_n]) dX8_search_191 ⟨by decide, by decide⟩ rfl (fun H locs hM => ?_)
      refine lv_lmul hx hb dX8_search_194 ?_
      refine W.lcmp hx hb dX8_search_195 ?_
      refine lv_if_le (tgt := 221) hx hb dX8_search_196 (by decide) (fun c41 => ?_) (fun c41 => ?_)
      · replace h := (k_if h).1 c41
        exact hk a5 u H locs ls hM (lv_sub hl [0, 1, 2, 3, 4, 5] rfl) h
      · replace h := (k_if h).2 c41
        refine lv_aload_n hx hb dX8_search_199 rfl (lv_at hl 0 rfl) ?_
        refine gs_X8_90 E hM ok30 dX8_search_200 (fun x42 hxx42 => ?_)
        replace h := k_bb h x42 hxx42.symm
        refine lv_iload hx hb dX8_search_203 (lv_at hl 5 rfl) ?_
        refine lv_aload_n hx hb dX8_search_205 rfl (lv_at hl 0 rfl) ?_
        refine gs_X8_90 E hM ok30 dX8_search_206 (fun x43 hxx43 => ?_)
        replace h := k_bb h x43 hxx43.symm
        refine lv_iload hx hb dX8_search_209 (lv_at hl 5 rfl) ?_
        refine lv_iconst (v := 1) hx hb dX8_search_211 (by decide) ?_
        refine lv_isub hx hb dX8_search_212 ?_
        rcases x43 with _ | k44
        · cases h
        rw [cs_s] at h
        obtain ⟨ok45, h⟩ := k_gd h
        refine m_iald E hM ok45 dX8_search_213 ?_
        rcases x42 with _ | k46
        · cases h
        rw [cs_s] at h
        obtain ⟨ok47, h⟩ := k_gd h
        refine m_iast E hM ok47 dX8_search_214 (fun H locs hM => ?_)
        obtain ⟨v48, hvv48⟩ : ∃ y : Int32, y = a5 + (-1) := ⟨_, rfl⟩
        replace h := k_bb h v48 hvv48
        refine lv_iinc (v := v48) (lv' := [(5, .int v48), (0, .ref (sz + b0)), (1, .int b1), (2, .int b2), (3, .int b3), (4, .int b4)]) hx hb dX8_search_215 hl (k := 5) rfl (by rw [hvv48]; rfl) (by decide) (by first | rfl | simp [rv_cat, cat_i, cat_l, cat_r, cat_n]) (fun ls hl => ?_)
        refine lv_goto (tgt := 146) hx hb dX8_search_218 (by decide) ?_
        exact ih v48 (sI u k46 (Int32.toNatClampNeg a5) (gI u k44 (Int32.toNatClampNeg (a5 - (1 : Int32))))) H locs ls hM (lv_sub hl [1, 2, 3, 4, 5, 0] rfl) h hk

def L_X8_search_136 (b0 : Nat) (b1 : Int32) (b2 : Int32) (b3 : Int32) (k : Int32 → Mm → Option ((Int32) × Mm)) : Nat → Int32 → Mm → Option ((Int32) × Mm)
  | 0, _, _ => none
  | n + 1, a4, u => (if b2 ≤ a4 then k a4 u else L_X8_search_146 b0 b1 b2 b3 a4  (fun a49 u50 => gd (okO u50 b0 8) (bb (gR u50 b0 32) (fun x52 => cs x52 none (fun k53 => gd (okA u50 k53 9 a49) (bb (a4 + (1)) (fun v55 => L_X8_search_136 b0 b1 b2 b3 k n v55 (sI u50 k53 (Int32.toNatClampNeg a49) a4))))))) 1000 a4 u)
set_option maxHeartbeats 4000000 in
set_option maxRecDepth 100000 in
theorem lp_X8_search_136 {p : Program} {l : Launch} {e : Env} {s : State} {m : MethodId} {args : Array Value} {below : List Frame} {meth : Method} {c : Code} {D : va_G} {cy : Nat → ClassId} {sz : Nat} {H0 : Heap} {b0 : Nat} {b1 : Int32} {b2 : Int32} {b3 : Int32} {k : Int32 → Mm → Option ((Int32) × Mm)} {res : (Int32) × Mm} (hr : meth.sig.returnType = (some .int)) (hlk : meth.locks = false) (E : EE p s m args c cX8_search 16 RX8 D cy) : ∀ (n : Nat) (a4 : Int32) (u : Mm) (H : Heap) (locs : List Loc) (ls : Array Slot), MM D cy sz H0 u H locs → lv_has ls 16 [(0, .ref (sz + b0)), (1, .int b1), (2, .int b2), (3, .int b3), (4, .int a4)] → L_X8_search_136 b0 b1 b2 b3 k n a4 u = some res → (∀ (a4 : Int32) (u : Mm) (H : Heap) (locs : List Loc) (ls : Array Slot), MM D cy sz H0 u H locs → lv_has ls 16 [(0, .ref (sz + b0)), (1, .int b1), (2, .int b2), (3, .int b3), (4, .int a4)] → k a4 u = some res → W p l e rm_X8_search s m args below meth c H locs 0 0 (MQ below (Post D cy sz H0 (some (.int res.1)) res.2) args s 0 0 (fun q => sz ≤ q)) (F0 m 236 ls [])) → W p l e rm_X8_search s m args below meth c H locs 0 0 (MQ below (Post D cy sz H0 (some (.int res.1)) res.2) args s 0 0 (fun q => sz ≤ q)) (F0 m 136 ls []) := by
  obtain ⟨hx, hb, hml, hown, hts, hKK⟩ := id E
  intro n
  induction n with
  | zero => intros; rename_i h _; cases h
  | succ n ih =>
    intro a4 u H locs ls hM hl h hk
    rw [L_X8_search_136] at h
    refine lv_iload hx hb dX8_search_136 (lv_at hl 4 rfl) ?_
    refine lv_iload_n hx hb dX8_search_138 rfl (lv_at hl 2 rfl) ?_
    refine lv_icmp_ge (tgt := 236) hx hb dX8_search_139 (by decide) (fun c28 => ?_) (fun c28 => ?_)
    · replace h := (k_if h).1 c28
      exact hk a4 u H locs ls hM (lv_sub hl [0, 1, 2, 3, 4] rfl) h
    · replace h := (k_if h).2 c28
      refine lv_iload hx hb dX8_search_142 (lv_at hl 4 rfl) ?_
      refine lv_istore (i := 5) (lv' := [(5, .int a4), (0, .ref (sz + b0)), (1, .int b1), (2, .int b2), (3, .int b3), (4, .int a4)]) hx hb dX8_search_144 hl (by decide) (by first | rfl | simp [rv_cat, cat_i, cat_l, cat_r, cat_n]) (fun ls hl => ?_)
      refine lp_X8_search_146 hr hlk  E 1000 a4 u H locs ls hM (lv_sub hl [1, 2, 3, 4, 5, 0] rfl) h (fun a49 u50 H locs ls hM hl h => ?_)
      refine lv_aload_n hx hb dX8_search_221 rfl (lv_at hl 0 rfl) ?_
      obtain ⟨ok51, h⟩ := k_gd h
      refine gs_X8_90 E hM ok51 dX8_search_222 (fun x52 hxx52 => ?_)
      replace h := k_bb h x52 hxx52.symm
      refine lv_iload hx hb dX8_search_225 (lv_at hl 5 rfl) ?_
      refine lv_iload hx hb dX8_search_227 (lv_at hl 4 rfl) ?_
      rcases x52 with _ | k53
      · cases h
      rw [cs_s] at h
      obtain ⟨ok54, h⟩ := k_gd h
      refine m_iast E hM ok54 dX8_search_229 (fun H locs hM => ?_)
      obtain ⟨v55, hvv55⟩ : ∃ y : Int32, y = a4 + (1) := ⟨_, rfl⟩
      replace h := k_bb h v55 hvv55
      refine lv_iinc (v := v55) (lv' := [(4, .int v55), (0, .ref (sz + b0)), (1, .int b1), (2, .int b2), (3, .int b3), (5, .int a49)]) hx hb dX8_search_230 hl (k := 4) rfl (by rw [hvv55]; rfl) (by decide) (by first | rfl | simp [rv_cat, cat_i, cat_l, cat_r, cat_n]) (fun ls hl => ?_)
      refine lv_goto (tgt := 136) hx hb dX8_search_233 (by decide) ?_
      exact ih v55 (sI u50 k53 (Int32.toNatClampNeg a49) a4) H locs ls hM (lv_sub hl [1, 2, 3, 4, 0] rfl) h hk

def L_X8_search_248 (b0 : Nat) (b1 : Int32) (b2 : Int32) (b3 : Int32) (u : Mm) (k : Int64 → Int64 → Int64 → Int32 → Option ((Int32) × Mm)) : Nat → Int64 → Int64 → Int64 → Int32 → Option ((Int32) × Mm)
  | 0, _, _, _, _ => none
  | n + 1, a4, a6, a8, a10 => (if b2 ≤ a10 then k a4 a6 a8 a10 else gd (okO u b0 8) (bb (gR u b0 32) (fun x60 => cs x60 none (fun k61 => gd (okA u k61 9 a10) (bd (f_X8_costOf b0 b1 (gI u k61 (Int32.toNatClampNeg a10)) u) (fun w63 => bb ((a4 + w63)) (fun v64 => bb (gR u b0 32) (fun x65 => cs x65 none (fun k66 => gd (okA u k66 9 a10) (bd (f_X8_weightOf b0 b1 (gI u k66 (Int32.toNatClampNeg a10)) u) (fun w68 => bb ((a6 + (w68 * v64))) (fun v69 => bb (gR u b0 32) (fun x70 => cs x70 none (fun k71 => gd (okA u k71 9 a10) (bd (f_X8_weightOf b0 b1 (gI u k71 (Int32.toNatClampNeg a10)) u) (fun w73 => bb ((a8 + w73)) (fun v74 => bb (a10 + (1)) (fun v75 => L_X8_search_248 b0 b1 b2 b3 u k n v64 v69 v74 v75))))))))))))))))))
set_option maxHeartbeats 4000000 in
set_option maxRecDepth 100000 in
theorem lp_X8_search_248 {p : Program} {l : Launch} {e : Env} {s : State} {m : MethodId} {args : Array Value} {below : List Frame} {meth : Method} {c : Code} {D : va_G} {cy : Nat → ClassId} {sz : Nat} {H0 : Heap} {b0 : Nat} {b1 : Int32} {b2 : Int32} {b3 : Int32} {u : Mm} {k : Int64 → Int64 → Int64 → Int32 → Option ((Int32) × Mm)} {res : (Int32) × Mm} (hr : meth.sig.returnType = (some .int)) (hlk : meth.locks = false) (E : EE p s m args c cX8_search 16 RX8 D cy) : ∀ (n : Nat) (a4 : Int64) (a6 : Int64) (a8 : Int64) (a10 : Int32) (H : Heap) (locs : List Loc) (ls : Array Slot), MM D cy sz H0 u H locs → lv_has ls 16 [(0, .ref (sz + b0)), (1, .int b1), (2, .int b2), (3, .int b3), (4, .long a4), (6, .long a6), (8, .long a8), (10, .int a10)] → L_X8_search_248 b0 b1 b2 b3 u k n a4 a6 a8 a10 = some res → (∀ (a4 : Int64) (a6 : Int64) (a8 : Int64) (a10 : Int32) (H : Heap) (locs : List Loc) (ls : Array Slot), MM D cy sz H0 u H locs → lv_has ls 16 [(0, .ref (sz + b0)), (1, .int b1), (2, .int b2), (3, .int b3), (4, .long a4), (6, .long a6), (8, .long a8), (10, .int a10)] → k a4 a6 a8 a10 = some res → W p l e rm_X8_search s m args below meth c H locs 0 0 (MQ below (Post D cy sz H0 (some (.int res.1)) res.2) args s 0 0 (fun q => sz ≤ q)) (F0 m 314 ls [])) → W p l e rm_X8_search s m args below meth c H locs 0 0 (MQ below (Post D cy sz H0 (some (.int res.1)) res.2) args s 0 0 (fun q => sz ≤ q)) (F0 m 248 ls []) := by
  obtain ⟨hx, hb, hml, hown, hts, hKK⟩ := id E
  intro n
  induction n with
  | zero => intros; rename_i h _; cases h
  | succ n ih =>
    intro a4 a6 a8 a10 H locs ls hM hl h hk
    rw [L_X8_search_248] at h
    refine lv_iload hx hb dX8_search_248 (lv_at hl 7 rfl) ?_
    refine lv_iload_n hx hb dX8_search_250 rfl (lv_at hl 2 rfl) ?_
    refine lv_icmp_ge (tgt := 314) hx hb dX8_search_251 (by decide) (fun c58 => ?_) (fun c58 => ?_)
    · replace h := (k_if h).1 c58
      exact hk a4 a6 a8 a10 H locs ls hM (lv_sub hl [0, 1, 2, 3, 4, 5, 6, 7] rfl) h
    · replace h := (k_if h).2 c58
      refine lv_lload hx hb dX8_search_254 (lv_at hl 4 rfl) ?_
      refine lv_aload_n hx hb dX8_search_256 rfl (lv_at hl 0 rfl) ?_
      refine lv_iload_n hx hb dX8_search_257 rfl (lv_at hl 1 rfl) ?_
      refine lv_aload_n hx hb dX8_search_258 rfl (lv_at hl 0 rfl) ?_
      obtain ⟨ok59, h⟩ := k_gd h
      refine gs_X8_90 E hM ok59 dX8_search_259 (fun x60 hxx60 => ?_)
      replace h := k_bb h x60 hxx60.symm
      refine lv_iload hx hb dX8_search_262 (lv_at hl 7 rfl) ?_
      rcases x60 with _ | k61
      · cases h
      rw [cs_s] at h
      obtain ⟨ok62, h⟩ := k_gd h
      refine m_iald E hM ok62 dX8_search_264 ?_
      obtain ⟨w63, hzw63, h⟩ := k_bd h
      refine m_callV (C := RX8) (T := TX8) (N := 33) (ci := 8) (n := 2) (As := [.int b1, .int (gI u k61 (Int32.toNatClampNeg a10))]) (rest := [.long a4]) (st1 := (.long w63 :: [.long a4])) E hM hl.1 ok59 (by decide) rfl rfl (c_X8_costOf l D cy sz H0 u b0 b1 (gI u k61 (Int32.toNatClampNeg a10)) hzw63) wl_X8_202 wm_X8_costOf ws_X8_costOf wi_X8 wd_X8_costOf rfl rfl (by decide +kernel) ⟨by decide, by decide⟩ rfl rfl (by first | exact Nat.le_of_ble_eq_true rfl | simp [rv_cat, cat_i, cat_l, cat_r, cat_n]) dX8_search_265 ⟨by decide, by decide⟩ rfl (fun H locs hM => ?_)
      refine lv_ladd hx hb dX8_search_268 ?_
      refine lv_topl (fun v64 hvv64 => ?_)
      replace h := k_bb h v64 hvv64
      refine lv_lstore (i := 4) (lv' := [(4, .long v64), (0, .ref (sz + b0)), (1, .int b1), (2, .int b2), (3, .int b3), (6, .long a6), (8, .long a8), (10, .int a10)]) hx hb dX8_search_269 hl (by decide) (by first | rfl | simp [rv_cat, cat_i, cat_l, cat_r, cat_n]) (fun ls hl => ?_)
      refine lv_lload hx hb dX8_search_271 (lv_at hl 5 rfl) ?_
      refine lv_aload_n hx hb dX8_search_273 rfl (lv_at hl 1 rfl) ?_
      refine lv_iload_n hx hb dX8_search_274 rfl (lv_at hl 2 rfl) ?_
      refine lv_aload_n hx hb dX8_search_275 rfl (lv_at hl 1 rfl) ?_
      refine gs_X8_90 E hM ok59 dX8_search_276 (fun x65 hxx65 => ?_)
      replace h := k_bb h x65 hxx65.symm
      refine lv_iload hx hb dX8_search_279 (lv_at hl 7 rfl) ?_
      rcases x65 with _ | k66
      · cases h
      rw [cs_s] at h
      obtain ⟨ok67, h⟩ := k_gd h
      refine m_iald E hM ok67 dX8_search_281 ?_
      obtain ⟨w68, hzw68, h⟩ := k_bd h
      refine m_callV (C := RX8) (T := TX8) (N := 33) (ci := 8) (n := 2) (As := [.int b1, .int (gI u k66 (Int32.toNatClampNeg a10))]) (rest := [.long a6]) (st1 := (.long w68 :: [.long a6])) E hM hl.1 ok59 (by decide) rfl rfl (c_X8_weightOf l D cy sz H0 u b0 b1 (gI u k66 (Int32.toNatClampNeg a10)) hzw68) wl_X8_206 wm_X8_weightOf ws_X8_weightOf wi_X8 wd_X8_weightOf rfl rfl (by decide +kernel) ⟨by decide, by decide⟩ rfl rfl (by first | exact Nat.le_of_ble_eq_true rfl | simp [rv_cat, cat_i, cat_l, cat_r, cat_n]) dX8_search_282 ⟨by decide, by decide⟩ rfl (fun H locs hM => ?_)
      refine lv_lload hx hb dX8_search_285 (lv_at hl 0 rfl) ?_
      refine lv_lmul hx hb dX8_search_287 ?_
      refine lv_ladd hx hb dX8_search_288 ?_
      refine lv_topl (fun v69 hvv69 => ?_)
      replace h := k_bb h v69 hvv69
      refine lv_lstore (i := 6) (lv' := [(6, .long v69), (4, .long v64), (0, .ref (sz + b0)), (1, .int b1), (2, .int b2), (3, .int b3), (8, .long a8), (10, .int a10)]) hx hb dX8_search_289 hl (by decide) (by first | rfl | simp [rv_cat, cat_i, cat_l, cat_r, cat_n]) (fun ls hl => ?_)
      refine lv_lload hx hb dX8_search_291 (lv_at hl 6 rfl) ?_
      refine lv_aload_n hx hb dX8_search_293 rfl (lv_at hl 2 rfl) ?_
      refine lv_iload_n hx hb dX8_search_294 rfl (lv_at hl 3 rfl) ?_
      refine lv_aload_n hx hb dX8_search_295 rfl (lv_at hl 2 rfl) ?_
      refine gs_X8_90 E hM ok59 dX8_search_296 (fun x70 hxx70 => ?_)
      replace h := k_bb h x70 hxx70.symm
      refine lv_iload hx hb dX8_search_299 (lv_at hl 7 rfl) ?_
      rcases x70 with _ | k71
      · cases h
      rw [cs_s] at h
      obtain ⟨ok72, h⟩ := k_gd h
      refine m_iald E hM ok72 dX8_search_301 ?_
      obtain ⟨w73, hzw73, h⟩ := k_bd h
      refine m_callV (C := RX8) (T := TX8) (N := 33) (ci := 8) (n := 2) (As := [.int b1, .int (gI u k71 (Int32.toNatClampNeg a10))]) (rest := [.long a8]) (st1 := (.long w73 :: [.long a8])) E hM hl.1 ok59 (by decide) rfl rfl (c_X8_weightOf l D cy sz H0 u b0 b1 (gI u k71 (Int32.toNatClampNeg a10)) hzw73) wl_X8_206 wm_X8_weightOf ws_X8_weightOf wi_X8 wd_X8_weightOf rfl rfl (by decide +kernel) ⟨by decide, by decide⟩ rfl rfl (by first | exact Nat.le_of_ble_eq_true rfl | simp [rv_cat, cat_i, cat_l, cat_r, cat_n]) dX8_search_302 ⟨by decide, by decide⟩ rfl (fun H locs hM => ?_)
      refine lv_ladd hx hb dX8_search_305 ?_
      refine lv_topl (fun v74 hvv74 => ?_)
      replace h := k_bb h v74 hvv74
      refine lv_lstore (i := 8) (lv' := [(8, .long v74), (6, .long v69), (4, .long v64), (0, .ref (sz + b0)), (1, .int b1), (2, .int b2), (3, .int b3), (10, .int a10)]) hx hb dX8_search_306 hl (by decide) (by first | rfl | simp [rv_cat, cat_i, cat_l, cat_r, cat_n]) (fun ls hl => ?_)
      obtain ⟨v75, hvv75⟩ : ∃ y : Int32, y = a10 + (1) := ⟨_, rfl⟩
      replace h := k_bb h v75 hvv75
      refine lv_iinc (v := v75) (lv' := [(10, .int v75), (8, .long v74), (6, .long v69), (4, .long v64), (0, .ref (sz + b0)), (1, .int b1), (2, .int b2), (3, .int b3)]) hx hb dX8_search_308 hl (k := 7) rfl (by rw [hvv75]; rfl) (by decide) (by first | rfl | simp [rv_cat, cat_i, cat_l, cat_r, cat_n]) (fun ls hl => ?_)
      refine lv_goto (tgt := 248) hx hb dX8_search_311 (by decide) ?_
      exact ih v64 v69 v74 v75 H locs ls hM (lv_sub hl [4, 5, 6, 7, 3, 2, 1, 0] rfl) h hk

def L_X8_search_322 (b0 : Nat) (b1 : Int32) (b2 : Int32) (b3 : Int32) (b4 : Int64) (b6 : Int64) (b8 : Int64) (u : Mm) (k : Int64 → Int64 → Option ((Int32) × Mm)) : Nat → Int64 → Int64 → Option ((Int32) × Mm)
  | 0, _, _ => none
  | n + 1, a10, a12 => (if (lg_cmp a12 (0 : Int64)) = 0 then k a10 a12 else gd (decide (¬ a12 = 0)) (bb ((a10 - a10 / a12 * a12)) (fun v82 => L_X8_search_322 b0 b1 b2 b3 b4 b6 b8 u k n a12 v82)))
set_option maxHeartbeats 4000000 in
set_option maxRecDepth 100000 in
theorem lp_X8_search_322 {p : Program} {l : Launch} {e : Env} {s : State} {m : MethodId} {args : Array Value} {below : List Frame} {meth : Method} {c : Code} {D : va_G} {cy : Nat → ClassId} {sz : Nat} {H0 : Heap} {b0 : Nat} {b1 : Int32} {b2 : Int32} {b3 : Int32} {b4 : Int64} {b6 : Int64} {b8 : Int64} {u : Mm} {k : Int64 → Int64 → Option ((Int32) × Mm)} {res : (Int32) × Mm} (hr : meth.sig.returnType = (some .int)) (hlk : meth.locks = false) (E : EE p s m args c cX8_search 16 RX8 D cy) : ∀ (n : Nat) (a10 : Int64) (a12 : Int64) (H : Heap) (locs : List Loc) (ls : Array Slot), MM D cy sz H0 u H locs → lv_has ls 16 [(0, .ref (sz + b0)), (1, .int b1), (2, .int b2), (3, .int b3), (4, .long b4), (6, .long b6), (8, .long b8), (10, .long a10), (12, .long a12)] → L_X8_search_322 b0 b1 b2 b3 b4 b6 b8 u k n a10 a12 = some res → (∀ (a10 : Int64) (a12 : Int64) (H : Heap) (locs : List Loc) (ls : Array Slot), MM D cy sz H0 u H locs → lv_has ls 16 [(0, .ref (sz + b0)), (1, .int b1), (2, .int b2), (3, .int b3), (4, .long b4), (6, .long b6), (8, .long b8), (10, .long a10), (12, .long a12)] → k a10 a12 = some res → W p l e rm_X8_search s m args below meth c H locs 0 0 (MQ below (Post D cy sz H0 (some (.int res.1)) res.2) args s 0 0 (fun q => sz ≤ q)) (F0 m 347 ls [])) → W p l e rm_X8_search s m args below meth c H locs 0 0 (MQ below (Post D cy sz H0 (some (.int res.1)) res.2) args s 0 0 (fun q => sz ≤ q)) (F0 m 322 ls []) := by
  obtain ⟨hx, hb, hml, hown, hts, hKK⟩ := id E
  intro n
  induction n with
  | zero => intros; rename_i h _; cases h
  | succ n ih =>
    intro a10 a12 H locs ls hM hl h hk
    rw [L_X8_search_322] at h
    refine lv_lload hx hb dX8_search_322 (lv_at hl 8 rfl) ?_
    refine lv_lconst (v := 0) hx hb dX8_search_324 (by decide) ?_
    refine W.lcmp hx hb dX8_search_325 ?_
    refine lv_if_eq (tgt := 347) hx hb dX8_search_326 (by decide) (fun c80 => ?_) (fun c80 => ?_)
    · replace h := (k_if h).1 c80
      exact hk a10 a12 H locs ls hM (lv_sub hl [0, 1, 2, 3, 4, 5, 6, 7, 8] rfl) h
    · replace h := (k_if h).2 c80
      refine lv_lload hx hb dX8_search_329 (lv_at hl 7 rfl) ?_
      refine lv_lload hx hb dX8_search_331 (lv_at hl 8 rfl) ?_
      obtain ⟨nz81, h⟩ := k_gd h
      refine lv_lrem hx hb dX8_search_333 (of_decide_eq_true nz81) ?_
      refine lv_topl (fun v82 hvv82 => ?_)
      replace h := k_bb h v82 hvv82
      refine lv_lstore (i := 14) (lv' := [(14, .long v82), (0, .ref (sz + b0)), (1, .int b1), (2, .int b2), (3, .int b3), (4, .long b4), (6, .long b6), (8, .long b8), (10, .long a10), (12, .long a12)]) hx hb dX8_search_334 hl (by decide) (by first | rfl | simp [rv_cat, cat_i, cat_l, cat_r, cat_n]) (fun ls hl => ?_)
      refine lv_lload hx hb dX8_search_336 (lv_at hl 9 rfl) ?_
      refine lv_lstore (i := 10) (lv' := [(10, .long a12), (14, .long v82), (0, .ref (sz + b0)), (1, .int b1), (2, .int b2), (3, .int b3), (4, .long b4), (6, .long b6), (8, .long b8), (12, .long a12)]) hx hb dX8_search_338 hl (by decide) (by first | rfl | simp [rv_cat, cat_i, cat_l, cat_r, cat_n]) (fun ls hl => ?_)
      refine lv_lload hx hb dX8_search_340 (lv_at hl 1 rfl) ?_
      refine lv_lstore (i := 12) (lv' := [(12, .long v82), (10, .long a12), (14, .long v82), (0, .ref (sz + b0)), (1, .int b1), (2, .int b2), (3, .int b3), (4, .long b4), (6, .long b6), (8, .long b8)]) hx hb dX8_search_342 hl (by decide) (by first | rfl | simp [rv_cat, cat_i, cat_l, cat_r, cat_n]) (fun ls hl => ?_)
      refine lv_goto (tgt := 322) hx hb dX8_search_344 (by decide) ?_
      exact ih a12 v82 H locs ls hM (lv_sub hl [3, 4, 5, 6, 7, 8, 9, 1, 0] rfl) h hk

def f_X8_search (r : Nat) (p1 : Int32) (p2 : Int32) (p3 : Int32) (u : Mm) : Option ((Int32) × Mm) := gd (okO u r 8) (bd (f_X8_trayed r p1 (sI u r 1 (0 : Int32))) (fun w2 => (if (gI (sI (sI u r 1 (0 : Int32)) r 0 w2) r 0) ≤ 0 then (if p2 < (1 : Int32) then bd (f_X8_refuse r (5 : Int32) (sI (sI u r 1 (0 : Int32)) r 0 w2)) (fun w5 => some (w5.1, w5.2)) else (if p2 ≤ (20 : Int32) then bb (gR (sI (sI u r 1 (0 : Int32)) r 0 w2) r 5) (fun x7 => cs x7 none (fun k8 => gd (okA (sI (sI u r 1 (0 : Int32)) r 0 w2) k8 9 p1) ((if ((2 : Int32) * p2) ≤ (gI (sI (sI u r 1 (0 : Int32)) r 0 w2) k8 (Int32.toNatClampNeg p1)) then L_X8_search_61 r p1 p2 p3 (sI (sI u r 1 (0 : Int32)) r 0 w2) (fun a24 => (if p3 < 0 then bd (f_X8_refuse r (9 : Int32) (sI (sI u r 1 (0 : Int32)) r 0 w2)) (fun w26 => some (w26.1, w26.2)) else (if p3 < p2 then L_X8_search_136 r p1 p2 p3  (fun a56 u57 => L_X8_search_248 r p1 p2 p3 u57 (fun a76 a77 a78 a79 => L_X8_search_322 r p1 p2 p3 a76 a77 a78 u57 (fun a83 a84 => gd (decide (¬ a83 = 0)) (gd (okO u57 r 8) (gd (decide (¬ a83 = 0)) (bb (gR (sL (sL u57 r 2 (a77 / a83)) r 3 (a78 / a83)) r 32) (fun x88 => cs x88 none (fun k89 => gd (okA (sL (sL u57 r 2 (a77 / a83)) r 3 (a78 / a83)) k89 9 p3) (some ((gI (sL (sL u57 r 2 (a77 / a83)) r 3 (a78 / a83)) k89 (Int32.toNatClampNeg p3)), (sL (sL u57 r 2 (a77 / a83)) r 3 (a78 / a83)))))))))) 1000 a77 a78 ) 1000 (0 : Int64) (0 : Int64) (0 : Int64) (0 : Int32) ) 1000 (0 : Int32) (sI (sI u r 1 (0 : Int32)) r 0 w2) else bd (f_X8_refuse r (9 : Int32) (sI (sI u r 1 (0 : Int32)) r 0 w2)) (fun w91 => some (w91.1, w91.2))))) 1000 (0 : Int32)  else bd (f_X8_refuse r (4 : Int32) (sI (sI u r 1 (0 : Int32)) r 0 w2)) (fun w92 => some (w92.1, w92.2)))))) else bd (f_X8_refuse r (5 : Int32) (sI (sI u r 1 (0 : Int32)) r 0 w2)) (fun w93 => some (w93.1, w93.2)))) else some ((-1 : Int32), (sI (sI u r 1 (0 : Int32)) r 0 w2)))))
set_option maxHeartbeats 4000000 in
set_option maxRecDepth 100000 in
theorem c_X8_search (l : Launch) (D : va_G) (cy : Nat → ClassId) (sz : Nat) (H0 : Heap) (u : Mm) (r : Nat) (p1 : Int32) (p2 : Int32) (p3 : Int32) {res : (Int32) × Mm} (h : f_X8_search r p1 p2 p3 u = some res) : Ctr l yX8_search cX8_search 16 (some .int) rm_X8_search 0 0 D cy sz H0 u [.ref (sz + r), .int p1, .int p2, .int p3] (some (.int res.1)) res.2 := by
  refine m_start (lv := [(0, .ref (sz + r)), (1, .int p1), (2, .int p2), (3, .int p3)]) (by decide) (by first | exact Nat.le_of_ble_eq_true rfl | simp [lg_sl, rv_cat, cat_i, cat_l, cat_r, cat_n]) (by first | rfl | simp [lv_args, rv_cat, cat_i, cat_l, cat_r, cat_n]) ?_
  intro p e s m below meth c ls E hr hlk hinit hM hl
  obtain ⟨hx, hb, hml, hown, hts, hKK⟩ := id E
  obtain ⟨H, hH⟩ : ∃ H, H = s.heap := ⟨_, rfl⟩
  obtain ⟨locs, hlocs⟩ : ∃ L : List Loc, L = [] := ⟨_, rfl⟩
  rw [← hH, ← hlocs] at hM ⊢
  unfold f_X8_search at h
  refine lv_aload_n hx hb dX8_search_0 rfl (lv_at hl 0 rfl) ?_
  refine lv_iconst (v := 0) hx hb dX8_search_1 (by decide) ?_
  obtain ⟨ok1, h⟩ := k_gd h
  refine ps_X8_93 (v := (0 : Int32)) E hM ok1 dX8_search_2 (fun H locs hM => ?_)
  refine lv_aload_n hx hb dX8_search_5 rfl (lv_at hl 0 rfl) ?_
  refine lv_aload_n hx hb dX8_search_6 rfl (lv_at hl 0 rfl) ?_
  refine lv_iload_n hx hb dX8_search_7 rfl (lv_at hl 1 rfl) ?_
  obtain ⟨w2, hzw2, h⟩ := k_bd h
  refine m_callV (C := RX8) (T := TX8) (N := 33) (ci := 8) (n := 1) (As := [.int p1]) (rest := [.ref (sz + r)]) (st1 := (.int w2 :: [.ref (sz + r)])) E hM hl.1 ok1 (by decide) rfl rfl (c_X8_trayed l D cy sz H0 (sI u r 1 (0 : Int32)) r p1 hzw2) wl_X8_104 wm_X8_trayed ws_X8_trayed wi_X8 wd_X8_trayed rfl rfl (by decide +kernel) ⟨by decide, by decide⟩ rfl rfl (by first | exact Nat.le_of_ble_eq_true rfl | simp [rv_cat, cat_i, cat_l, cat_r, cat_n]) dX8_search_8 ⟨by decide, by decide⟩ rfl (fun H locs hM => ?_)
  refine ps_X8_97 (v := w2) E hM ok1 dX8_search_11 (fun H locs hM => ?_)
  refine lv_aload_n hx hb dX8_search_14 rfl (lv_at hl 0 rfl) ?_
  refine gs_X8_97 E hM ok1 dX8_search_15 ?_
  refine lv_if_le (tgt := 23) hx hb dX8_search_18 (by decide) (fun c3 => ?_) (fun c3 => ?_)
  · replace h := (k_if h).1 c3
    refine lv_iload_n hx hb dX8_search_23 rfl (lv_at hl 2 rfl) ?_
    refine lv_iconst (v := 1) hx hb dX8_search_24 (by decide) ?_
    refine lv_icmp_lt (tgt := 34) hx hb dX8_search_25 (by decide) (fun c4 => ?_) (fun c4 => ?_)
    · replace h := (k_if h).1 c4
      refine lv_aload_n hx hb dX8_search_34 rfl (lv_at hl 0 rfl) ?_
      refine lv_iconst (v := 5) hx hb dX8_search_35 (by decide) ?_
      obtain ⟨w5, hzw5, h⟩ := k_bd h
      refine m_callV (C := RX8) (T := TX8) (N := 33) (ci := 8) (n := 1) (As := [.int (5 : Int32)]) (rest := []) (st1 := (.int w5.1 :: [])) E hM hl.1 ok1 (by decide) rfl rfl (c_X8_refuse l D cy sz H0 (sI (sI u r 1 (0 : Int32)) r 0 w2) r (5 : Int32) hzw5) wl_X8_121 wm_X8_refuse ws_X8_refuse wi_X8 wd_X8_refuse rfl rfl (by decide +kernel) ⟨by decide, by decide⟩ rfl rfl (by first | exact Nat.le_of_ble_eq_true rfl | simp [rv_cat, cat_i, cat_l, cat_r, cat_n]) dX8_search_36 ⟨by decide, by decide⟩ rfl (fun H locs hM => ?_)
      cases h
      exact m_iret hx hb hr hlk hM rfl rfl dX8_search_39
    · replace h := (k_if h).2 c4
      refine lv_iload_n hx hb dX8_search_28 rfl (lv_at hl 2 rfl) ?_
      refine lv_bipush (v := 20) hx hb dX8_search_29 (by decide) ?_
      refine lv_icmp_le (tgt := 40) hx hb dX8_search_31 (by decide) (fun c6 => ?_) (fun c6 => ?_)
      · replace h := (k_if h).1 c6
        refine lv_iconst (v := 2) hx hb dX8_search_40 (by decide) ?_
        refine lv_iload_n hx hb dX8_search_41 rfl (lv_at hl 2 rfl) ?_
        refine lv_imul hx hb dX8_search_42 ?_
        refine lv_aload_n hx hb dX8_search_43 rfl (lv_at hl 0 rfl) ?_
        refine gs_X8_17 E hM ok1 dX8_search_44 (fun x7 hxx7 => ?_)
        replace h := k_bb h x7 hxx7.symm
        refine lv_iload_n hx hb dX8_search_47 rfl (lv_at hl 1 rfl) ?_
        rcases x7 with _ | k8
        · cases h
        rw [cs_s] at h
        obtain ⟨ok9, h⟩ := k_gd h
        refine m_iald E hM ok9 dX8_search_48 ?_
        refine lv_icmp_le (tgt := 58) hx hb dX8_search_49 (by decide) (fun c10 => ?_) (fun c10 => ?_)
        · replace h := (k_if h).1 c10
          refine lv_iconst (v := 0) hx hb dX8_search_58 (by decide) ?_
          refine lv_istore (i := 4) (lv' := [(4, .int (0 : Int32)), (0, .ref (sz + r)), (1, .int p1), (2, .int p2), (3, .int p3)]) hx hb dX8_search_59 hl (by decide) (by first | rfl | simp [rv_cat, cat_i, cat_l, cat_r, cat_n]) (fun ls hl => ?_)
          refine lp_X8_search_61 hr hlk  E 1000 (0 : Int32) H locs ls hM (lv_sub hl [1, 2, 3, 4, 0] rfl) h (fun a24 H locs ls hM hl h => ?_)
          refine lv_iload_n hx hb dX8_search_117 rfl (lv_at hl 3 rfl) ?_
          refine lv_if_lt (tgt := 126) hx hb dX8_search_118 (by decide) (fun c25 => ?_) (fun c25 => ?_)
          · replace h := (k_if h).1 c25
            refine lv_aload_n hx hb dX8_search_126 rfl (lv_at hl 0 rfl) ?_
            refine lv_bipush (v := 9) hx hb dX8_search_127 (by decide) ?_
            obtain ⟨w26, hzw26, h⟩ := k_bd h
            refine m_callV (C := RX8) (T := TX8) (N := 33) (ci := 8) (n := 1) (As := [.int (9 : Int32)]) (rest := []) (st1 := (.int w26.1 :: [])) E hM hl.1 ok1 (by decide) rfl rfl (c_X8_refuse l D cy sz H0 (sI (sI u r 1 (0 : Int32)) r 0 w2) r (9 : Int32) hzw26) wl_X8_121 wm_X8_refuse ws_X8_refuse wi_X8 wd_X8_refuse rfl rfl (by decide +kernel) ⟨by decide, by decide⟩ rfl rfl (by first | exact Nat.le_of_ble_eq_true rfl | simp [rv_cat, cat_i, cat_l, cat_r, cat_n]) dX8_search_129 ⟨by decide, by decide⟩ rfl (fun H locs hM => ?_)
            cases h
            exact m_iret hx hb hr hlk hM rfl rfl dX8_search_132
          · replace h := (k_if h).2 c25
            refine lv_iload_n hx hb dX8_search_121 rfl (lv_at hl 3 rfl) ?_
            refine lv_iload_n hx hb dX8_search_122 rfl (lv_at hl 2 rfl) ?_
            refine lv_icmp_lt (tgt := 133) hx hb dX8_search_123 (by decide) (fun c27 => ?_) (fun c27 => ?_)
            · replace h := (k_if h).1 c27
              refine lv_iconst (v := 0) hx hb dX8_search_133 (by decide) ?_
              refine lv_istore (i := 4) (lv' := [(4, .int (0 : Int32)), (0, .ref (sz + r)), (1, .int p1), (2, .int p2), (3, .int p3)]) hx hb dX8_search_134 hl (by decide) (by first | rfl | simp [rv_cat, cat_i, cat_l, cat_r, cat_n]) (fun ls hl => ?_)
              refine lp_X8_search_136 hr hlk  E 1000 (0 : Int32) (sI (sI u r 1 (0 : Int32)) r 0 w2) H locs ls hM (lv_sub hl [1, 2, 3, 4, 0] rfl) h (fun a56 u57 H locs ls hM hl h => ?_)
              refine lv_lconst (v := 0) hx hb dX8_search_236 (by decide) ?_
              refine lv_lstore (i := 4) (lv' := [(4, .long (0 : Int64)), (0, .ref (sz + r)), (1, .int p1), (2, .int p2), (3, .int p3)]) hx hb dX8_search_237 hl (by decide) (by first | rfl | simp [rv_cat, cat_i, cat_l, cat_r, cat_n]) (fun ls hl => ?_)
              refine lv_lconst (v := 0) hx hb dX8_search_239 (by decide) ?_
              refine lv_lstore (i := 6) (lv' := [(6, .long (0 : Int64)), (4, .long (0 : Int64)), (0, .ref (sz + r)), (1, .int p1), (2, .int p2), (3, .int p3)]) hx hb dX8_search_240 hl (by decide) (by first | rfl | simp [rv_cat, cat_i, cat_l, cat_r, cat_n]) (fun ls hl => ?_)
              refine lv_lconst (v := 0) hx hb dX8_search_242 (by decide) ?_
              refine lv_lstore (i := 8) (lv' := [(8, .long (0 : Int64)), (6, .long (0 : Int64)), (4, .long (0 : Int64)), (0, .ref (sz + r)), (1, .int p1), (2, .int p2), (3, .int p3)]) hx hb dX8_search_243 hl (by decide) (by first | rfl | simp [rv_cat, cat_i, cat_l, cat_r, cat_n]) (fun ls hl => ?_)
              refine lv_iconst (v := 0) hx hb dX8_search_245 (by decide) ?_
              refine lv_istore (i := 10) (lv' := [(10, .int (0 : Int32)), (8, .long (0 : Int64)), (6, .long (0 : Int64)), (4, .long (0 : Int64)), (0, .ref (sz + r)), (1, .int p1), (2, .int p2), (3, .int p3)]) hx hb dX8_search_246 hl (by decide) (by first | rfl | simp [rv_cat, cat_i, cat_l, cat_r, cat_n]) (fun ls hl => ?_)
              refine lp_X8_search_248 hr hlk  E 1000 (0 : Int64) (0 : Int64) (0 : Int64) (0 : Int32) H locs ls hM (lv_sub hl [4, 5, 6, 7, 3, 2, 1, 0] rfl) h (fun a76 a77 a78 a79 H locs ls hM hl h => ?_)
              refine lv_lload hx hb dX8_search_314 (lv_at hl 5 rfl) ?_
              refine lv_lstore (i := 10) (lv' := [(10, .long a77), (0, .ref (sz + r)), (1, .int p1), (2, .int p2), (3, .int p3), (4, .long a76), (6, .long a77), (8, .long a78)]) hx hb dX8_search_316 hl (by decide) (by first | rfl | simp [rv_cat, cat_i, cat_l, cat_r, cat_n]) (fun ls hl => ?_)
              refine lv_lload hx hb dX8_search_318 (lv_at hl 7 rfl) ?_
              refine lv_lstore (i := 12) (lv' := [(12, .long a78), (10, .long a77), (0, .ref (sz + r)), (1, .int p1), (2, .int p2), (3, .int p3), (4, .long a76), (6, .long a77), (8, .long a78)]) hx hb dX8_search_320 hl (by decide) (by first | rfl | simp [rv_cat, cat_i, cat_l, cat_r, cat_n]) (fun ls hl => ?_)
              refine lp_X8_search_322 hr hlk  E 1000 a77 a78 H locs ls hM (lv_sub hl [2, 3, 4, 5, 6, 7, 8, 1, 0] rfl) h (fun a83 a84 H locs ls hM hl h => ?_)
              refine lv_aload_n hx hb dX8_search_347 rfl (lv_at hl 0 rfl) ?_
              refine lv_lload hx hb dX8_search_348 (lv_at hl 5 rfl) ?_
              refine lv_lload hx hb dX8_search_350 (lv_at hl 7 rfl) ?_
              obtain ⟨nz85, h⟩ := k_gd h
              refine lv_ldiv hx hb dX8_search_352 (of_decide_eq_true nz85) ?_
              obtain ⟨ok86, h⟩ := k_gd h
              refine ps_X8_209 (v := (a77 / a83)) E hM ok86 dX8_search_353 (fun H locs hM => ?_)
              refine lv_aload_n hx hb dX8_search_356 rfl (lv_at hl 0 rfl) ?_
              refine lv_lload hx hb dX8_search_357 (lv_at hl 6 rfl) ?_
              refine lv_lload hx hb dX8_search_359 (lv_at hl 7 rfl) ?_
              obtain ⟨nz87, h⟩ := k_gd h
              refine lv_ldiv hx hb dX8_search_361 (of_decide_eq_true nz87) ?_
              refine ps_X8_7 (v := (a78 / a83)) E hM ok86 dX8_search_362 (fun H locs hM => ?_)
              refine lv_aload_n hx hb dX8_search_365 rfl (lv_at hl 0 rfl) ?_
              refine gs_X8_90 E hM ok86 dX8_search_366 (fun x88 hxx88 => ?_)
              replace h := k_bb h x88 hxx88.symm
              refine lv_iload_n hx hb dX8_search_369 rfl (lv_at hl 3 rfl) ?_
              rcases x88 with _ | k89
              · cases h
              rw [cs_s] at h
              obtain ⟨ok90, h⟩ := k_gd h
              refine m_iald E hM ok90 dX8_search_370 ?_
              cases h
              exact m_iret hx hb hr hlk hM rfl rfl dX8_search_371
            · replace h := (k_if h).2 c27
              refine lv_aload_n hx hb dX8_search_126 rfl (lv_at hl 0 rfl) ?_
              refine lv_bipush (v := 9) hx hb dX8_search_127 (by decide) ?_
              obtain ⟨w91, hzw91, h⟩ := k_bd h
              refine m_callV (C := RX8) (T := TX8) (N := 33) (ci := 8) (n := 1) (As := [.int (9 : Int32)]) (rest := []) (st1 := (.int w91.1 :: [])) E hM hl.1 ok1 (by decide) rfl rfl (c_X8_refuse l D cy sz H0 (sI (sI u r 1 (0 : Int32)) r 0 w2) r (9 : Int32) hzw91) wl_X8_121 wm_X8_refuse ws_X8_refuse wi_X8 wd_X8_refuse rfl rfl (by decide +kernel) ⟨by decide, by decide⟩ rfl rfl (by first | exact Nat.le_of_ble_eq_true rfl | simp [rv_cat, cat_i, cat_l, cat_r, cat_n]) dX8_search_129 ⟨by decide, by decide⟩ rfl (fun H locs hM => ?_)
              cases h
              exact m_iret hx hb hr hlk hM rfl rfl dX8_search_132
        · replace h := (k_if h).2 c10
          refine lv_aload_n hx hb dX8_search_52 rfl (lv_at hl 0 rfl) ?_
          refine lv_iconst (v := 4) hx hb dX8_search_53 (by decide) ?_
          obtain ⟨w92, hzw92, h⟩ := k_bd h
          refine m_callV (C := RX8) (T := TX8) (N := 33) (ci := 8) (n := 1) (As := [.int (4 : Int32)]) (rest := []) (st1 := (.int w92.1 :: [])) E hM hl.1 ok1 (by decide) rfl rfl (c_X8_refuse l D cy sz H0 (sI (sI u r 1 (0 : Int32)) r 0 w2) r (4 : Int32) hzw92) wl_X8_121 wm_X8_refuse ws_X8_refuse wi_X8 wd_X8_refuse rfl rfl (by decide +kernel) ⟨by decide, by decide⟩ rfl rfl (by first | exact Nat.le_of_ble_eq_true rfl | simp [rv_cat, cat_i, cat_l, cat_r, cat_n]) dX8_search_54 ⟨by decide, by decide⟩ rfl (fun H locs hM => ?_)
          cases h
          exact m_iret hx hb hr hlk hM rfl rfl dX8_search_57
      · replace h := (k_if h).2 c6
        refine lv_aload_n hx hb dX8_search_34 rfl (lv_at hl 0 rfl) ?_
        refine lv_iconst (v := 5) hx hb dX8_search_35 (by decide) ?_
        obtain ⟨w93, hzw93, h⟩ := k_bd h
        refine m_callV (C := RX8) (T := TX8) (N := 33) (ci := 8) (n := 1) (As := [.int (5 : Int32)]) (rest := []) (st1 := (.int w93.1 :: [])) E hM hl.1 ok1 (by decide) rfl rfl (c_X8_refuse l D cy sz H0 (sI (sI u r 1 (0 : Int32)) r 0 w2) r (5 : Int32) hzw93) wl_X8_121 wm_X8_refuse ws_X8_refuse wi_X8 wd_X8_refuse rfl rfl (by decide +kernel) ⟨by decide, by decide⟩ rfl rfl (by first | exact Nat.le_of_ble_eq_true rfl | simp [rv_cat, cat_i, cat_l, cat_r, cat_n]) dX8_search_36 ⟨by decide, by decide⟩ rfl (fun H locs hM => ?_)
        cases h
        exact m_iret hx hb hr hlk hM rfl rfl dX8_search_39
  · replace h := (k_if h).2 c3
    refine lv_iconst (v := (-1)) hx hb dX8_search_21 (by decide) ?_
    cases h
    exact m_iret hx hb hr hlk hM rfl rfl dX8_search_22

