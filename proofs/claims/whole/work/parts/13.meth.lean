abbrev rm_X4_nextBox : Room := { frames := 1, cells := 0, slots := 0, locals := 36 }
def L_X4_nextBox_4 (b0 : Nat) (u : Mm) (k : Int32 → Int32 → Option (Int32)) : Nat → Int32 → Int32 → Option (Int32)
  | 0, _, _ => none
  | n + 1, a1, a2 => (if (80 : Int32) ≤ a2 then k a1 a2 else gd (okO u b0 4) (bd (f_X4_isAstray b0 a2 u) (fun w3 => (if w3 = 0 then bb (a2 + (1)) (fun v5 => L_X4_nextBox_4 b0 u k n a1 v5) else bd (f_X4_isGoalEmpty b0 a2 u) (fun w6 => (if w6 = 0 then (if a1 = (-1 : Int32) then bb (a2 + (1)) (fun v10 => L_X4_nextBox_4 b0 u k n a2 v10) else bb (a2 + (1)) (fun v9 => L_X4_nextBox_4 b0 u k n a1 v9)) else some a2))))))
set_option maxHeartbeats 4000000 in
set_option maxRecDepth 100000 in
theorem lp_X4_nextBox_4 {p : Program} {l : Launch} {e : Env} {s : State} {m : MethodId} {args : Array Value} {below : List Frame} {meth : Method} {c : Code} {D : va_G} {cy : Nat → ClassId} {sz : Nat} {H0 : Heap} {b0 : Nat} {u : Mm} {k : Int32 → Int32 → Option (Int32)} {res : Int32} (hr : meth.sig.returnType = (some .int)) (hlk : meth.locks = false) (E : EE p s m args c cX4_nextBox 3 RX4 D cy) : ∀ (n : Nat) (a1 : Int32) (a2 : Int32) (H : Heap) (locs : List Loc) (ls : Array Slot), MM D cy sz H0 u H locs → lv_has ls 3 [(0, .ref (sz + b0)), (1, .int a1), (2, .int a2)] → L_X4_nextBox_4 b0 u k n a1 a2 = some res → (∀ (a1 : Int32) (a2 : Int32) (H : Heap) (locs : List Loc) (ls : Array Slot), MM D cy sz H0 u H locs → lv_has ls 3 [(0, .ref (sz + b0)), (1, .int a1), (2, .int a2)] → k a1 a2 = some res → W p l e rm_X4_nextBox s m args below meth c H locs 0 0 (MQ below (Post D cy sz H0 (some (.int res)) u) args s 0 0 (fun q => sz ≤ q)) (F0 m 41 ls [])) → W p l e rm_X4_nextBox s m args below meth c H locs 0 0 (MQ below (Post D cy sz H0 (some (.int res)) u) args s 0 0 (fun q => sz ≤ q)) (F0 m 4 ls []) := by
  obtain ⟨hx, hb, hml, hown, hts, hKK⟩ := id E
  intro n
  induction n with
  | zero => intros; rename_i h _; cases h
  | succ n ih =>
    intro a1 a2 H locs ls hM hl h hk
    rw [L_X4_nextBox_4] at h
    refine lv_iload_n hx hb dX4_nextBox_4 rfl (lv_at hl 2 rfl) ?_
    refine lv_bipush (v := 80) hx hb dX4_nextBox_5 (by decide) ?_
    refine lv_icmp_ge (tgt := 41) hx hb dX4_nextBox_7 (by decide) (fun c1 => ?_) (fun c1 => ?_)
    · replace h := (k_if h).1 c1
      exact hk a1 a2 H locs ls hM (lv_sub hl [0, 1, 2] rfl) h
    · replace h := (k_if h).2 c1
      refine lv_aload_n hx hb dX4_nextBox_10 rfl (lv_at hl 0 rfl) ?_
      refine lv_iload_n hx hb dX4_nextBox_11 rfl (lv_at hl 2 rfl) ?_
      obtain ⟨ok2, h⟩ := k_gd h
      obtain ⟨w3, hzw3, h⟩ := k_bd h
      refine m_callV (C := RX4) (T := TX4) (N := 7) (ci := 4) (n := 1) (As := [.int a2]) (rest := []) (st1 := (.int w3 :: [])) E hM hl.1 ok2 (by decide) rfl rfl (c_X4_isAstray l D cy sz H0 u b0 a2 hzw3) wl_X4_67 wm_X4_isAstray ws_X4_isAstray wi_X4 wd_X4_isAstray rfl rfl (by decide +kernel) ⟨by decide, by decide⟩ rfl rfl (by first | exact Nat.le_of_ble_eq_true rfl | simp [rv_cat, cat_i, cat_l, cat_r, cat_n]) dX4_nextBox_12 ⟨by decide, by decide⟩ rfl (fun H locs hM => ?_)
      refine lv_if_eq (tgt := 35) hx hb dX4_nextBox_15 (by decide) (fun c4 => ?_) (fun c4 => ?_)
      · replace h := (k_if h).1 c4
        obtain ⟨v5, hvv5⟩ : ∃ y : Int32, y = a2 + (1) := ⟨_, rfl⟩
        replace h := k_bb h v5 hvv5
        refine lv_iinc (v := v5) (lv' := [(2, .int v5), (0, .ref (sz + b0)), (1, .int a1)]) hx hb dX4_nextBox_35 hl (k := 2) rfl (by rw [hvv5]; rfl) (by decide) (by first | rfl | simp [rv_cat, cat_i, cat_l, cat_r, cat_n]) (fun ls hl => ?_)
        refine lv_goto (tgt := 4) hx hb dX4_nextBox_38 (by decide) ?_
        exact ih a1 v5 H locs ls hM (lv_sub hl [1, 2, 0] rfl) h hk
      · replace h := (k_if h).2 c4
        refine lv_aload_n hx hb dX4_nextBox_18 rfl (lv_at hl 0 rfl) ?_
        refine lv_iload_n hx hb dX4_nextBox_19 rfl (lv_at hl 2 rfl) ?_
        obtain ⟨w6, hzw6, h⟩ := k_bd h
        refine m_callV (C := RX4) (T := TX4) (N := 7) (ci := 4) (n := 1) (As := [.int a2]) (rest := []) (st1 := (.int w6 :: [])) E hM hl.1 ok2 (by decide) rfl rfl (c_X4_isGoalEmpty l D cy sz H0 u b0 a2 hzw6) wl_X4_56 wm_X4_isGoalEmpty ws_X4_isGoalEmpty wi_X4 wd_X4_isGoalEmpty rfl rfl (by decide +kernel) ⟨by decide, by decide⟩ rfl rfl (by first | exact Nat.le_of_ble_eq_true rfl | simp [rv_cat, cat_i, cat_l, cat_r, cat_n]) dX4_nextBox_20 ⟨by decide, by decide⟩ rfl (fun H locs hM => ?_)
        refine lv_if_eq (tgt := 28) hx hb dX4_nextBox_23 (by decide) (fun c7 => ?_) (fun c7 => ?_)
        · replace h := (k_if h).1 c7
          refine lv_iload_n hx hb dX4_nextBox_28 rfl (lv_at hl 1 rfl) ?_
          refine lv_iconst (v := (-1)) hx hb dX4_nextBox_29 (by decide) ?_
          refine lv_icmp_ne (tgt := 35) hx hb dX4_nextBox_30 (by decide) (fun c8 => ?_) (fun c8 => ?_)
          · replace h := (k_if h).2 c8
            obtain ⟨v9, hvv9⟩ : ∃ y : Int32, y = a2 + (1) := ⟨_, rfl⟩
            replace h := k_bb h v9 hvv9
            refine lv_iinc (v := v9) (lv' := [(2, .int v9), (0, .ref (sz + b0)), (1, .int a1)]) hx hb dX4_nextBox_35 hl (k := 2) rfl (by rw [hvv9]; rfl) (by decide) (by first | rfl | simp [rv_cat, cat_i, cat_l, cat_r, cat_n]) (fun ls hl => ?_)
            refine lv_goto (tgt := 4) hx hb dX4_nextBox_38 (by decide) ?_
            exact ih a1 v9 H locs ls hM (lv_sub hl [1, 2, 0] rfl) h hk
          · replace h := (k_if h).1 c8
            refine lv_iload_n hx hb dX4_nextBox_33 rfl (lv_at hl 2 rfl) ?_
            refine lv_istore_n (i := 1) (lv' := [(1, .int a2), (0, .ref (sz + b0)), (2, .int a2)]) hx hb dX4_nextBox_34 rfl hl (by decide) (by first | rfl | simp [rv_cat, cat_i, cat_l, cat_r, cat_n]) (fun ls hl => ?_)
            obtain ⟨v10, hvv10⟩ : ∃ y : Int32, y = a2 + (1) := ⟨_, rfl⟩
            replace h := k_bb h v10 hvv10
            refine lv_iinc (v := v10) (lv' := [(2, .int v10), (1, .int a2), (0, .ref (sz + b0))]) hx hb dX4_nextBox_35 hl (k := 2) rfl (by rw [hvv10]; rfl) (by decide) (by first | rfl | simp [rv_cat, cat_i, cat_l, cat_r, cat_n]) (fun ls hl => ?_)
            refine lv_goto (tgt := 4) hx hb dX4_nextBox_38 (by decide) ?_
            exact ih a2 v10 H locs ls hM (lv_sub hl [2, 1, 0] rfl) h hk
        · replace h := (k_if h).2 c7
          refine lv_iload_n hx hb dX4_nextBox_26 rfl (lv_at hl 2 rfl) ?_
          cases h
          exact m_iret hx hb hr hlk hM rfl rfl dX4_nextBox_27

def f_X4_nextBox (r : Nat) (u : Mm) : Option (Int32) := L_X4_nextBox_4 r u (fun a11 a12 => some a11) 1000 (-1 : Int32) (0 : Int32) 
set_option maxHeartbeats 4000000 in
set_option maxRecDepth 100000 in
theorem c_X4_nextBox (l : Launch) (D : va_G) (cy : Nat → ClassId) (sz : Nat) (H0 : Heap) (u : Mm) (r : Nat) {res : Int32} (h : f_X4_nextBox r u = some res) : Ctr l yX4_nextBox cX4_nextBox 3 (some .int) rm_X4_nextBox 0 0 D cy sz H0 u [.ref (sz + r)] (some (.int res)) u := by
  refine m_start (lv := [(0, .ref (sz + r))]) (by decide) (by first | exact Nat.le_of_ble_eq_true rfl | simp [lg_sl, rv_cat, cat_i, cat_l, cat_r, cat_n]) (by first | rfl | simp [lv_args, rv_cat, cat_i, cat_l, cat_r, cat_n]) ?_
  intro p e s m below meth c ls E hr hlk hinit hM hl
  obtain ⟨hx, hb, hml, hown, hts, hKK⟩ := id E
  obtain ⟨H, hH⟩ : ∃ H, H = s.heap := ⟨_, rfl⟩
  obtain ⟨locs, hlocs⟩ : ∃ L : List Loc, L = [] := ⟨_, rfl⟩
  rw [← hH, ← hlocs] at hM ⊢
  unfold f_X4_nextBox at h
  refine lv_iconst (v := (-1)) hx hb dX4_nextBox_0 (by decide) ?_
  refine lv_istore_n (i := 1) (lv' := [(1, .int (-1 : Int32)), (0, .ref (sz + r))]) hx hb dX4_nextBox_1 rfl hl (by decide) (by first | rfl | simp [rv_cat, cat_i, cat_l, cat_r, cat_n]) (fun ls hl => ?_)
  refine lv_iconst (v := 0) hx hb dX4_nextBox_2 (by decide) ?_
  refine lv_istore_n (i := 2) (lv' := [(2, .int (0 : Int32)), (1, .int (-1 : Int32)), (0, .ref (sz + r))]) hx hb dX4_nextBox_3 rfl hl (by decide) (by first | rfl | simp [rv_cat, cat_i, cat_l, cat_r, cat_n]) (fun ls hl => ?_)
  refine lp_X4_nextBox_4 hr hlk  E 1000 (-1 : Int32) (0 : Int32) H locs ls hM (lv_sub hl [2, 1, 0] rfl) h (fun a11 a12 H locs ls hM hl h => ?_)
  refine lv_iload_n hx hb dX4_nextBox_41 rfl (lv_at hl 1 rfl) ?_
  cases h
  exact m_iret hx hb hr hlk hM rfl rfl dX4_nextBox_42

abbrev rm_X4_addCarry : Room := { frames := 1, cells := 0, slots := 0, locals := 36 }
def f_X4_addCarry (r : Nat) (p1 : Int32) (p2 : Int32) (u : Mm) : Option (Mm) := gd (okO u r 4) ((if (80 : Int32) ≤ (gI u r 6) then some u else bb (gR u r 3) (fun x3 => cs x3 none (fun k4 => gd (okA u k4 9 (gI u r 6)) (bb (gR (sI u k4 (Int32.toNatClampNeg (gI u r 6)) p1) r 4) (fun x6 => bb (gR (sI u k4 (Int32.toNatClampNeg (gI u r 6)) p1) r 1) (fun x7 => cs x7 none (fun k8 => gd (okO (sI u k4 (Int32.toNatClampNeg (gI u r 6)) p1) k8 1) (bb (gR (sI u k4 (Int32.toNatClampNeg (gI u r 6)) p1) k8 0) (fun x10 => cs x10 none (fun k11 => gd (okA (sI u k4 (Int32.toNatClampNeg (gI u r 6)) p1) k11 9 p1) (cs x6 none (fun k13 => gd (okA (sI u k4 (Int32.toNatClampNeg (gI u r 6)) p1) k13 9 (gI (sI u k4 (Int32.toNatClampNeg (gI u r 6)) p1) r 6)) (bb (gR (sI (sI u k4 (Int32.toNatClampNeg (gI u r 6)) p1) k13 (Int32.toNatClampNeg (gI (sI u k4 (Int32.toNatClampNeg (gI u r 6)) p1) r 6)) (gI (sI u k4 (Int32.toNatClampNeg (gI u r 6)) p1) k11 (Int32.toNatClampNeg p1))) r 5) (fun x15 => cs x15 none (fun k16 => gd (okA (sI (sI u k4 (Int32.toNatClampNeg (gI u r 6)) p1) k13 (Int32.toNatClampNeg (gI (sI u k4 (Int32.toNatClampNeg (gI u r 6)) p1) r 6)) (gI (sI u k4 (Int32.toNatClampNeg (gI u r 6)) p1) k11 (Int32.toNatClampNeg p1))) k16 9 (gI (sI (sI u k4 (Int32.toNatClampNeg (gI u r 6)) p1) k13 (Int32.toNatClampNeg (gI (sI u k4 (Int32.toNatClampNeg (gI u r 6)) p1) r 6)) (gI (sI u k4 (Int32.toNatClampNeg (gI u r 6)) p1) k11 (Int32.toNatClampNeg p1))) r 6)) (bb (gR (sI (sI (sI (sI u k4 (Int32.toNatClampNeg (gI u r 6)) p1) k13 (Int32.toNatClampNeg (gI (sI u k4 (Int32.toNatClampNeg (gI u r 6)) p1) r 6)) (gI (sI u k4 (Int32.toNatClampNeg (gI u r 6)) p1) k11 (Int32.toNatClampNeg p1))) k16 (Int32.toNatClampNeg (gI (sI (sI u k4 (Int32.toNatClampNeg (gI u r 6)) p1) k13 (Int32.toNatClampNeg (gI (sI u k4 (Int32.toNatClampNeg (gI u r 6)) p1) r 6)) (gI (sI u k4 (Int32.toNatClampNeg (gI u r 6)) p1) k11 (Int32.toNatClampNeg p1))) r 6)) p2) r 6 ((gI (sI (sI (sI u k4 (Int32.toNatClampNeg (gI u r 6)) p1) k13 (Int32.toNatClampNeg (gI (sI u k4 (Int32.toNatClampNeg (gI u r 6)) p1) r 6)) (gI (sI u k4 (Int32.toNatClampNeg (gI u r 6)) p1) k11 (Int32.toNatClampNeg p1))) k16 (Int32.toNatClampNeg (gI (sI (sI u k4 (Int32.toNatClampNeg (gI u r 6)) p1) k13 (Int32.toNatClampNeg (gI (sI u k4 (Int32.toNatClampNeg (gI u r 6)) p1) r 6)) (gI (sI u k4 (Int32.toNatClampNeg (gI u r 6)) p1) k11 (Int32.toNatClampNeg p1))) r 6)) p2) r 6) + (1 : Int32))) r 1) (fun x18 => cs x18 none (fun k19 => gd (okO (sI (sI (sI (sI u k4 (Int32.toNatClampNeg (gI u r 6)) p1) k13 (Int32.toNatClampNeg (gI (sI u k4 (Int32.toNatClampNeg (gI u r 6)) p1) r 6)) (gI (sI u k4 (Int32.toNatClampNeg (gI u r 6)) p1) k11 (Int32.toNatClampNeg p1))) k16 (Int32.toNatClampNeg (gI (sI (sI u k4 (Int32.toNatClampNeg (gI u r 6)) p1) k13 (Int32.toNatClampNeg (gI (sI u k4 (Int32.toNatClampNeg (gI u r 6)) p1) r 6)) (gI (sI u k4 (Int32.toNatClampNeg (gI u r 6)) p1) k11 (Int32.toNatClampNeg p1))) r 6)) p2) r 6 ((gI (sI (sI (sI u k4 (Int32.toNatClampNeg (gI u r 6)) p1) k13 (Int32.toNatClampNeg (gI (sI u k4 (Int32.toNatClampNeg (gI u r 6)) p1) r 6)) (gI (sI u k4 (Int32.toNatClampNeg (gI u r 6)) p1) k11 (Int32.toNatClampNeg p1))) k16 (Int32.toNatClampNeg (gI (sI (sI u k4 (Int32.toNatClampNeg (gI u r 6)) p1) k13 (Int32.toNatClampNeg (gI (sI u k4 (Int32.toNatClampNeg (gI u r 6)) p1) r 6)) (gI (sI u k4 (Int32.toNatClampNeg (gI u r 6)) p1) k11 (Int32.toNatClampNeg p1))) r 6)) p2) r 6) + (1 : Int32))) k19 1) (bd (f_X1_put k19 p1 p2 (sI (sI (sI (sI u k4 (Int32.toNatClampNeg (gI u r 6)) p1) k13 (Int32.toNatClampNeg (gI (sI u k4 (Int32.toNatClampNeg (gI u r 6)) p1) r 6)) (gI (sI u k4 (Int32.toNatClampNeg (gI u r 6)) p1) k11 (Int32.toNatClampNeg p1))) k16 (Int32.toNatClampNeg (gI (sI (sI u k4 (Int32.toNatClampNeg (gI u r 6)) p1) k13 (Int32.toNatClampNeg (gI (sI u k4 (Int32.toNatClampNeg (gI u r 6)) p1) r 6)) (gI (sI u k4 (Int32.toNatClampNeg (gI u r 6)) p1) k11 (Int32.toNatClampNeg p1))) r 6)) p2) r 6 ((gI (sI (sI (sI u k4 (Int32.toNatClampNeg (gI u r 6)) p1) k13 (Int32.toNatClampNeg (gI (sI u k4 (Int32.toNatClampNeg (gI u r 6)) p1) r 6)) (gI (sI u k4 (Int32.toNatClampNeg (gI u r 6)) p1) k11 (Int32.toNatClampNeg p1))) k16 (Int32.toNatClampNeg (gI (sI (sI u k4 (Int32.toNatClampNeg (gI u r 6)) p1) k13 (Int32.toNatClampNeg (gI (sI u k4 (Int32.toNatClampNeg (gI u r 6)) p1) r 6)) (gI (sI u k4 (Int32.toNatClampNeg (gI u r 6)) p1) k11 (Int32.toNatClampNeg p1))) r 6)) p2) r 6) + (1 : Int32)))) (fun w21 => some w21)))))))))))))))))))))
set_option maxHeartbeats 4000000 in
set_option maxRecDepth 100000 in
theorem c_X4_addCarry (l : Launch) (D : va_G) (cy : Nat → ClassId) (sz : Nat) (H0 : Heap) (u : Mm) (r : Nat) (p1 : Int32) (p2 : Int32) {res : Mm} (h : f_X4_addCarry r p1 p2 u = some res) : Ctr l yX4_addCarry cX4_addCarry 3 none rm_X4_addCarry 0 0 D cy sz H0 u [.ref (sz + r), .int p1, .int p2] none res := by
  refine m_start (lv := [(0, .ref (sz + r)), (1, .int p1), (2, .int p2)]) (by decide) (by first | exact Nat.le_of_ble_eq_true rfl | simp [lg_sl, rv_cat, cat_i, cat_l, cat_r, cat_n]) (by first | rfl | simp [lv_args, rv_cat, cat_i, cat_l, cat_r, cat_n]) ?_
  intro p e s m below meth c ls E hr hlk hinit hM hl
  obtain ⟨hx, hb, hml, hown, hts, hKK⟩ := id E
  obtain ⟨H, hH⟩ : ∃ H, H = s.heap := ⟨_, rfl⟩
  obtain ⟨locs, hlocs⟩ : ∃ L : List Loc, L = [] := ⟨_, rfl⟩
  rw [← hH, ← hlocs] at hM ⊢
  unfold f_X4_addCarry at h
  refine lv_aload_n hx hb dX4_addCarry_0 rfl (lv_at hl 0 rfl) ?_
  obtain ⟨ok1, h⟩ := k_gd h
  refine gs_X4_34 E hM ok1 dX4_addCarry_1 ?_
  refine lv_bipush (v := 80) hx hb dX4_addCarry_4 (by decide) ?_
  refine lv_icmp_ge (tgt := 66) hx hb dX4_addCarry_6 (by decide) (fun c2 => ?_) (fun c2 => ?_)
  · replace h := (k_if h).1 c2
    cases h
    exact m_vret hx hb hr hlk hM rfl dX4_addCarry_66
  · replace h := (k_if h).2 c2
    refine lv_aload_n hx hb dX4_addCarry_9 rfl (lv_at hl 0 rfl) ?_
    refine gs_X4_25 E hM ok1 dX4_addCarry_10 (fun x3 hxx3 => ?_)
    replace h := k_bb h x3 hxx3.symm
    refine lv_aload_n hx hb dX4_addCarry_13 rfl (lv_at hl 0 rfl) ?_
    refine gs_X4_34 E hM ok1 dX4_addCarry_14 ?_
    refine lv_iload_n hx hb dX4_addCarry_17 rfl (lv_at hl 1 rfl) ?_
    rcases x3 with _ | k4
    · cases h
    rw [cs_s] at h
    obtain ⟨ok5, h⟩ := k_gd h
    refine m_iast E hM ok5 dX4_addCarry_18 (fun H locs hM => ?_)
    refine lv_aload_n hx hb dX4_addCarry_19 rfl (lv_at hl 0 rfl) ?_
    refine gs_X4_28 E hM ok1 dX4_addCarry_20 (fun x6 hxx6 => ?_)
    replace h := k_bb h x6 hxx6.symm
    refine lv_aload_n hx hb dX4_addCarry_23 rfl (lv_at hl 0 rfl) ?_
    refine gs_X4_34 E hM ok1 dX4_addCarry_24 ?_
    refine lv_aload_n hx hb dX4_addCarry_27 rfl (lv_at hl 0 rfl) ?_
    refine gs_X4_18 E hM ok1 dX4_addCarry_28 (fun x7 hxx7 => ?_)
    replace h := k_bb h x7 hxx7.symm
    rcases x7 with _ | k8
    · cases h
    rw [cs_s] at h
    obtain ⟨ok9, h⟩ := k_gd h
    refine gs_X4_73 E hM ok9 dX4_addCarry_31 (fun x10 hxx10 => ?_)
    replace h := k_bb h x10 hxx10.symm
    refine lv_iload_n hx hb dX4_addCarry_34 rfl (lv_at hl 1 rfl) ?_
    rcases x10 with _ | k11
    · cases h
    rw [cs_s] at h
    obtain ⟨ok12, h⟩ := k_gd h
    refine m_iald E hM ok12 dX4_addCarry_35 ?_
    rcases x6 with _ | k13
    · cases h
    rw [cs_s] at h
    obtain ⟨ok14, h⟩ := k_gd h
    refine m_iast E hM ok14 dX4_addCarry_36 (fun H locs hM => ?_)
    refine lv_aload_n hx hb dX4_addCarry_37 rfl (lv_at hl 0 rfl) ?_
    refine gs_X4_31 E hM ok1 dX4_addCarry_38 (fun x15 hxx15 => ?_)
    replace h := k_bb h x15 hxx15.symm
    refine lv_aload_n hx hb dX4_addCarry_41 rfl (lv_at hl 0 rfl) ?_
    refine gs_X4_34 E hM ok1 dX4_addCarry_42 ?_
    refine lv_iload_n hx hb dX4_addCarry_45 rfl (lv_at hl 2 rfl) ?_
    rcases x15 with _ | k16
    · cases h
    rw [cs_s] at h
    obtain ⟨ok17, h⟩ := k_gd h
    refine m_iast E hM ok17 dX4_addCarry_46 (fun H locs hM => ?_)
    refine lv_aload_n hx hb dX4_addCarry_47 rfl (lv_at hl 0 rfl) ?_
    refine lv_dup hx hb dX4_addCarry_48 rfl ?_
    refine gs_X4_34 E hM ok1 dX4_addCarry_49 ?_
    refine lv_iconst (v := 1) hx hb dX4_addCarry_52 (by decide) ?_
    refine lv_iadd hx hb dX4_addCarry_53 ?_
    refine ps_X4_34 (v := ((gI (sI (sI (sI u k4 (Int32.toNatClampNeg (gI u r 6)) p1) k13 (Int32.toNatClampNeg (gI (sI u k4 (Int32.toNatClampNeg (gI u r 6)) p1) r 6)) (gI (sI u k4 (Int32.toNatClampNeg (gI u r 6)) p1) k11 (Int32.toNatClampNeg p1))) k16 (Int32.toNatClampNeg (gI (sI (sI u k4 (Int32.toNatClampNeg (gI u r 6)) p1) k13 (Int32.toNatClampNeg (gI (sI u k4 (Int32.toNatClampNeg (gI u r 6)) p1) r 6)) (gI (sI u k4 (Int32.toNatClampNeg (gI u r 6)) p1) k11 (Int32.toNatClampNeg p1))) r 6)) p2) r 6) + (1 : Int32))) E hM ok1 dX4_addCarry_54 (fun H locs hM => ?_)
    refine lv_aload_n hx hb dX4_addCarry_57 rfl (lv_at hl 0 rfl) ?_
    refine gs_X4_18 E hM ok1 dX4_addCarry_58 (fun x18 hxx18 => ?_)
    replace h := k_bb h x18 hxx18.symm
    refine lv_iload_n hx hb dX4_addCarry_61 rfl (lv_at hl 1 rfl) ?_
    refine lv_iload_n hx hb dX4_addCarry_62 rfl (lv_at hl 2 rfl) ?_
    rcases x18 with _ | k19
    · cases h
    rw [cs_s] at h
    obtain ⟨ok20, h⟩ := k_gd h
    obtain ⟨w21, hzw21, h⟩ := k_bd h
    refine m_callV (C := RX1) (T := TX1) (N := 2) (ci := 1) (n := 2) (As := [.int p1, .int p2]) (rest := []) (st1 := []) E hM hl.1 ok20 (by decide) rfl rfl (c_X1_put l D cy sz H0 (sI (sI (sI (sI u k4 (Int32.toNatClampNeg (gI u r 6)) p1) k13 (Int32.toNatClampNeg (gI (sI u k4 (Int32.toNatClampNeg (gI u r 6)) p1) r 6)) (gI (sI u k4 (Int32.toNatClampNeg (gI u r 6)) p1) k11 (Int32.toNatClampNeg p1))) k16 (Int32.toNatClampNeg (gI (sI (sI u k4 (Int32.toNatClampNeg (gI u r 6)) p1) k13 (Int32.toNatClampNeg (gI (sI u k4 (Int32.toNatClampNeg (gI u r 6)) p1) r 6)) (gI (sI u k4 (Int32.toNatClampNeg (gI u r 6)) p1) k11 (Int32.toNatClampNeg p1))) r 6)) p2) r 6 ((gI (sI (sI (sI u k4 (Int32.toNatClampNeg (gI u r 6)) p1) k13 (Int32.toNatClampNeg (gI (sI u k4 (Int32.toNatClampNeg (gI u r 6)) p1) r 6)) (gI (sI u k4 (Int32.toNatClampNeg (gI u r 6)) p1) k11 (Int32.toNatClampNeg p1))) k16 (Int32.toNatClampNeg (gI (sI (sI u k4 (Int32.toNatClampNeg (gI u r 6)) p1) k13 (Int32.toNatClampNeg (gI (sI u k4 (Int32.toNatClampNeg (gI u r 6)) p1) r 6)) (gI (sI u k4 (Int32.toNatClampNeg (gI u r 6)) p1) k11 (Int32.toNatClampNeg p1))) r 6)) p2) r 6) + (1 : Int32))) k19 p1 p2 hzw21) wl_X4_76 wm_X1_put ws_X1_put wi_X1 wd_X1_put rfl rfl (by decide +kernel) ⟨by decide, by decide⟩ rfl rfl (by first | exact Nat.le_of_ble_eq_true rfl | simp [rv_cat, cat_i, cat_l, cat_r, cat_n]) dX4_addCarry_63 ⟨by decide, by decide⟩ rfl (fun H locs hM => ?_)
    cases h
    exact m_vret hx hb hr hlk hM rfl dX4_addCarry_66

abbrev rm_X4_makePlan : Room := { frames := 2, cells := 0, slots := 0, locals := 72 }
def L_X4_makePlan_27 (b0 : Nat) (k : Int32 → Mm → Option ((Int32) × Mm)) : Nat → Int32 → Mm → Option ((Int32) × Mm)
  | 0, _, _ => none
  | n + 1, a1, u => (if (80 : Int32) ≤ a1 then k a1 u else gd (okO u b0 4) (bd (f_X4_nextBox b0 u) (fun w12 => (if w12 = (-1 : Int32) then some ((1 : Int32), u) else bd (f_X4_isGoalEmpty b0 w12 u) (fun w14 => (if w14 = 0 then bb (gR u b0 1) (fun x16 => cs x16 none (fun k17 => gd (okO u k17 1) (bd (f_X1_leastEmpty k17 u) (fun w19 => (if w19 = (-1 : Int32) then some ((0 : Int32), u) else bd (f_X4_addCarry b0 w12 w19 u) (fun w21 => bb (a1 + (1)) (fun v22 => L_X4_makePlan_27 b0 k n v22 w21))))))) else bb (gR u b0 2) (fun x23 => cs x23 none (fun k24 => gd (okA u k24 9 w12) (bb ((gI u k24 (Int32.toNatClampNeg w12))) (fun v26 => (if v26 = (-1 : Int32) then some ((0 : Int32), u) else bd (f_X4_addCarry b0 w12 v26 u) (fun w28 => bb (a1 + (1)) (fun v29 => L_X4_makePlan_27 b0 k n v29 w28)))))))))))))
set_option maxHeartbeats 4000000 in
set_option maxRecDepth 100000 in
theorem lp_X4_makePlan_27 {p : Program} {l : Launch} {e : Env} {s : State} {m : MethodId} {args : Array Value} {below : List Frame} {meth : Method} {c : Code} {D : va_G} {cy : Nat → ClassId} {sz : Nat} {H0 : Heap} {b0 : Nat} {k : Int32 → Mm → Option ((Int32) × Mm)} {res : (Int32) × Mm} (hr : meth.sig.returnType = (some .boolean)) (hlk : meth.locks = false) (E : EE p s m args c cX4_makePlan 4 RX4 D cy) : ∀ (n : Nat) (a1 : Int32) (u : Mm) (H : Heap) (locs : List Loc) (ls : Array Slot), MM D cy sz H0 u H locs → lv_has ls 4 [(0, .ref (sz + b0)), (1, .int a1)] → L_X4_makePlan_27 b0 k n a1 u = some res → (∀ (a1 : Int32) (u : Mm) (H : Heap) (locs : List Loc) (ls : Array Slot), MM D cy sz H0 u H locs → lv_has ls 4 [(0, .ref (sz + b0)), (1, .int a1)] → k a1 u = some res → W p l e rm_X4_makePlan s m args below meth c H locs 0 0 (MQ below (Post D cy sz H0 (some (.int res.1)) res.2) args s 0 0 (fun q => sz ≤ q)) (F0 m 89 ls [])) → W p l e rm_X4_makePlan s m args below meth c H locs 0 0 (MQ below (Post D cy sz H0 (some (.int res.1)) res.2) args s 0 0 (fun q => sz ≤ q)) (F0 m 27 ls []) := by
  obtain ⟨hx, hb, hml, hown, hts, hKK⟩ := id E
  intro n
  induction n with
  | zero => intros; rename_i h _; cases h
  | succ n ih =>
    intro a1 u H locs ls hM hl h hk
    rw [L_X4_makePlan_27] at h
    refine lv_iload_n hx hb dX4_makePlan_27 rfl (lv_at hl 1 rfl) ?_
    refine lv_bipush (v := 80) hx hb dX4_makePlan_28 (by decide) ?_
    refine lv_icmp_ge (tgt := 89) hx hb dX4_makePlan_30 (by decide) (fun c10 => ?_) (fun c10 => ?_)
    · replace h := (k_if h).1 c10
      exact hk a1 u H locs ls hM (lv_sub hl [0, 1] rfl) h
    · replace h := (k_if h).2 c10
      refine lv_aload_n hx hb dX4_makePlan_33 rfl (lv_at hl 0 rfl) ?_
      obtain ⟨ok11, h⟩ := k_gd h
      obtain ⟨w12, hzw12, h⟩ := k_bd h
      refine m_callV (C := RX4) (T := TX4) (N := 7) (ci := 4) (n := 0) (As := []) (rest := []) (st1 := (.int w12 :: [])) E hM hl.1 ok11 (by decide) rfl rfl (c_X4_nextBox l D cy sz H0 u b0 hzw12) wl_X4_52 wm_X4_nextBox ws_X4_nextBox wi_X4 wd_X4_nextBox rfl rfl (by decide +kernel) ⟨by decide, by decide⟩ rfl rfl (by first | exact Nat.le_of_ble_eq_true rfl | simp [rv_cat, cat_i, cat_l, cat_r, cat_n]) dX4_makePlan_34 ⟨by decide, by decide⟩ rfl (fun H locs hM => ?_)
      refine lv_istore_n (i := 2) (lv' := [(2, .int w12), (0, .ref (sz + b0)), (1, .int a1)]) hx hb dX4_makePlan_37 rfl hl (by decide) (by first | rfl | simp [rv_cat, cat_i, cat_l, cat_r, cat_n]) (fun ls hl => ?_)
      refine lv_iload_n hx hb dX4_makePlan_38 rfl (lv_at hl 0 rfl) ?_
      refine lv_iconst (v := (-1)) hx hb dX4_makePlan_39 (by decide) ?_
      refine lv_icmp_ne (tgt := 45) hx hb dX4_makePlan_40 (by decide) (fun c13 => ?_) (fun c13 => ?_)
      · replace h := (k_if h).2 c13
        refine lv_aload_n hx hb dX4_makePlan_45 rfl (lv_at hl 1 rfl) ?_
        refine lv_iload_n hx hb dX4_makePlan_46 rfl (lv_at hl 0 rfl) ?_
        obtain ⟨w14, hzw14, h⟩ := k_bd h
        refine m_callV (C := RX4) (T := TX4) (N := 7) (ci := 4) (n := 1) (As := [.int w12]) (rest := []) (st1 := (.int w14 :: [])) E hM hl.1 ok11 (by decide) rfl rfl (c_X4_isGoalEmpty l D cy sz H0 u b0 w12 hzw14) wl_X4_56 wm_X4_isGoalEmpty ws_X4_isGoalEmpty wi_X4 wd_X4_isGoalEmpty rfl rfl (by decide +kernel) ⟨by decide, by decide⟩ rfl rfl (by first | exact Nat.le_of_ble_eq_true rfl | simp [rv_cat, cat_i, cat_l, cat_r, cat_n]) dX4_makePlan_47 ⟨by decide, by decide⟩ rfl (fun H locs hM => ?_)
        refine lv_if_eq (tgt := 62) hx hb dX4_makePlan_50 (by decide) (fun c15 => ?_) (fun c15 => ?_)
        · replace h := (k_if h).1 c15
          refine lv_aload_n hx hb dX4_makePlan_62 rfl (lv_at hl 1 rfl) ?_
          refine gs_X4_18 E hM ok11 dX4_makePlan_63 (fun x16 hxx16 => ?_)
          replace h := k_bb h x16 hxx16.symm
          rcases x16 with _ | k17
          · cases h
          rw [cs_s] at h
          obtain ⟨ok18, h⟩ := k_gd h
          obtain ⟨w19, hzw19, h⟩ := k_bd h
          refine m_callV (C := RX1) (T := TX1) (N := 2) (ci := 1) (n := 0) (As := []) (rest := []) (st1 := (.int w19 :: [])) E hM hl.1 ok18 (by decide) rfl rfl (c_X1_leastEmpty l D cy sz H0 u k17 hzw19) wl_X4_60 wm_X1_leastEmpty ws_X1_leastEmpty wi_X1 wd_X1_leastEmpty rfl rfl (by decide +kernel) ⟨by decide, by decide⟩ rfl rfl (by first | exact Nat.le_of_ble_eq_true rfl | simp [rv_cat, cat_i, cat_l, cat_r, cat_n]) dX4_makePlan_66 ⟨by decide, by decide⟩ rfl (fun H locs hM => ?_)
          refine lv_istore_n (i := 3) (lv' := [(3, .int w19), (2, .int w12), (0, .ref (sz + b0)), (1, .int a1)]) hx hb dX4_makePlan_69 rfl hl (by decide) (by first | rfl | simp [rv_cat, cat_i, cat_l, cat_r, cat_n]) (fun ls hl => ?_)
          refine lv_iload_n hx hb dX4_makePlan_70 rfl (lv_at hl 0 rfl) ?_
          refine lv_iconst (v := (-1)) hx hb dX4_makePlan_71 (by decide) ?_
          refine lv_icmp_ne (tgt := 77) hx hb dX4_makePlan_72 (by decide) (fun c20 => ?_) (fun c20 => ?_)
          · replace h := (k_if h).2 c20
            refine lv_aload_n hx hb dX4_makePlan_77 rfl (lv_at hl 2 rfl) ?_
            refine lv_iload_n hx hb dX4_makePlan_78 rfl (lv_at hl 1 rfl) ?_
            refine lv_iload_n hx hb dX4_makePlan_79 rfl (lv_at hl 0 rfl) ?_
            obtain ⟨w21, hzw21, h⟩ := k_bd h
            refine m_callV (C := RX4) (T := TX4) (N := 7) (ci := 4) (n := 2) (As := [.int w12, .int w19]) (rest := []) (st1 := []) E hM hl.1 ok11 (by decide) rfl rfl (c_X4_addCarry l D cy sz H0 u b0 w12 w19 hzw21) wl_X4_63 wm_X4_addCarry ws_X4_addCarry wi_X4 wd_X4_addCarry rfl rfl (by decide +kernel) ⟨by decide, by decide⟩ rfl rfl (by first | exact Nat.le_of_ble_eq_true rfl | simp [rv_cat, cat_i, cat_l, cat_r, cat_n]) dX4_makePlan_80 ⟨by decide, by decide⟩ rfl (fun H locs hM => ?_)
            obtain ⟨v22, hvv22⟩ : ∃ y : Int32, y = a1 + (1) := ⟨_, rfl⟩
            replace h := k_bb h v22 hvv22
            refine lv_iinc (v := v22) (lv' := [(1, .int v22), (3, .int w19), (2, .int w12), (0, .ref (sz + b0))]) hx hb dX4_makePlan_83 hl (k := 3) rfl (by rw [hvv22]; rfl) (by decide) (by first | rfl | simp [rv_cat, cat_i, cat_l, cat_r, cat_n]) (fun ls hl => ?_)
            refine lv_goto (tgt := 27) hx hb dX4_makePlan_86 (by decide) ?_
            exact ih v22 w21 H locs ls hM (lv_sub hl [3, 0] rfl) h hk
          · replace h := (k_if h).1 c20
            refine lv_iconst (v := 0) hx hb dX4_makePlan_75 (by decide) ?_
            cases h
            exact m_zret hx hb hr hlk hM (by decide) rfl rfl dX4_makePlan_76
        · replace h := (k_if h).2 c15
          refine lv_aload_n hx hb dX4_makePlan_53 rfl (lv_at hl 1 rfl) ?_
          refine gs_X4_21 E hM ok11 dX4_makePlan_54 (fun x23 hxx23 => ?_)
          replace h := k_bb h x23 hxx23.symm
          refine lv_iload_n hx hb dX4_makePlan_57 rfl (lv_at hl 0 rfl) ?_
          rcases x23 with _ | k24
          · cases h
          rw [cs_s] at h
          obtain ⟨ok25, h⟩ := k_gd h
          refine m_iald E hM ok25 dX4_makePlan_58 ?_
          refine lv_goto (tgt := 69) hx hb dX4_makePlan_59 (by decide) ?_
          refine lv_topi (fun v26 hvv26 => ?_)
          replace h := k_bb h v26 hvv26
          refine lv_istore_n (i := 3) (lv' := [(3, .int v26), (2, .int w12), (0, .ref (sz + b0)), (1, .int a1)]) hx hb dX4_makePlan_69 rfl hl (by decide) (by first | rfl | simp [rv_cat, cat_i, cat_l, cat_r, cat_n]) (fun ls hl => ?_)
          refine lv_iload_n hx hb dX4_makePlan_70 rfl (lv_at hl 0 rfl) ?_
          refine lv_iconst (v := (-1)) hx hb dX4_makePlan_71 (by decide) ?_
          refine lv_icmp_ne (tgt := 77) hx hb dX4_makePlan_72 (by decide) (fun c27 => ?_) (fun c27 => ?_)
          · replace h := (k_if h).2 c27
            refine lv_aload_n hx hb dX4_makePlan_77 rfl (lv_at hl 2 rfl) ?_
            refine lv_iload_n hx hb dX4_makePlan_78 rfl (lv_at hl 1 rfl) ?_
            refine lv_iload_n hx hb dX4_makePlan_79 rfl (lv_at hl 0 rfl) ?_
            obtain ⟨w28, hzw28, h⟩ := k_bd h
            refine m_callV (C := RX4) (T := TX4) (N := 7) (ci := 4) (n := 2) (As := [.int w12, .int v26]) (rest := []) (st1 := []) E hM hl.1 ok11 (by decide) rfl rfl (c_X4_addCarry l D cy sz H0 u b0 w12 v26 hzw28) wl_X4_63 wm_X4_addCarry ws_X4_addCarry wi_X4 wd_X4_addCarry rfl rfl (by decide +kernel) ⟨by decide, by decide⟩ rfl rfl (by first | exact Nat.le_of_ble_eq_true rfl | simp [rv_cat, cat_i, cat_l, cat_r, cat_n]) dX4_makePlan_80 ⟨by decide, by decide⟩ rfl (fun H locs hM => ?_)
            obtain ⟨v29, hvv29⟩ : ∃ y : Int32, y = a1 + (1) := ⟨_, rfl⟩
            replace h := k_bb h v29 hvv29
            refine lv_iinc (v := v29) (lv' := [(1, .int v29), (3, .int v26), (2, .int w12), (0, .ref (sz + b0))]) hx hb dX4_makePlan_83 hl (k := 3) rfl (by rw [hvv29]; rfl) (by decide) (by first | rfl | simp [rv_cat, cat_i, cat_l, cat_r, cat_n]) (fun ls hl => ?_)
            refine lv_goto (tgt := 27) hx hb dX4_makePlan_86 (by decide) ?_
            exact ih v29 w28 H locs ls hM (lv_sub hl [3, 0] rfl) h hk
          · replace h := (k_if h).1 c27
            refine lv_iconst (v := 0) hx hb dX4_makePlan_75 (by decide) ?_
            cases h
            exact m_zret hx hb hr hlk hM (by decide) rfl rfl dX4_makePlan_76
      · replace h := (k_if h).1 c13
        refine lv_iconst (v := 1) hx hb dX4_makePlan_43 (by decide) ?_
        cases h
        exact m_zret hx hb hr hlk hM (by decide) rfl rfl dX4_makePlan_44

def f_X4_makePlan (r : Nat) (u : Mm) : Option ((Int32) × Mm) := gd (okO u r 4) (bb (gR (sI u r 6 (0 : Int32)) r 1) (fun x2 => bb (gR (sI u r 6 (0 : Int32)) r 0) (fun x3 => cs x2 none (fun k4 => gd (okO (sI u r 6 (0 : Int32)) k4 1) (bd (f_X1_copyFrom k4 x3 (sI u r 6 (0 : Int32))) (fun w6 => gd (okO w6 r 4) (bd (f_X4_isGoalBlocked r w6) (fun w8 => (if w8 = 0 then L_X4_makePlan_27 r  (fun a30 u31 => gd (okO u31 r 4) (bd (f_X4_nextBox r u31) (fun w33 => (if w33 = (-1 : Int32) then some ((1 : Int32), u31) else some ((0 : Int32), u31))))) 1000 (0 : Int32) w6 else some ((0 : Int32), w6))))))))))
set_option maxHeartbeats 4000000 in
set_option maxRecDepth 100000 in
theorem c_X4_makePlan (l : Launch) (D : va_G) (cy : Nat → ClassId) (sz : Nat) (H0 : Heap) (u : Mm) (r : Nat) {res : (Int32) × Mm} (h : f_X4_makePlan r u = some res) : Ctr l yX4_makePlan cX4_makePlan 4 (some .boolean) rm_X4_makePlan 0 0 D cy sz H0 u [.ref (sz + r)] (some (.int res.1)) res.2 := by
  refine m_start (lv := [(0, .ref (sz + r))]) (by decide) (by first | exact Nat.le_of_ble_eq_true rfl | simp [lg_sl, rv_cat, cat_i, cat_l, cat_r, cat_n]) (by first | rfl | simp [lv_args, rv_cat, cat_i, cat_l, cat_r, cat_n]) ?_
  intro p e s m below meth c ls E hr hlk hinit hM hl
  obtain ⟨hx, hb, hml, hown, hts, hKK⟩ := id E
  obtain ⟨H, hH⟩ : ∃ H, H = s.heap := ⟨_, rfl⟩
  obtain ⟨locs, hlocs⟩ : ∃ L : List Loc, L = [] := ⟨_, rfl⟩
  rw [← hH, ← hlocs] at hM ⊢
  unfold f_X4_makePlan at h
  refine lv_aload_n hx hb dX4_makePlan_0 rfl (lv_at hl 0 rfl) ?_
  refine lv_iconst (v := 0) hx hb dX4_makePlan_1 (by decide) ?_
  obtain ⟨ok1, h⟩ := k_gd h
  refine ps_X4_34 (v := (0 : Int32)) E hM ok1 dX4_makePlan_2 (fun H locs hM => ?_)
  refine lv_aload_n hx hb dX4_makePlan_5 rfl (lv_at hl 0 rfl) ?_
  refine gs_X4_18 E hM ok1 dX4_makePlan_6 (fun x2 hxx2 => ?_)
  replace h := k_bb h x2 hxx2.symm
  refine lv_aload_n hx hb dX4_makePlan_9 rfl (lv_at hl 0 rfl) ?_
  refine gs_X4_12 E hM ok1 dX4_makePlan_10 (fun x3 hxx3 => ?_)
  replace h := k_bb h x3 hxx3.symm
  rcases x2 with _ | k4
  · cases h
  rw [cs_s] at h
  obtain ⟨ok5, h⟩ := k_gd h
  obtain ⟨w6, hzw6, h⟩ := k_bd h
  refine m_callV (C := RX1) (T := TX1) (N := 2) (ci := 1) (n := 1) (As := [rv sz x3]) (rest := []) (st1 := []) E hM hl.1 ok5 (by decide) rfl rfl (c_X1_copyFrom l D cy sz H0 (sI u r 6 (0 : Int32)) k4 x3 hzw6) wl_X4_44 wm_X1_copyFrom ws_X1_copyFrom wi_X1 wd_X1_copyFrom rfl rfl (by decide +kernel) ⟨by decide, by decide⟩ rfl rfl (by first | exact Nat.le_of_ble_eq_true rfl | simp [rv_cat, cat_i, cat_l, cat_r, cat_n]) dX4_makePlan_13 ⟨by decide, by decide⟩ rfl (fun H locs hM => ?_)
  refine lv_aload_n hx hb dX4_makePlan_16 rfl (lv_at hl 0 rfl) ?_
  obtain ⟨ok7, h⟩ := k_gd h
  obtain ⟨w8, hzw8, h⟩ := k_bd h
  refine m_callV (C := RX4) (T := TX4) (N := 7) (ci := 4) (n := 0) (As := []) (rest := []) (st1 := (.int w8 :: [])) E hM hl.1 ok7 (by decide) rfl rfl (c_X4_isGoalBlocked l D cy sz H0 w6 r hzw8) wl_X4_48 wm_X4_isGoalBlocked ws_X4_isGoalBlocked wi_X4 wd_X4_isGoalBlocked rfl rfl (by decide +kernel) ⟨by decide, by decide⟩ rfl rfl (by first | exact Nat.le_of_ble_eq_true rfl | simp [rv_cat, cat_i, cat_l, cat_r, cat_n]) dX4_makePlan_17 ⟨by decide, by decide⟩ rfl (fun H locs hM => ?_)
  refine lv_if_eq (tgt := 25) hx hb dX4_makePlan_20 (by decide) (fun c9 => ?_) (fun c9 => ?_)
  · replace h := (k_if h).1 c9
    refine lv_iconst (v := 0) hx hb dX4_makePlan_25 (by decide) ?_
    refine lv_istore_n (i := 1) (lv' := [(1, .int (0 : Int32)), (0, .ref (sz + r))]) hx hb dX4_makePlan_26 rfl hl (by decide) (by first | rfl | simp [rv_cat, cat_i, cat_l, cat_r, cat_n]) (fun ls hl => ?_)
    refine lp_X4_makePlan_27 hr hlk  E 1000 (0 : Int32) w6 H locs ls hM (lv_sub hl [1, 0] rfl) h (fun a30 u31 H locs ls hM hl h => ?_)
    refine lv_aload_n hx hb dX4_makePlan_89 rfl (lv_at hl 0 rfl) ?_
    obtain ⟨ok32, h⟩ := k_gd h
    obtain ⟨w33, hzw33, h⟩ := k_bd h
    refine m_callV (C := RX4) (T := TX4) (N := 7) (ci := 4) (n := 0) (As := []) (rest := []) (st1 := (.int w33 :: [])) E hM hl.1 ok32 (by decide) rfl rfl (c_X4_nextBox l D cy sz H0 u31 r hzw33) wl_X4_52 wm_X4_nextBox ws_X4_nextBox wi_X4 wd_X4_nextBox rfl rfl (by decide +kernel) ⟨by decide, by decide⟩ rfl rfl (by first | exact Nat.le_of_ble_eq_true rfl | simp [rv_cat, cat_i, cat_l, cat_r, cat_n]) dX4_makePlan_90 ⟨by decide, by decide⟩ rfl (fun H locs hM => ?_)
    refine lv_iconst (v := (-1)) hx hb dX4_makePlan_93 (by decide) ?_
    refine lv_icmp_ne (tgt := 101) hx hb dX4_makePlan_94 (by decide) (fun c34 => ?_) (fun c34 => ?_)
    · replace h := (k_if h).2 c34
      refine lv_iconst (v := 0) hx hb dX4_makePlan_101 (by decide) ?_
      cases h
      exact m_zret hx hb hr hlk hM (by decide) rfl rfl dX4_makePlan_102
    · replace h := (k_if h).1 c34
      refine lv_iconst (v := 1) hx hb dX4_makePlan_97 (by decide) ?_
      refine lv_goto (tgt := 102) hx hb dX4_makePlan_98 (by decide) ?_
      cases h
      exact m_zret hx hb hr hlk hM (by decide) rfl rfl dX4_makePlan_102
  · replace h := (k_if h).2 c9
    refine lv_iconst (v := 0) hx hb dX4_makePlan_23 (by decide) ?_
    cases h
    exact m_zret hx hb hr hlk hM (by decide) rfl rfl dX4_makePlan_24

abbrev rm_X5_saidInLine : Room := { frames := 0, cells := 0, slots := 0, locals := 0 }
def L_X5_saidInLine_4 (b0 : Nat) (b1 : Int32) (u : Mm) (k : Int32 → Option Nat → Option (Int32)) : Nat → Int32 → Option Nat → Option (Int32)
  | 0, _, _ => none
  | n + 1, a2, a3 => cs a3 (k a2 (none : Option Nat)) (fun k1 => (if a2 = (-1 : Int32) then gd (okO u k1 5) (bb (gR u k1 3) (fun x4 => cs x4 none (fun k5 => gd (okA u k5 9 b1) (bb ((gI u k5 (Int32.toNatClampNeg b1))) (fun v7 => bb (gR u k1 2) (fun x8 => L_X5_saidInLine_4 b0 b1 u k n v7 x8)))))) else k a2 (some k1)))
set_option maxHeartbeats 4000000 in
set_option maxRecDepth 100000 in
theorem lp_X5_saidInLine_4 {p : Program} {l : Launch} {e : Env} {s : State} {m : MethodId} {args : Array Value} {below : List Frame} {meth : Method} {c : Code} {D : va_G} {cy : Nat → ClassId} {sz : Nat} {H0 : Heap} {b0 : Nat} {b1 : Int32} {u : Mm} {k : Int32 → Option Nat → Option (Int32)} {res : Int32} (hr : meth.sig.returnType = (some .int)) (hlk : meth.locks = false) (E : EE p s m args c cX5_saidInLine 4 RX5 D cy) : ∀ (n : Nat) (a2 : Int32) (a3 : Option Nat) (H : Heap) (locs : List Loc) (ls : Array Slot), MM D cy sz H0 u H locs → lv_has ls 4 [(0, .ref (sz + b0)), (1, .int b1), (2, .int a2), (3, rv sz a3)] → L_X5_saidInLine_4 b0 b1 u k n a2 a3 = some res → (∀ (a2 : Int32) (a3 : Option Nat) (H : Heap) (locs : List Loc) (ls : Array Slot), MM D cy sz H0 u H locs → lv_has ls 4 [(0, .ref (sz + b0)), (1, .int b1), (2, .int a2), (3, rv sz a3)] → k a2 a3 = some res → W p l e rm_X5_saidInLine s m args below meth c H locs 0 0 (MQ below (Post D cy sz H0 (some (.int res)) u) args s 0 0 (fun q => sz ≤ q)) (F0 m 28 ls [])) → W p l e rm_X5_saidInLine s m args below meth c H locs 0 0 (MQ below (Post D cy sz H0 (some (.int res)) u) args s 0 0 (fun q => sz ≤ q)) (F0 m 4 ls []) := by
  obtain ⟨hx, hb, hml, hown, hts, hKK⟩ := id E
  intro n
  induction n with
  | zero => intros; rename_i h _; cases h
  | succ n ih =>
    intro a2 a3 H locs ls hM hl h hk
    rw [L_X5_saidInLine_4] at h
    refine m_aload_n hx hb dX5_saidInLine_4 rfl (lv_at hl 3 rfl) ?_
    rcases a3 with _ | k1
    · rw [cs_n] at h
      refine lv_ifnullN (tgt := 28) hx hb dX5_saidInLine_5 (by decide) ?_
      exact hk a2 (none : Option Nat) H locs ls hM (lv_sub hl [0, 1, 2, 3] rfl) h
    · rw [cs_s] at h
      refine lv_ifnull hx hb dX5_saidInLine_5 ?_
      refine lv_iload_n hx hb dX5_saidInLine_8 rfl (lv_at hl 2 rfl) ?_
      refine lv_iconst (v := (-1)) hx hb dX5_saidInLine_9 (by decide) ?_
      refine lv_icmp_ne (tgt := 28) hx hb dX5_saidInLine_10 (by decide) (fun c2 => ?_) (fun c2 => ?_)
      · replace h := (k_if h).2 c2
        exact hk a2 (some k1) H locs ls hM (lv_sub hl [0, 1, 2, 3] rfl) h
      · replace h := (k_if h).1 c2
        refine lv_aload_n hx hb dX5_saidInLine_13 rfl (lv_at hl 3 rfl) ?_
        obtain ⟨ok3, h⟩ := k_gd h
        refine gs_X5_9 E hM ok3 dX5_saidInLine_14 (fun x4 hxx4 => ?_)
        replace h := k_bb h x4 hxx4.symm
        refine lv_iload_n hx hb dX5_saidInLine_17 rfl (lv_at hl 1 rfl) ?_
        rcases x4 with _ | k5
        · cases h
        rw [cs_s] at h
        obtain ⟨ok6, h⟩ := k_gd h
        refine m_iald E hM ok6 dX5_saidInLine_18 ?_
        refine lv_topi (fun v7 hvv7 => ?_)
        replace h := k_bb h v7 hvv7
        refine lv_istore_n (i := 2) (lv' := [(2, .int v7), (0, .ref (sz + b0)), (1, .int b1), (3, .ref (sz + k1))]) hx hb dX5_saidInLine_19 rfl hl (by decide) (by first | rfl | simp [rv_cat, cat_i, cat_l, cat_r, cat_n]) (fun ls hl => ?_)
        refine lv_aload_n hx hb dX5_saidInLine_20 rfl (lv_at hl 3 rfl) ?_
        refine gs_X5_40 E hM ok3 dX5_saidInLine_21 (fun x8 hxx8 => ?_)
        replace h := k_bb h x8 hxx8.symm
        refine m_astore_n (i := 3) (lv' := [(3, rv sz x8), (2, .int v7), (0, .ref (sz + b0)), (1, .int b1)]) hx hb dX5_saidInLine_24 rfl hl (by decide) (by first | rfl | simp [rv_cat, cat_i, cat_l, cat_r, cat_n]) (fun ls hl => ?_)
        refine lv_goto (tgt := 4) hx hb dX5_saidInLine_25 (by decide) ?_
        exact ih v7 x8 H locs ls hM (lv_sub hl [2, 3, 1, 0] rfl) h hk

def f_X5_saidInLine (r : Nat) (p1 : Int32) (u : Mm) : Option (Int32) := L_X5_saidInLine_4 r p1 u (fun a9 a10 => some a9) 1000 (-1 : Int32) (some r) 
set_option maxHeartbeats 4000000 in
set_option maxRecDepth 100000 in
theorem c_X5_saidInLine (l : Launch) (D : va_G) (cy : Nat → ClassId) (sz : Nat) (H0 : Heap) (u : Mm) (r : Nat) (p1 : Int32) {res : Int32} (h : f_X5_saidInLine r p1 u = some res) : Ctr l yX5_saidInLine cX5_saidInLine 4 (some .int) rm_X5_saidInLine 0 0 D cy sz H0 u [.ref (sz + r), .int p1] (some (.int res)) u := by
  refine m_start (lv := [(0, .ref (sz + r)), (1, .int p1)]) (by decide) (by first | exact Nat.le_of_ble_eq_true rfl | simp [lg_sl, rv_cat, cat_i, cat_l, cat_r, cat_n]) (by first | rfl | simp [lv_args, rv_cat, cat_i, cat_l, cat_r, cat_n]) ?_
  intro p e s m below meth c ls E hr hlk hinit hM hl
  obtain ⟨hx, hb, hml, hown, hts, hKK⟩ := id E
  obtain ⟨H, hH⟩ : ∃ H, H = s.heap := ⟨_, rfl⟩
  obtain ⟨locs, hlocs⟩ : ∃ L : List Loc, L = [] := ⟨_, rfl⟩
  rw [← hH, ← hlocs] at hM ⊢
  unfold f_X5_saidInLine at h
  refine lv_iconst (v := (-1)) hx hb dX5_saidInLine_0 (by decide) ?_
  refine lv_istore_n (i := 2) (lv' := [(2, .int (-1 : Int32)), (0, .ref (sz + r)), (1, .int p1)]) hx hb dX5_saidInLine_1 rfl hl (by decide) (by first | rfl | simp [rv_cat, cat_i, cat_l, cat_r, cat_n]) (fun ls hl => ?_)
  refine lv_aload_n hx hb dX5_saidInLine_2 rfl (lv_at hl 1 rfl) ?_
  refine lv_astore_n (i := 3) (lv' := [(3, .ref (sz + r)), (2, .int (-1 : Int32)), (0, .ref (sz + r)), (1, .int p1)]) hx hb dX5_saidInLine_3 rfl hl (by decide) (by first | rfl | simp [rv_cat, cat_i, cat_l, cat_r, cat_n]) (fun ls hl => ?_)
  refine lp_X5_saidInLine_4 hr hlk  E 1000 (-1 : Int32) (some r) H locs ls hM (lv_sub hl [2, 3, 1, 0] rfl) h (fun a9 a10 H locs ls hM hl h => ?_)
  refine lv_iload_n hx hb dX5_saidInLine_28 rfl (lv_at hl 2 rfl) ?_
  cases h
  exact m_iret hx hb hr hlk hM rfl rfl dX5_saidInLine_29

abbrev rm_X6_init : Room := { frames := 1, cells := 1, slots := 40, locals := 36 }
def f_X6_init (r : Nat) (u : Mm) : Option (Mm) := gd (okM u 10 40) (bb (u.1) (fun q2 => gd (okO (nw u) r 6) (some (sI (sI (sR (nw u) r 0 (some q2)) r 1 (-1 : Int32)) r 2 (0 : Int32)))))
set_option maxHeartbeats 4000000 in
set_option maxRecDepth 100000 in
theorem c_X6_init (l : Launch) (D : va_G) (cy : Nat → ClassId) (sz : Nat) (H0 : Heap) (u : Mm) (r : Nat) {res : Mm} (h : f_X6_init r u = some res) : Ctr l yX6_init cX6_init 1 none rm_X6_init 1 40 D cy sz H0 u [.ref (sz + r)] none res := by
  refine m_start (lv := [(0, .ref (sz + r))]) (by decide) (by first | exact Nat.le_of_ble_eq_true rfl | simp [lg_sl, rv_cat, cat_i, cat_l, cat_r, cat_n]) (by first | rfl | simp [lv_args, rv_cat, cat_i, cat_l, cat_r, cat_n]) ?_
  intro p e s m below meth c ls E hr hlk hinit hM hl
  obtain ⟨hx, hb, hml, hown, hts, hKK⟩ := id E
  obtain ⟨H, hH⟩ : ∃ H, H = s.heap := ⟨_, rfl⟩
  obtain ⟨locs, hlocs⟩ : ∃ L : List Loc, L = [] := ⟨_, rfl⟩
  rw [← hH, ← hlocs] at hM ⊢
  unfold f_X6_init at h
  refine lv_aload_n hx hb dX6_init_0 rfl (lv_at hl 0 rfl) ?_
  refine m_obj E hl.1 wl_X6_3 wm_objectInit wd_objectInit dX6_init_1 (by decide) (Nat.le_of_ble_eq_true rfl) ?_
  refine lv_aload_n hx hb dX6_init_4 rfl (lv_at hl 0 rfl) ?_
  refine lv_bipush (v := 40) hx hb dX6_init_5 (by decide) ?_
  obtain ⟨ok1, h⟩ := k_gd h
  obtain ⟨q2, hq2⟩ : ∃ y : Nat, y = (u).1 := ⟨_, rfl⟩
  replace h := k_bb h q2 hq2
  refine m_newa hq2 (sh := 10) (ty := .long) (N := 40) (by decide) rfl 1 rfl (fun U h => h) wa_long E hM ok1 (by decide) (by decide) (by decide) (nw_l _).symm (fun j => (nw_l j).trans (nw_l 0).symm) (by decide) (by decide) dX6_init_7 (fun H hM => ?_)
  obtain ⟨ok3, h⟩ := k_gd h
  refine ps_X6_9 (v := (some q2)) E hM ok3 hinit dX6_init_9 (fun H locs hM => ?_)
  refine lv_aload_n hx hb dX6_init_12 rfl (lv_at hl 0 rfl) ?_
  refine lv_iconst (v := (-1)) hx hb dX6_init_13 (by decide) ?_
  refine ps_X6_15 (v := (-1 : Int32)) E hM ok3 dX6_init_14 (fun H locs hM => ?_)
  refine lv_aload_n hx hb dX6_init_17 rfl (lv_at hl 0 rfl) ?_
  refine lv_iconst (v := 0) hx hb dX6_init_18 (by decide) ?_
  refine ps_X6_19 (v := (0 : Int32)) E hM ok3 dX6_init_19 (fun H locs hM => ?_)
  cases h
  exact m_vret hx hb hr hlk hM rfl dX6_init_22

abbrev rm_X6_isMissing : Room := { frames := 0, cells := 0, slots := 0, locals := 0 }
def f_X6_isMissing (r : Nat) (u : Mm) : Option (Int32) := gd (okO u r 6) ((if (gI u r 1) = (-1 : Int32) then some (1 : Int32) else some (0 : Int32)))
set_option maxHeartbeats 4000000 in
set_option maxRecDepth 100000 in
theorem c_X6_isMissing (l : Launch) (D : va_G) (cy : Nat → ClassId) (sz : Nat) (H0 : Heap) (u : Mm) (r : Nat) {res : Int32} (h : f_X6_isMissing r u = some res) : Ctr l yX6_isMissing cX6_isMissing 1 (some .boolean) rm_X6_isMissing 0 0 D cy sz H0 u [.ref (sz + r)] (some (.int res)) u := by
  refine m_start (lv := [(0, .ref (sz + r))]) (by decide) (by first | exact Nat.le_of_ble_eq_true rfl | simp [lg_sl, rv_cat, cat_i, cat_l, cat_r, cat_n]) (by first | rfl | simp [lv_args, rv_cat, cat_i, cat_l, cat_r, cat_n]) ?_
  intro p e s m below meth c ls E hr hlk hinit hM hl
  obtain ⟨hx, hb, hml, hown, hts, hKK⟩ := id E
  obtain ⟨H, hH⟩ : ∃ H, H = s.heap := ⟨_, rfl⟩
  obtain ⟨locs, hlocs⟩ : ∃ L : List Loc, L = [] := ⟨_, rfl⟩
  rw [← hH, ← hlocs] at hM ⊢
  unfold f_X6_isMissing at h
  refine lv_aload_n hx hb dX6_isMissing_0 rfl (lv_at hl 0 rfl) ?_
  obtain ⟨ok1, h⟩ := k_gd h
  refine gs_X6_15 E hM ok1 dX6_isMissing_1 ?_
  refine lv_iconst (v := (-1)) hx hb dX6_isMissing_4 (by decide) ?_
  refine lv_icmp_ne (tgt := 12) hx hb dX6_isMissing_5 (by decide) (fun c2 => ?_) (fun c2 => ?_)
  · replace h := (k_if h).2 c2
    refine lv_iconst (v := 0) hx hb dX6_isMissing_12 (by decide) ?_
    cases h
    exact m_zret hx hb hr hlk hM (by decide) rfl rfl dX6_isMissing_13
  · replace h := (k_if h).1 c2
    refine lv_iconst (v := 1) hx hb dX6_isMissing_8 (by decide) ?_
    refine lv_goto (tgt := 13) hx hb dX6_isMissing_9 (by decide) ?_
    cases h
    exact m_zret hx hb hr hlk hM (by decide) rfl rfl dX6_isMissing_13

abbrev rm_J7_fill_d0a16 : Room := { frames := 0, cells := 0, slots := 0, locals := 0 }
def L_J7_fill_d0a16_6 (b0 : Nat) (b1 : Int64) (b4 : Int32) (k : Int32 → Mm → Option (Mm)) : Nat → Int32 → Mm → Option (Mm)
  | 0, _, _ => none
  | n + 1, a3, u => (if b4 ≤ a3 then k a3 u else gd (okA u b0 10 a3) (bb (a3 + (1)) (fun v6 => L_J7_fill_d0a16_6 b0 b1 b4 k n v6 (sL u b0 (Int32.toNatClampNeg a3) b1))))
set_option maxHeartbeats 4000000 in
set_option maxRecDepth 100000 in
theorem lp_J7_fill_d0a16_6 {p : Program} {l : Launch} {e : Env} {s : State} {m : MethodId} {args : Array Value} {below : List Frame} {meth : Method} {c : Code} {D : va_G} {cy : Nat → ClassId} {sz : Nat} {H0 : Heap} {b0 : Nat} {b1 : Int64} {b4 : Int32} {k : Int32 → Mm → Option (Mm)} {res : Mm} (hr : meth.sig.returnType = none) (hlk : meth.locks = false) (E : EE p s m args c cJ7_fill_d0a16 5 RJ7 D cy) : ∀ (n : Nat) (a3 : Int32) (u : Mm) (H : Heap) (locs : List Loc) (ls : Array Slot), MM D cy sz H0 u H locs → lv_has ls 5 [(0, .ref (sz + b0)), (1, .long b1), (3, .int a3), (4, .int b4)] → L_J7_fill_d0a16_6 b0 b1 b4 k n a3 u = some res → (∀ (a3 : Int32) (u : Mm) (H : Heap) (locs : List Loc) (ls : Array Slot), MM D cy sz H0 u H locs → lv_has ls 5 [(0, .ref (sz + b0)), (1, .long b1), (3, .int a3), (4, .int b4)] → k a3 u = some res → W p l e rm_J7_fill_d0a16 s m args below meth c H locs 0 0 (MQ below (Post D cy sz H0 none res) args s 0 0 (fun q => sz ≤ q)) (F0 m 22 ls [])) → W p l e rm_J7_fill_d0a16 s m args below meth c H locs 0 0 (MQ below (Post D cy sz H0 none res) args s 0 0 (fun q => sz ≤ q)) (F0 m 6 ls []) := by
  obtain ⟨hx, hb, hml, hown, hts, hKK⟩ := id E
  intro n
  induction n with
  | zero => intros; rename_i h _; cases h
  | succ n ih =>
    intro a3 u H locs ls hM hl h hk
    rw [L_J7_fill_d0a16_6] at h
    refine lv_iload_n hx hb dJ7_fill_d0a16_6 rfl (lv_at hl 2 rfl) ?_
    refine lv_iload hx hb dJ7_fill_d0a16_7 (lv_at hl 3 rfl) ?_
    refine lv_icmp_ge (tgt := 22) hx hb dJ7_fill_d0a16_9 (by decide) (fun c4 => ?_) (fun c4 => ?_)
    · replace h := (k_if h).1 c4
      exact hk a3 u H locs ls hM (lv_sub hl [0, 1, 2, 3] rfl) h
    · replace h := (k_if h).2 c4
      refine lv_aload_n hx hb dJ7_fill_d0a16_12 rfl (lv_at hl 0 rfl) ?_
      refine lv_iload_n hx hb dJ7_fill_d0a16_13 rfl (lv_at hl 2 rfl) ?_
      refine lv_lload_n hx hb dJ7_fill_d0a16_14 rfl (lv_at hl 1 rfl) ?_
      obtain ⟨ok5, h⟩ := k_gd h
      refine m_last E hM ok5 dJ7_fill_d0a16_15 (fun H locs hM => ?_)
      obtain ⟨v6, hvv6⟩ : ∃ y : Int32, y = a3 + (1) := ⟨_, rfl⟩
      replace h := k_bb h v6 hvv6
      refine lv_iinc (v := v6) (lv' := [(3, .int v6), (0, .ref (sz + b0)), (1, .long b1), (4, .int b4)]) hx hb dJ7_fill_d0a16_16 hl (k := 2) rfl (by rw [hvv6]; rfl) (by decide) (by first | rfl | simp [rv_cat, cat_i, cat_l, cat_r, cat_n]) (fun ls hl => ?_)
      refine lv_goto (tgt := 6) hx hb dJ7_fill_d0a16_19 (by decide) ?_
      exact ih v6 (sL u b0 (Int32.toNatClampNeg a3) b1) H locs ls hM (lv_sub hl [1, 2, 0, 3] rfl) h hk

def f_J7_fill_d0a16 (p1 : Option Nat) (p2 : Int64) (u : Mm) : Option (Mm) := cs p1 none (fun k1 => gd (okO u k1 10) (bb ((Int32.ofNat (aln k1))) (fun v3 => L_J7_fill_d0a16_6 k1 p2 v3  (fun a7 u8 => some u8) 1000 (0 : Int32) u)))
set_option maxHeartbeats 4000000 in
set_option maxRecDepth 100000 in
theorem c_J7_fill_d0a16 (l : Launch) (D : va_G) (cy : Nat → ClassId) (sz : Nat) (H0 : Heap) (u : Mm) (p1 : Option Nat) (p2 : Int64) {res : Mm} (h : f_J7_fill_d0a16 p1 p2 u = some res) : Ctr l yJ7_fill_d0a16 cJ7_fill_d0a16 5 none rm_J7_fill_d0a16 0 0 D cy sz H0 u [rv sz p1, .long p2] none res := by
  refine m_start (lv := [(0, rv sz p1), (1, .long p2)]) (by decide) (by first | exact Nat.le_of_ble_eq_true rfl | simp [lg_sl, rv_cat, cat_i, cat_l, cat_r, cat_n]) (by first | rfl | simp [lv_args, rv_cat, cat_i, cat_l, cat_r, cat_n]) ?_
  intro p e s m below meth c ls E hr hlk hinit hM hl
  obtain ⟨hx, hb, hml, hown, hts, hKK⟩ := id E
  obtain ⟨H, hH⟩ : ∃ H, H = s.heap := ⟨_, rfl⟩
  obtain ⟨locs, hlocs⟩ : ∃ L : List Loc, L = [] := ⟨_, rfl⟩
  rw [← hH, ← hlocs] at hM ⊢
  unfold f_J7_fill_d0a16 at h
  refine lv_iconst (v := 0) hx hb dJ7_fill_d0a16_0 (by decide) ?_
  refine lv_istore_n (i := 3) (lv' := [(3, .int (0 : Int32)), (0, rv sz p1), (1, .long p2)]) hx hb dJ7_fill_d0a16_1 rfl hl (by decide) (by first | rfl | simp [rv_cat, cat_i, cat_l, cat_r, cat_n]) (fun ls hl => ?_)
  refine m_aload_n hx hb dJ7_fill_d0a16_2 rfl (lv_at hl 1 rfl) ?_
  rcases p1 with _ | k1
  · cases h
  rw [cs_s] at h
  obtain ⟨ok2, h⟩ := k_gd h
  refine m_alen (sh := 10) (tp := 1) (by decide) rfl E hM ok2 dJ7_fill_d0a16_3 ?_
  refine lv_topi (fun v3 hvv3 => ?_)
  replace h := k_bb h v3 hvv3
  refine lv_istore (i := 4) (lv' := [(4, .int v3), (3, .int (0 : Int32)), (0, .ref (sz + k1)), (1, .long p2)]) hx hb dJ7_fill_d0a16_4 hl (by decide) (by first | rfl | simp [rv_cat, cat_i, cat_l, cat_r, cat_n]) (fun ls hl => ?_)
  refine lp_J7_fill_d0a16_6 hr hlk  E 1000 (0 : Int32) u H locs ls hM (lv_sub hl [2, 3, 1, 0] rfl) h (fun a7 u8 H locs ls hM hl h => ?_)
  cases h
  exact m_vret hx hb hr hlk hM rfl dJ7_fill_d0a16_22

abbrev rm_X6_renew : Room := { frames := 1, cells := 0, slots := 0, locals := 36 }
def f_X6_renew (r : Nat) (p1 : Int32) (p2 : Int32) (u : Mm) : Option (Mm) := gd (okO u r 6) (bb (gR (sI (sI u r 1 p1) r 2 p2) r 0) (fun x2 => bd (f_J7_fill_d0a16 x2 (0 : Int64) (sI (sI u r 1 p1) r 2 p2)) (fun w3 => some w3)))
set_option maxHeartbeats 4000000 in
set_option maxRecDepth 100000 in
theorem c_X6_renew (l : Launch) (D : va_G) (cy : Nat → ClassId) (sz : Nat) (H0 : Heap) (u : Mm) (r : Nat) (p1 : Int32) (p2 : Int32) {res : Mm} (h : f_X6_renew r p1 p2 u = some res) : Ctr l yX6_renew cX6_renew 3 none rm_X6_renew 0 0 D cy sz H0 u [.ref (sz + r), .int p1, .int p2] none res := by
  refine m_start (lv := [(0, .ref (sz + r)), (1, .int p1), (2, .int p2)]) (by decide) (by first | exact Nat.le_of_ble_eq_true rfl | simp [lg_sl, rv_cat, cat_i, cat_l, cat_r, cat_n]) (by first | rfl | simp [lv_args, rv_cat, cat_i, cat_l, cat_r, cat_n]) ?_
  intro p e s m below meth c ls E hr hlk hinit hM hl
  obtain ⟨hx, hb, hml, hown, hts, hKK⟩ := id E
  obtain ⟨H, hH⟩ : ∃ H, H = s.heap := ⟨_, rfl⟩
  obtain ⟨locs, hlocs⟩ : ∃ L : List Loc, L = [] := ⟨_, rfl⟩
  rw [← hH, ← hlocs] at hM ⊢
  unfold f_X6_renew at h
  refine lv_aload_n hx hb dX6_renew_0 rfl (lv_at hl 0 rfl) ?_
  refine lv_iload_n hx hb dX6_renew_1 rfl (lv_at hl 1 rfl) ?_
  obtain ⟨ok1, h⟩ := k_gd h
  refine ps_X6_15 (v := p1) E hM ok1 dX6_renew_2 (fun H locs hM => ?_)
  refine lv_aload_n hx hb dX6_renew_5 rfl (lv_at hl 0 rfl) ?_
  refine lv_iload_n hx hb dX6_renew_6 rfl (lv_at hl 2 rfl) ?_
  refine ps_X6_19 (v := p2) E hM ok1 dX6_renew_7 (fun H locs hM => ?_)
  refine lv_aload_n hx hb dX6_renew_10 rfl (lv_at hl 0 rfl) ?_
  refine gs_X6_9 E hM ok1 dX6_renew_11 (fun x2 hxx2 => ?_)
  replace h := k_bb h x2 hxx2.symm
  refine lv_lconst (v := 0) hx hb dX6_renew_14 (by decide) ?_
  obtain ⟨w3, hzw3, h⟩ := k_bd h
  refine m_callS (n := 2) (As := [rv sz x2, .long (0 : Int64)]) (rest := []) (st1 := []) E hM hl.1 (c_J7_fill_d0a16 l D cy sz H0 (sI (sI u r 1 p1) r 2 p2) x2 (0 : Int64) hzw3) wl_X6_22 wst_J7_fill_d0a16 wi_J7 wd_J7_fill_d0a16 rfl rfl (by decide +kernel) ⟨by decide, by decide⟩ rfl rfl (by first | exact Nat.le_of_ble_eq_true rfl | simp [rv_cat, cat_i, cat_l, cat_r, cat_n]) dX6_renew_15 ⟨by decide, by decide⟩ rfl (fun H locs hM => ?_)
  cases h
  exact m_vret hx hb hr hlk hM rfl dX6_renew_18

abbrev rm_X6_hasPlace : Room := { frames := 0, cells := 0, slots := 0, locals := 0 }
def f_X6_hasPlace (r : Nat) (p1 : Int32) (u : Mm) : Option (Int32) := (if p1 < 0 then some (0 : Int32) else gd (okO u r 6) ((if (gI u r 2) ≤ p1 then some (0 : Int32) else some (1 : Int32))))
set_option maxHeartbeats 4000000 in
set_option maxRecDepth 100000 in
theorem c_X6_hasPlace (l : Launch) (D : va_G) (cy : Nat → ClassId) (sz : Nat) (H0 : Heap) (u : Mm) (r : Nat) (p1 : Int32) {res : Int32} (h : f_X6_hasPlace r p1 u = some res) : Ctr l yX6_hasPlace cX6_hasPlace 2 (some .boolean) rm_X6_hasPlace 0 0 D cy sz H0 u [.ref (sz + r), .int p1] (some (.int res)) u := by
  refine m_start (lv := [(0, .ref (sz + r)), (1, .int p1)]) (by decide) (by first | exact Nat.le_of_ble_eq_true rfl | simp [lg_sl, rv_cat, cat_i, cat_l, cat_r, cat_n]) (by first | rfl | simp [lv_args, rv_cat, cat_i, cat_l, cat_r, cat_n]) ?_
  intro p e s m below meth c ls E hr hlk hinit hM hl
  obtain ⟨hx, hb, hml, hown, hts, hKK⟩ := id E
  obtain ⟨H, hH⟩ : ∃ H, H = s.heap := ⟨_, rfl⟩
  obtain ⟨locs, hlocs⟩ : ∃ L : List Loc, L = [] := ⟨_, rfl⟩
  rw [← hH, ← hlocs] at hM ⊢
  unfold f_X6_hasPlace at h
  refine lv_iload_n hx hb dX6_hasPlace_0 rfl (lv_at hl 1 rfl) ?_
  refine lv_if_lt (tgt := 16) hx hb dX6_hasPlace_1 (by decide) (fun c1 => ?_) (fun c1 => ?_)
  · replace h := (k_if h).1 c1
    refine lv_iconst (v := 0) hx hb dX6_hasPlace_16 (by decide) ?_
    cases h
    exact m_zret hx hb hr hlk hM (by decide) rfl rfl dX6_hasPlace_17
  · replace h := (k_if h).2 c1
    refine lv_iload_n hx hb dX6_hasPlace_4 rfl (lv_at hl 1 rfl) ?_
    refine lv_aload_n hx hb dX6_hasPlace_5 rfl (lv_at hl 0 rfl) ?_
    obtain ⟨ok2, h⟩ := k_gd h
    refine gs_X6_19 E hM ok2 dX6_hasPlace_6 ?_
    refine lv_icmp_ge (tgt := 16) hx hb dX6_hasPlace_9 (by decide) (fun c3 => ?_) (fun c3 => ?_)
    · replace h := (k_if h).1 c3
      refine lv_iconst (v := 0) hx hb dX6_hasPlace_16 (by decide) ?_
      cases h
      exact m_zret hx hb hr hlk hM (by decide) rfl rfl dX6_hasPlace_17
    · replace h := (k_if h).2 c3
      refine lv_iconst (v := 1) hx hb dX6_hasPlace_12 (by decide) ?_
      refine lv_goto (tgt := 17) hx hb dX6_hasPlace_13 (by decide) ?_
      cases h
      exact m_zret hx hb hr hlk hM (by decide) rfl rfl dX6_hasPlace_17

abbrev rm_X6_hasRun : Room := { frames := 0, cells := 0, slots := 0, locals := 0 }
def f_X6_hasRun (r : Nat) (p1 : Int32) (p2 : Int32) (u : Mm) : Option (Int32) := (if p1 < 0 then some (0 : Int32) else gd (okO u r 6) ((if ((gI u r 2) - p2) < p1 then some (0 : Int32) else some (1 : Int32))))
set_option maxHeartbeats 4000000 in
set_option maxRecDepth 100000 in
theorem c_X6_hasRun (l : Launch) (D : va_G) (cy : Nat → ClassId) (sz : Nat) (H0 : Heap) (u : Mm) (r : Nat) (p1 : Int32) (p2 : Int32) {res : Int32} (h : f_X6_hasRun r p1 p2 u = some res) : Ctr l yX6_hasRun cX6_hasRun 3 (some .boolean) rm_X6_hasRun 0 0 D cy sz H0 u [.ref (sz + r), .int p1, .int p2] (some (.int res)) u := by
  refine m_start (lv := [(0, .ref (sz + r)), (1, .int p1), (2, .int p2)]) (by decide) (by first | exact Nat.le_of_ble_eq_true rfl | simp [lg_sl, rv_cat, cat_i, cat_l, cat_r, cat_n]) (by first | rfl | simp [lv_args, rv_cat, cat_i, cat_l, cat_r, cat_n]) ?_
  intro p e s m below meth c ls E hr hlk hinit hM hl
  obtain ⟨hx, hb, hml, hown, hts, hKK⟩ := id E
  obtain ⟨H, hH⟩ : ∃ H, H = s.heap := ⟨_, rfl⟩
  obtain ⟨locs, hlocs⟩ : ∃ L : List Loc, L = [] := ⟨_, rfl⟩
  rw [← hH, ← hlocs] at hM ⊢
  unfold f_X6_hasRun at h
  refine lv_iload_n hx hb dX6_hasRun_0 rfl (lv_at hl 1 rfl) ?_
  refine lv_if_lt (tgt := 18) hx hb dX6_hasRun_1 (by decide) (fun c1 => ?_) (fun c1 => ?_)
  · replace h := (k_if h).1 c1
    refine lv_iconst (v := 0) hx hb dX6_hasRun_18 (by decide) ?_
    cases h
    exact m_zret hx hb hr hlk hM (by decide) rfl rfl dX6_hasRun_19
  · replace h := (k_if h).2 c1
    refine lv_iload_n hx hb dX6_hasRun_4 rfl (lv_at hl 1 rfl) ?_
    refine lv_aload_n hx hb dX6_hasRun_5 rfl (lv_at hl 0 rfl) ?_
    obtain ⟨ok2, h⟩ := k_gd h
    refine gs_X6_19 E hM ok2 dX6_hasRun_6 ?_
    refine lv_iload_n hx hb dX6_hasRun_9 rfl (lv_at hl 2 rfl) ?_
    refine lv_isub hx hb dX6_hasRun_10 ?_
    refine lv_icmp_gt (tgt := 18) hx hb dX6_hasRun_11 (by decide) (fun c3 => ?_) (fun c3 => ?_)
    · replace h := (k_if h).1 c3
      refine lv_iconst (v := 0) hx hb dX6_hasRun_18 (by decide) ?_
      cases h
      exact m_zret hx hb hr hlk hM (by decide) rfl rfl dX6_hasRun_19
    · replace h := (k_if h).2 c3
      refine lv_iconst (v := 1) hx hb dX6_hasRun_14 (by decide) ?_
      refine lv_goto (tgt := 19) hx hb dX6_hasRun_15 (by decide) ?_
      cases h
      exact m_zret hx hb hr hlk hM (by decide) rfl rfl dX6_hasRun_19

abbrev rm_X6_cut : Room := { frames := 0, cells := 0, slots := 0, locals := 0 }
def f_X6_cut (r : Nat) (p1 : Int64) (u : Mm) : Option (Int64) := gd (okO u r 6) (bb ((gI u r 1)) (fun v2 => (if v2 = 0 then some (Int32.toInt64 (Int8.toInt32 (Int32.toInt8 (Int64.toInt32 p1)))) else (if v2 = 1 then some (Int32.toInt64 (Int16.toInt32 (Int32.toInt16 (Int64.toInt32 p1)))) else (if v2 = 2 then some (Int32.toInt64 (Int64.toInt32 p1)) else (some p1))))))
set_option maxHeartbeats 4000000 in
set_option maxRecDepth 100000 in
theorem c_X6_cut (l : Launch) (D : va_G) (cy : Nat → ClassId) (sz : Nat) (H0 : Heap) (u : Mm) (r : Nat) (p1 : Int64) {res : Int64} (h : f_X6_cut r p1 u = some res) : Ctr l yX6_cut cX6_cut 3 (some .long) rm_X6_cut 0 0 D cy sz H0 u [.ref (sz + r), .long p1] (some (.long res)) u := by
  refine m_start (lv := [(0, .ref (sz + r)), (1, .long p1)]) (by decide) (by first | exact Nat.le_of_ble_eq_true rfl | simp [lg_sl, rv_cat, cat_i, cat_l, cat_r, cat_n]) (by first | rfl | simp [lv_args, rv_cat, cat_i, cat_l, cat_r, cat_n]) ?_
  intro p e s m below meth c ls E hr hlk hinit hM hl
  obtain ⟨hx, hb, hml, hown, hts, hKK⟩ := id E
  obtain ⟨H, hH⟩ : ∃ H, H = s.heap := ⟨_, rfl⟩
  obtain ⟨locs, hlocs⟩ : ∃ L : List Loc, L = [] := ⟨_, rfl⟩
  rw [← hH, ← hlocs] at hM ⊢
  unfold f_X6_cut at h
  refine lv_aload_n hx hb dX6_cut_0 rfl (lv_at hl 0 rfl) ?_
  obtain ⟨ok1, h⟩ := k_gd h
  refine gs_X6_15 E hM ok1 dX6_cut_1 ?_
  refine lv_topi (fun v2 hvv2 => ?_)
  replace h := k_bb h v2 hvv2
  by_cases c3 : v2 = 0
  · replace h := (k_if h).1 c3
    refine m_tsw (k := 0) (tgt := 32) hx hb dX6_cut_4 c3 (by decide) (by decide) rfl (by decide) ?_
    refine lv_lload_n hx hb dX6_cut_32 rfl (lv_at hl 1 rfl) ?_
    refine lv_l2i hx hb dX6_cut_33 rfl ?_
    refine lv_i2b hx hb dX6_cut_34 rfl ?_
    refine lv_i2l hx hb dX6_cut_35 rfl ?_
    cases h
    exact m_lret hx hb hr hlk hM rfl rfl dX6_cut_36
  replace h := (k_if h).2 c3
  by_cases c4 : v2 = 1
  · replace h := (k_if h).1 c4
    refine m_tsw (k := 1) (tgt := 37) hx hb dX6_cut_4 c4 (by decide) (by decide) rfl (by decide) ?_
    refine lv_lload_n hx hb dX6_cut_37 rfl (lv_at hl 1 rfl) ?_
    refine lv_l2i hx hb dX6_cut_38 rfl ?_
    refine lv_i2s hx hb dX6_cut_39 rfl ?_
    refine lv_i2l hx hb dX6_cut_40 rfl ?_
    cases h
    exact m_lret hx hb hr hlk hM rfl rfl dX6_cut_41
  replace h := (k_if h).2 c4
  by_cases c5 : v2 = 2
  · replace h := (k_if h).1 c5
    refine m_tsw (k := 2) (tgt := 42) hx hb dX6_cut_4 c5 (by decide) (by decide) rfl (by decide) ?_
    refine lv_lload_n hx hb dX6_cut_42 rfl (lv_at hl 1 rfl) ?_
    refine lv_l2i hx hb dX6_cut_43 rfl ?_
    refine lv_i2l hx hb dX6_cut_44 rfl ?_
    cases h
    exact m_lret hx hb hr hlk hM rfl rfl dX6_cut_45
  replace h := (k_if h).2 c5
  refine lv_tableOut (tgt := 46) hx hb dX6_cut_4 (by have qc3 := lv_neT (a := 0) c3 (by decide); have qc4 := lv_neT (a := 1) c4 (by decide); have qc5 := lv_neT (a := 2) c5 (by decide); omega) (by decide) ?_
  refine lv_lload_n hx hb dX6_cut_46 rfl (lv_at hl 1 rfl) ?_
  cases h
  exact m_lret hx hb hr hlk hM rfl rfl dX6_cut_47

abbrev rm_X6_put : Room := { frames := 1, cells := 0, slots := 0, locals := 36 }
def f_X6_put (r : Nat) (p1 : Int32) (p2 : Int64) (u : Mm) : Option (Mm) := gd (okO u r 6) (bb (gR u r 0) (fun x2 => bd (f_X6_cut r p2 u) (fun w3 => cs x2 none (fun k4 => gd (okA u k4 10 p1) (some (sL u k4 (Int32.toNatClampNeg p1) w3))))))
set_option maxHeartbeats 4000000 in
set_option maxRecDepth 100000 in
theorem c_X6_put (l : Launch) (D : va_G) (cy : Nat → ClassId) (sz : Nat) (H0 : Heap) (u : Mm) (r : Nat) (p1 : Int32) (p2 : Int64) {res : Mm} (h : f_X6_put r p1 p2 u = some res) : Ctr l yX6_put cX6_put 4 none rm_X6_put 0 0 D cy sz H0 u [.ref (sz + r), .int p1, .long p2] none res := by
  refine m_start (lv := [(0, .ref (sz + r)), (1, .int p1), (2, .long p2)]) (by decide) (by first | exact Nat.le_of_ble_eq_true rfl | simp [lg_sl, rv_cat, cat_i, cat_l, cat_r, cat_n]) (by first | rfl | simp [lv_args, rv_cat, cat_i, cat_l, cat_r, cat_n]) ?_
  intro p e s m below meth c ls E hr hlk hinit hM hl
  obtain ⟨hx, hb, hml, hown, hts, hKK⟩ := id E
  obtain ⟨H, hH⟩ : ∃ H, H = s.heap := ⟨_, rfl⟩
  obtain ⟨locs, hlocs⟩ : ∃ L : List Loc, L = [] := ⟨_, rfl⟩
  rw [← hH, ← hlocs] at hM ⊢
  unfold f_X6_put at h
  refine lv_aload_n hx hb dX6_put_0 rfl (lv_at hl 0 rfl) ?_
  obtain ⟨ok1, h⟩ := k_gd h
  refine gs_X6_9 E hM ok1 dX6_put_1 (fun x2 hxx2 => ?_)
  replace h := k_bb h x2 hxx2.symm
  refine lv_iload_n hx hb dX6_put_4 rfl (lv_at hl 1 rfl) ?_
  refine lv_aload_n hx hb dX6_put_5 rfl (lv_at hl 0 rfl) ?_
  refine lv_lload_n hx hb dX6_put_6 rfl (lv_at hl 2 rfl) ?_
  obtain ⟨w3, hzw3, h⟩ := k_bd h
  refine m_callV (C := RX6) (T := TX6) (N := 3) (ci := 6) (n := 1) (As := [.long p2]) (rest := [.int p1, rv sz x2]) (st1 := (.long w3 :: [.int p1, rv sz x2])) E hM hl.1 ok1 (by decide) rfl rfl (c_X6_cut l D cy sz H0 u r p2 hzw3) wl_X6_28 wm_X6_cut ws_X6_cut wi_X6 wd_X6_cut rfl rfl (by decide +kernel) ⟨by decide, by decide⟩ rfl rfl (by first | exact Nat.le_of_ble_eq_true rfl | simp [rv_cat, cat_i, cat_l, cat_r, cat_n]) dX6_put_7 ⟨by decide, by decide⟩ rfl (fun H locs hM => ?_)
  rcases x2 with _ | k4
  · cases h
  rw [cs_s] at h
  obtain ⟨ok5, h⟩ := k_gd h
  refine m_last E hM ok5 dX6_put_10 (fun H locs hM => ?_)
  cases h
  exact m_vret hx hb hr hlk hM rfl dX6_put_11

abbrev rm_X7_init : Room := { frames := 3, cells := 32, slots := 1659, locals := 108 }
def f_X7_init (r : Nat) (u : Mm) : Option (Mm) := gd (okM u 13 4) (bb (u.1) (fun q2 => gd (okO (nw u) r 7) (gd (okN (sR (nw u) r 0 (some q2)) 0) (bb ((sR (nw u) r 0 (some q2)).1) (fun q5 => bd (f_X0_init q5 (nw (sR (nw u) r 0 (some q2)))) (fun w6 => gd (okO w6 r 7) (gd (okN (sR w6 r 1 (some q5)) 2) (bb ((sR w6 r 1 (some q5)).1) (fun q9 => bd (f_X2_init q9 (nw (sR w6 r 1 (some q5)))) (fun w10 => gd (okO w10 r 7) (gd (okN (sR w10 r 2 (some q9)) 4) (bb ((sR w10 r 2 (some q9)).1) (fun q13 => bd (f_X4_init q13 (nw (sR w10 r 2 (some q9)))) (fun w14 => gd (okO w14 r 7) (gd (okN (sR w14 r 3 (some q13)) 3) (bb ((sR w14 r 3 (some q13)).1) (fun q17 => bd (f_X3_init q17 (nw (sR w14 r 3 (some q13)))) (fun w18 => gd (okO w18 r 7) (bb (gR (sL (sL (sI (sR w18 r 4 (some q17)) r 5 (0 : Int32)) r 6 (0 : Int64)) r 7 (1 : Int64)) r 0) (fun x20 => gd (okN (sL (sL (sI (sR w18 r 4 (some q17)) r 5 (0 : Int32)) r 6 (0 : Int64)) r 7 (1 : Int64)) 6) (bb ((sL (sL (sI (sR w18 r 4 (some q17)) r 5 (0 : Int32)) r 6 (0 : Int64)) r 7 (1 : Int64)).1) (fun q22 => bd (f_X6_init q22 (nw (sL (sL (sI (sR w18 r 4 (some q17)) r 5 (0 : Int32)) r 6 (0 : Int64)) r 7 (1 : Int64)))) (fun w23 => cs x20 none (fun k24 => gd (okO w23 q22 6) (gd (okA w23 k24 13 (0 : Int32)) (gd (okO (sR w23 k24 (Int32.toNatClampNeg (0 : Int32)) (some q22)) r 7) (bb (gR (sR w23 k24 (Int32.toNatClampNeg (0 : Int32)) (some q22)) r 0) (fun x28 => gd (okN (sR w23 k24 (Int32.toNatClampNeg (0 : Int32)) (some q22)) 6) (bb ((sR w23 k24 (Int32.toNatClampNeg (0 : Int32)) (some q22)).1) (fun q30 => bd (f_X6_init q30 (nw (sR w23 k24 (Int32.toNatClampNeg (0 : Int32)) (some q22)))) (fun w31 => cs x28 none (fun k32 => gd (okO w31 q30 6) (gd (okA w31 k32 13 (1 : Int32)) (gd (okO (sR w31 k32 (Int32.toNatClampNeg (1 : Int32)) (some q30)) r 7) (bb (gR (sR w31 k32 (Int32.toNatClampNeg (1 : Int32)) (some q30)) r 0) (fun x36 => gd (okN (sR w31 k32 (Int32.toNatClampNeg (1 : Int32)) (some q30)) 6) (bb ((sR w31 k32 (Int32.toNatClampNeg (1 : Int32)) (some q30)).1) (fun q38 => bd (f_X6_init q38 (nw (sR w31 k32 (Int32.toNatClampNeg (1 : Int32)) (some q30)))) (fun w39 => cs x36 none (fun k40 => gd (okO w39 q38 6) (gd (okA w39 k40 13 (2 : Int32)) (gd (okO (sR w39 k40 (Int32.toNatClampNeg (2 : Int32)) (some q38)) r 7) (bb (gR (sR w39 k40 (Int32.toNatClampNeg (2 : Int32)) (some q38)) r 0) (fun x44 => gd (okN (sR w39 k40 (Int32.toNatClampNeg (2 : Int32)) (some q38)) 6) (bb ((sR w39 k40 (Int32.toNatClampNeg (2 : Int32)) (some q38)).1) (fun q46 => bd (f_X6_init q46 (nw (sR w39 k40 (Int32.toNatClampNeg (2 : Int32)) (some q38)))) (fun w47 => cs x44 none (fun k48 => gd (okO w47 q46 6) (gd (okA w47 k48 13 (3 : Int32)) (some (sR w47 k48 (Int32.toNatClampNeg (3 : Int32)) (some q46))))))))))))))))))))))))))))))))))))))))))))))))))))
set_option maxHeartbeats 4000000 in
set_option maxRecDepth 100000 in
theorem c_X7_init (l : Launch) (D : va_G) (cy : Nat → ClassId) (sz : Nat) (H0 : Heap) (u : Mm) (r : Nat) {res : Mm} (h : f_X7_init r u = some res) : Ctr l yX7_init cX7_init 2 none rm_X7_init 32 1659 D cy sz H0 u [.ref (sz + r)] none res := by
  refine m_start (lv := [(0, .ref (sz + r))]) (by decide) (by first | exact Nat.le_of_ble_eq_true rfl | simp [lg_sl, rv_cat, cat_i, cat_l, cat_r, cat_n]) (by first | rfl | simp [lv_args, rv_cat, cat_i, cat_l, cat_r, cat_n]) ?_
  intro p e s m below meth c ls E hr hlk hinit hM hl
  obtain ⟨hx, hb, hml, hown, hts, hKK⟩ := id E
  obtain ⟨H, hH⟩ : ∃ H, H = s.heap := ⟨_, rfl⟩
  obtain ⟨locs, hlocs⟩ : ∃ L : List Loc, L = [] := ⟨_, rfl⟩
  rw [← hH, ← hlocs] at hM ⊢
  unfold f_X7_init at h
  refine lv_aload_n hx hb dX7_init_0 rfl (lv_at hl 0 rfl) ?_
  refine m_obj E hl.1 wl_X7_3 wm_objectInit wd_objectInit dX7_init_1 (by decide) (Nat.le_of_ble_eq_true rfl) ?_
  refine lv_aload_n hx hb dX7_init_4 rfl (lv_at hl 0 rfl) ?_
  refine lv_iconst (v := 4) hx hb dX7_init_5 (by decide) ?_
  obtain ⟨ok1, h⟩ := k_gd h
  obtain ⟨q2, hq2⟩ : ∃ y : Nat, y = (u).1 := ⟨_, rfl⟩
  replace h := k_bb h q2 hq2
  refine m_newq hq2 (sh := 13) (N := 4) (by decide) rfl 4 rfl hKK.2.2.1 wc_X7_9 E hM ok1 (by decide) (by decide) (by decide) (by decide) (by decide) dX7_init_6 (fun H hM => ?_)
  obtain ⟨ok3, h⟩ := k_gd h
  refine ps_X7_11 (v := (some q2)) E hM ok3 hinit dX7_init_9 (fun H locs hM => ?_)
  refine lv_aload_n hx hb dX7_init_12 rfl (lv_at hl 0 rfl) ?_
  obtain ⟨ok4, h⟩ := k_gd h
  obtain ⟨q5, hq5⟩ : ∃ y : Nat, y = ((sR (nw u) r 0 (some q2))).1 := ⟨_, rfl⟩
  replace h := k_bb h q5 hq5
  refine m_new hq5 E hM (ci := 0) (N := 4) (C := RX0) (T := TX0) tyX0 tyX0_ok ok4 (by decide) rfl rfl inX0 wc_X7_15 wn_X0 wi_X0 (fun j hj => by rcases (show j = 0 ∨ j = 1 ∨ j = 2 ∨ j = 3 by omega) with rfl | rfl | rfl | rfl <;> first | exact (nw_i _).symm | exact (nw_l _).symm | exact (nw_r _).symm) (by decide) (by decide) dX7_init_13 (fun H hM => ?_)
  refine lv_dup hx hb dX7_init_16 rfl ?_
  obtain ⟨w6, hzw6, h⟩ := k_bd h
  refine m_callIN (n := 0) (As := []) (rest := [.ref (sz + q5), .ref (sz + r)]) (st1 := [.ref (sz + q5), .ref (sz + r)]) E hM hl.1 (c_X0_init l D cy sz H0 (nw (sR (nw u) r 0 (some q2))) q5 hzw6) wq_X7_17 wm_X0_init wi_X0 wd_X0_init rfl rfl rfl (by decide +kernel) ⟨by decide, by decide⟩ rfl rfl (by first | exact Nat.le_of_ble_eq_true rfl | simp [rv_cat, cat_i, cat_l, cat_r, cat_n]) dX7_init_17 ⟨by decide, by decide⟩ rfl (fun H locs hM => ?_)
  obtain ⟨ok7, h⟩ := k_gd h
  refine ps_X7_18 (v := (some q5)) E hM ok7 hinit dX7_init_20 (fun H locs hM => ?_)
  refine lv_aload_n hx hb dX7_init_23 rfl (lv_at hl 0 rfl) ?_
  obtain ⟨ok8, h⟩ := k_gd h
  obtain ⟨q9, hq9⟩ : ∃ y : Nat, y = ((sR w6 r 1 (some q5))).1 := ⟨_, rfl⟩
  replace h := k_bb h q9 hq9
  refine m_new hq9 E hM (ci := 2) (N := 4) (C := RX2) (T := TX2) tyX2 tyX2_ok ok8 (by decide) rfl rfl inX2 wc_X7_22 wn_X2 wi_X2 (fun j hj => by rcases (show j = 0 ∨ j = 1 ∨ j = 2 ∨ j = 3 by omega) with rfl | rfl | rfl | rfl <;> first | exact (nw_i _).symm | exact (nw_l _).symm | exact (nw_r _).symm) (by decide) (by decide) dX7_init_24 (fun H hM => ?_)
  refine lv_dup hx hb dX7_init_27 rfl ?_
  obtain ⟨w10, hzw10, h⟩ := k_bd h
  refine m_callIN (n := 0) (As := []) (rest := [.ref (sz + q9), .ref (sz + r)]) (st1 := [.ref (sz + q9), .ref (sz + r)]) E hM hl.1 (c_X2_init l D cy sz H0 (nw (sR w6 r 1 (some q5))) q9 hzw10) wq_X7_24 wm_X2_init wi_X2 wd_X2_init rfl rfl rfl (by decide +kernel) ⟨by decide, by decide⟩ rfl rfl (by first | exact Nat.le_of_ble_eq_true rfl | simp [rv_cat, cat_i, cat_l, cat_r, cat_n]) dX7_init_28 ⟨by decide, by decide⟩ rfl (fun H locs hM => ?_)
  obtain ⟨ok11, h⟩ := k_gd h
  refine ps_X7_25 (v := (some q9)) E hM ok11 hinit dX7_init_31 (fun H locs hM => ?_)
  refine lv_aload_n hx hb dX7_init_34 rfl (lv_at hl 0 rfl) ?_
  obtain ⟨ok12, h⟩ := k_gd h
  obtain ⟨q13, hq13⟩ : ∃ y : Nat, y = ((sR w10 r 2 (some q9))).1 := ⟨_, rfl⟩
  replace h := k_bb h q13 hq13
  refine m_new hq13 E hM (ci := 4) (N := 7) (C := RX4) (T := TX4) tyX4 tyX4_ok ok12 (by decide) rfl rfl inX4 wc_X7_29 wn_X4 wi_X4 (fun j hj => by rcases (show j = 0 ∨ j = 1 ∨ j = 2 ∨ j = 3 ∨ j = 4 ∨ j = 5 ∨ j = 6 by omega) with rfl | rfl | rfl | rfl | rfl | rfl | rfl <;> first | exact (nw_i _).symm | exact (nw_l _).symm | exact (nw_r _).symm) (by decide) (by decide) dX7_init_35 (fun H hM => ?_)
  refine lv_dup hx hb dX7_init_38 rfl ?_
  obtain ⟨w14, hzw14, h⟩ := k_bd h
  refine m_callI (n := 0) (As := []) (rest := [.ref (sz + q13), .ref (sz + r)]) (st1 := [.ref (sz + q13), .ref (sz + r)]) E hM hl.1 (c_X4_init l D cy sz H0 (nw (sR w10 r 2 (some q9))) q13 hzw14) wl_X7_31 wm_X4_init wi_X4 wd_X4_init rfl rfl rfl (by decide +kernel) ⟨by decide, by decide⟩ rfl rfl (by first | exact Nat.le_of_ble_eq_true rfl | simp [rv_cat, cat_i, cat_l, cat_r, cat_n]) dX7_init_39 ⟨by decide, by decide⟩ rfl (fun H locs hM => ?_)
  obtain ⟨ok15, h⟩ := k_gd h
  refine ps_X7_32 (v := (some q13)) E hM ok15 hinit dX7_init_42 (fun H locs hM => ?_)
  refine lv_aload_n hx hb dX7_init_45 rfl (lv_at hl 0 rfl) ?_
  obtain ⟨ok16, h⟩ := k_gd h
  obtain ⟨q17, hq17⟩ : ∃ y : Nat, y = ((sR w14 r 3 (some q13))).1 := ⟨_, rfl⟩
  replace h := k_bb h q17 hq17
  refine m_new hq17 E hM (ci := 3) (N := 4) (C := RX3) (T := TX3) tyX3 tyX3_ok ok16 (by decide) rfl rfl inX3 wc_X7_36 wn_X3 wi_X3 (fun j hj => by rcases (show j = 0 ∨ j = 1 ∨ j = 2 ∨ j = 3 by omega) with rfl | rfl | rfl | rfl <;> first | exact (nw_i _).symm | exact (nw_l _).symm | exact (nw_r _).symm) (by decide) (by decide) dX7_init_46 (fun H hM => ?_)
  refine lv_dup hx hb dX7_init_49 rfl ?_
  obtain ⟨w18, hzw18, h⟩ := k_bd h
  refine m_callIN (n := 0) (As := []) (rest := [.ref (sz + q17), .ref (sz + r)]) (st1 := [.ref (sz + q17), .ref (sz + r)]) E hM hl.1 (c_X3_init l D cy sz H0 (nw (sR w14 r 3 (some q13))) q17 hzw18) wq_X7_38 wm_X3_init wi_X3 wd_X3_init rfl rfl rfl (by decide +kernel) ⟨by decide, by decide⟩ rfl rfl (by first | exact Nat.le_of_ble_eq_true rfl | simp [rv_cat, cat_i, cat_l, cat_r, cat_n]) dX7_init_50 ⟨by decide, by decide⟩ rfl (fun H locs hM => ?_)
  obtain ⟨ok19, h⟩ := k_gd h
  refine ps_X7_39 (v := (some q17)) E hM ok19 hinit dX7_init_53 (fun H locs hM => ?_)
  refine lv_aload_n hx hb dX7_init_56 rfl (lv_at hl 0 rfl) ?_
  refine lv_iconst (v := 0) hx hb dX7_init_57 (by decide) ?_
  refine ps_X7_43 (v := (0 : Int32)) E hM ok19 dX7_init_58 (fun H locs hM => ?_)
  refine lv_aload_n hx hb dX7_init_61 rfl (lv_at hl 0 rfl) ?_
  refine lv_lconst (v := 0) hx hb dX7_init_62 (by decide) ?_
  refine ps_X7_47 (v := (0 : Int64)) E hM ok19 dX7_init_63 (fun H locs hM => ?_)
  refine lv_aload_n hx hb dX7_init_66 rfl (lv_at hl 0 rfl) ?_
  refine lv_lconst (v := 1) hx hb dX7_init_67 (by decide) ?_
  refine ps_X7_51 (v := (1 : Int64)) E hM ok19 dX7_init_68 (fun H locs hM => ?_)
  refine lv_iconst (v := 0) hx hb dX7_init_71 (by decide) ?_
  refine lv_istore_n (i := 1) (lv' := [(1, .int (0 : Int32)), (0, .ref (sz + r))]) hx hb dX7_init_72 rfl hl (by decide) (by first | rfl | simp [rv_cat, cat_i, cat_l, cat_r, cat_n]) (fun ls hl => ?_)
  refine lv_iload_n hx hb dX7_init_73 rfl (lv_at hl 0 rfl) ?_
  refine lv_iconst (v := 4) hx hb dX7_init_74 (by decide) ?_
  refine lv_icmp_ge (tgt := 97) hx hb dX7_init_75 (by decide) (fun c55 => absurd c55 (by decide)) (fun c55 => ?_)
  refine lv_aload_n hx hb dX7_init_78 rfl (lv_at hl 1 rfl) ?_
  refine gs_X7_11 E hM ok19 dX7_init_79 (fun x20 hxx20 => ?_)
  replace h := k_bb h x20 hxx20.symm
  refine lv_iload_n hx hb dX7_init_82 rfl (lv_at hl 0 rfl) ?_
  obtain ⟨ok21, h⟩ := k_gd h
  obtain ⟨q22, hq22⟩ : ∃ y : Nat, y = ((sL (sL (sI (sR w18 r 4 (some q17)) r 5 (0 : Int32)) r 6 (0 : Int64)) r 7 (1 : Int64))).1 := ⟨_, rfl⟩
  replace h := k_bb h q22 hq22
  refine m_new hq22 E hM (ci := 6) (N := 3) (C := RX6) (T := TX6) tyX6 tyX6_ok ok21 (by decide) rfl rfl inX6 wc_X7_9 wn_X6 wi_X6 (fun j hj => by rcases (show j = 0 ∨ j = 1 ∨ j = 2 by omega) with rfl | rfl | rfl <;> first | exact (nw_i _).symm | exact (nw_l _).symm | exact (nw_r _).symm) (by decide) (by decide) dX7_init_83 (fun H hM => ?_)
  refine lv_dup hx hb dX7_init_86 rfl ?_
  obtain ⟨w23, hzw23, h⟩ := k_bd h
  refine m_callIN (n := 0) (As := []) (rest := [.ref (sz + q22), .int (0 : Int32), rv sz x20]) (st1 := [.ref (sz + q22), .int (0 : Int32), rv sz x20]) E hM hl.1 (c_X6_init l D cy sz H0 (nw (sL (sL (sI (sR w18 r 4 (some q17)) r 5 (0 : Int32)) r 6 (0 : Int64)) r 7 (1 : Int64))) q22 hzw23) wq_X7_54 wm_X6_init wi_X6 wd_X6_init rfl rfl rfl (by decide +kernel) ⟨by decide, by decide⟩ rfl rfl (by first | exact Nat.le_of_ble_eq_true rfl | simp [rv_cat, cat_i, cat_l, cat_r, cat_n]) dX7_init_87 ⟨by decide, by decide⟩ rfl (fun H locs hM => ?_)
  rcases x20 with _ | k24
  · cases h
  rw [cs_s] at h
  obtain ⟨ok26, h⟩ := k_gd h
  obtain ⟨ok25, h⟩ := k_gd h
  refine m_aast (sh := 13) (tp := 4) (ci := 6) (by decide) rfl rfl (by decide) rfl rfl E hM ok25 ok26 dX7_init_90 (fun H locs hM => ?_)
  refine lv_iinc (v := (1 : Int32)) (lv' := [(1, .int (1 : Int32)), (0, .ref (sz + r))]) hx hb dX7_init_91 hl (k := 0) rfl (by decide) (by decide) (by first | rfl | simp [rv_cat, cat_i, cat_l, cat_r, cat_n]) (fun ls hl => ?_)
  refine lv_goto (tgt := 73) hx hb dX7_init_94 (by decide) ?_
  refine lv_iload_n hx hb dX7_init_73 rfl (lv_at hl 0 rfl) ?_
  refine lv_iconst (v := 4) hx hb dX7_init_74 (by decide) ?_
  refine lv_icmp_ge (tgt := 97) hx hb dX7_init_75 (by decide) (fun c54 => absurd c54 (by decide)) (fun c54 => ?_)
  refine lv_aload_n hx hb dX7_init_78 rfl (lv_at hl 1 rfl) ?_
  obtain ⟨ok27, h⟩ := k_gd h
  refine gs_X7_11 E hM ok27 dX7_init_79 (fun x28 hxx28 => ?_)
  replace h := k_bb h x28 hxx28.symm
  refine lv_iload_n hx hb dX7_init_82 rfl (lv_at hl 0 rfl) ?_
  obtain ⟨ok29, h⟩ := k_gd h
  obtain ⟨q30, hq30⟩ : ∃ y : Nat, y = ((sR w23 k24 (Int32.toNatClampNeg (0 : Int32)) (some q22))).1 := ⟨_, rfl⟩
  replace h := k_bb h q30 hq30
  refine m_new hq30 E hM (ci := 6) (N := 3) (C := RX6) (T := TX6) tyX6 tyX6_ok ok29 (by decide) rfl rfl inX6 wc_X7_9 wn_X6 wi_X6 (fun j hj => by rcases (show j = 0 ∨ j = 1 ∨ j = 2 by omega) with rfl | rfl | rfl <;> first | exact (nw_i _).symm | exact (nw_l _).symm | exact (nw_r _).symm) (by decide) (by decide) dX7_init_83 (fun H hM => ?_)
  refine lv_dup hx hb dX7_init_86 rfl ?_
  obtain ⟨w31, hzw31, h⟩ := k_bd h
  refine m_callIN (n := 0) (As := []) (rest := [.ref (sz + q30), .int (1 : Int32), rv sz x28]) (st1 := [.ref (sz + q30), .int (1 : Int32), rv sz x28]) E hM hl.1 (c_X6_init l D cy sz H0 (nw (sR w23 k24 (Int32.toNatClampNeg (0 : Int32)) (some q22))) q30 hzw31) wq_X7_54 wm_X6_init wi_X6 wd_X6_init rfl rfl rfl (by decide +kernel) ⟨by decide, by decide⟩ rfl rfl (by first | exact Nat.le_of_ble_eq_true rfl | simp [rv_cat, cat_i, cat_l, cat_r, cat_n]) dX7_init_87 ⟨by decide, by decide⟩ rfl (fun H locs hM => ?_)
  rcases x28 with _ | k32
  · cases h
  rw [cs_s] at h
  obtain ⟨ok34, h⟩ := k_gd h
  obtain ⟨ok33, h⟩ := k_gd h
  refine m_aast (sh := 13) (tp := 4) (ci := 6) (by decide) rfl rfl (by decide) rfl rfl E hM ok33 ok34 dX7_init_90 (fun H locs hM => ?_)
  refine lv_iinc (v := (2 : Int32)) (lv' := [(1, .int (2 : Int32)), (0, .ref (sz + r))]) hx hb dX7_init_91 hl (k := 0) rfl (by decide) (by decide) (by first | rfl | simp [rv_cat, cat_i, cat_l, cat_r, cat_n]) (fun ls hl => ?_)
  refine lv_goto (tgt := 73) hx hb dX7_init_94 (by decide) ?_
  refine lv_iload_n hx hb dX7_init_73 rfl (lv_at hl 0 rfl) ?_
  refine lv_iconst (v := 4) hx hb dX7_init_74 (by decide) ?_
  refine lv_icmp_ge (tgt := 97) hx hb dX7_init_75 (by decide) (fun c53 => absurd c53 (by decide)) (fun c53 => ?_)
  refine lv_aload_n hx hb dX7_init_78 rfl (lv_at hl 1 rfl) ?_
  obtain ⟨ok35, h⟩ := k_gd h
  refine gs_X7_11 E hM ok35 dX7_init_79 (fun x36 hxx36 => ?_)
  replace h := k_bb h x36 hxx36.symm
  refine lv_iload_n hx hb dX7_init_82 rfl (lv_at hl 0 rfl) ?_
  obtain ⟨ok37, h⟩ := k_gd h
  obtain ⟨q38, hq38⟩ : ∃ y : Nat, y = ((sR w31 k32 (Int32.toNatClampNeg (1 : Int32)) (some q30))).1 := ⟨_, rfl⟩
  replace h := k_bb h q38 hq38
  refine m_new hq38 E hM (ci := 6) (N := 3) (C := RX6) (T := TX6) tyX6 tyX6_ok ok37 (by decide) rfl rfl inX6 wc_X7_9 wn_X6 wi_X6 (fun j hj => by rcases (show j = 0 ∨ j = 1 ∨ j = 2 by omega) with rfl | rfl | rfl <;> first | exact (nw_i _).symm | exact (nw_l _).symm | exact (nw_r _).symm) (by decide) (by decide) dX7_init_83 (fun H hM => ?_)
  refine lv_dup hx hb dX7_init_86 rfl ?_
  obtain ⟨w39, hzw39, h⟩ := k_bd h
  refine m_callIN (n := 0) (As := []) (rest := [.ref (sz + q38), .int (2 : Int32), rv sz x36]) (st1 := [.ref (sz + q38), .int (2 : Int32), rv sz x36]) E hM hl.1 (c_X6_init l D cy sz H0 (nw (sR w31 k32 (Int32.toNatClampNeg (1 : Int32)) (some q30))) q38 hzw39) wq_X7_54 wm_X6_init wi_X6 wd_X6_init rfl rfl rfl (by decide +kernel) ⟨by decide, by decide⟩ rfl rfl (by first | exact Nat.le_of_ble_eq_true rfl | simp [rv_cat, cat_i, cat_l, cat_r, cat_n]) dX7_init_87 ⟨by decide, by decide⟩ rfl (fun H locs hM => ?_)
  rcases x36 with _ | k40
  · cases h
  rw [cs_s] at h
  obtain ⟨ok42, h⟩ := k_gd h
  obtain ⟨ok41, h⟩ := k_gd h
  refine m_aast (sh := 13) (tp := 4) (ci := 6) (by decide) rfl rfl (by decide) rfl rfl E hM ok41 ok42 dX7_init_90 (fun H locs hM => ?_)
  refine lv_iinc (v := (3 : Int32)) (lv' := [(1, .int (3 : Int32)), (0, .ref (sz + r))]) hx hb dX7_init_91 hl (k := 0) rfl (by decide) (by decide) (by first | rfl | simp [rv_cat, cat_i, cat_l, cat_r, cat_n]) (fun ls hl => ?_)
  refine lv_goto (tgt := 73) hx hb dX7_init_94 (by decide) ?_
  refine lv_iload_n hx hb dX7_init_73 rfl (lv_at hl 0 rfl) ?_
  refine lv_iconst (v := 4) hx hb dX7_init_74 (by decide) ?_
  refine lv_icmp_ge (tgt := 97) hx hb dX7_init_75 (by decide) (fun c52 => absurd c52 (by decide)) (fun c52 => ?_)
  refine lv_aload_n hx hb dX7_init_78 rfl (lv_at hl 1 rfl) ?_
  obtain ⟨ok43, h⟩ := k_gd h
  refine gs_X7_11 E hM ok43 dX7_init_79 (fun x44 hxx44 => ?_)
  replace h := k_bb h x44 hxx44.symm
  refine lv_iload_n hx hb dX7_init_82 rfl (lv_at hl 0 rfl) ?_
  obtain ⟨ok45, h⟩ := k_gd h
  obtain ⟨q46, hq46⟩ : ∃ y : Nat, y = ((sR w39 k40 (Int32.toNatClampNeg (2 : Int32)) (some q38))).1 := ⟨_, rfl⟩
  replace h := k_bb h q46 hq46
  refine m_new hq46 E hM (ci := 6) (N := 3) (C := RX6) (T := TX6) tyX6 tyX6_ok ok45 (by decide) rfl rfl inX6 wc_X7_9 wn_X6 wi_X6 (fun j hj => by rcases (show j = 0 ∨ j = 1 ∨ j = 2 by omega) with rfl | rfl | rfl <;> first | exact (nw_i _).symm | exact (nw_l _).symm | exact (nw_r _).symm) (by decide) (by decide) dX7_init_83 (fun H hM => ?_)
  refine lv_dup hx hb dX7_init_86 rfl ?_
  obtain ⟨w47, hzw47, h⟩ := k_bd h
  refine m_callIN (n := 0) (As := []) (rest := [.ref (sz + q46), .int (3 : Int32), rv sz x44]) (st1 := [.ref (sz + q46), .int (3 : Int32), rv sz x44]) E hM hl.1 (c_X6_init l D cy sz H0 (nw (sR w39 k40 (Int32.toNatClampNeg (2 : Int32)) (some q38))) q46 hzw47) wq_X7_54 wm_X6_init wi_X6 wd_X6_init rfl rfl rfl (by decide +kernel) ⟨by decide, by decide⟩ rfl rfl (by first | exact Nat.le_of_ble_eq_true rfl | simp [rv_cat, cat_i, cat_l, cat_r, cat_n]) dX7_init_87 ⟨by decide, by decide⟩ rfl (fun H locs hM => ?_)
  rcases x44 with _ | k48
  · cases h
  rw [cs_s] at h
  obtain ⟨ok50, h⟩ := k_gd h
  obtain ⟨ok49, h⟩ := k_gd h
  refine m_aast (sh := 13) (tp := 4) (ci := 6) (by decide) rfl rfl (by decide) rfl rfl E hM ok49 ok50 dX7_init_90 (fun H locs hM => ?_)
  refine lv_iinc (v := (4 : Int32)) (lv' := [(1, .int (4 : Int32)), (0, .ref (sz + r))]) hx hb dX7_init_91 hl (k := 0) rfl (by decide) (by decide) (by first | rfl | simp [rv_cat, cat_i, cat_l, cat_r, cat_n]) (fun ls hl => ?_)
  refine lv_goto (tgt := 73) hx hb dX7_init_94 (by decide) ?_
  refine lv_iload_n hx hb dX7_init_73 rfl (lv_at hl 0 rfl) ?_
  refine lv_iconst (v := 4) hx hb dX7_init_74 (by decide) ?_
  refine lv_icmp_ge (tgt := 97) hx hb dX7_init_75 (by decide) (fun c51 => ?_) (fun c51 => absurd c51 (by decide))
  cases h
  exact m_vret hx hb hr hlk hM rfl dX7_init_97

abbrev rm_X7_status : Room := { frames := 0, cells := 0, slots := 0, locals := 0 }
def f_X7_status (r : Nat) (u : Mm) : Option (Int32) := gd (okO u r 7) (some (gI u r 5))
set_option maxHeartbeats 4000000 in
set_option maxRecDepth 100000 in
theorem c_X7_status (l : Launch) (D : va_G) (cy : Nat → ClassId) (sz : Nat) (H0 : Heap) (u : Mm) (r : Nat) {res : Int32} (h : f_X7_status r u = some res) : Ctr l yX7_status cX7_status 1 (some .int) rm_X7_status 0 0 D cy sz H0 u [.ref (sz + r)] (some (.int res)) u := by
  refine m_start (lv := [(0, .ref (sz + r))]) (by decide) (by first | exact Nat.le_of_ble_eq_true rfl | simp [lg_sl, rv_cat, cat_i, cat_l, cat_r, cat_n]) (by first | rfl | simp [lv_args, rv_cat, cat_i, cat_l, cat_r, cat_n]) ?_
  intro p e s m below meth c ls E hr hlk hinit hM hl
  obtain ⟨hx, hb, hml, hown, hts, hKK⟩ := id E
  obtain ⟨H, hH⟩ : ∃ H, H = s.heap := ⟨_, rfl⟩
  obtain ⟨locs, hlocs⟩ : ∃ L : List Loc, L = [] := ⟨_, rfl⟩
  rw [← hH, ← hlocs] at hM ⊢
  unfold f_X7_status at h
  refine lv_aload_n hx hb dX7_status_0 rfl (lv_at hl 0 rfl) ?_
  obtain ⟨ok1, h⟩ := k_gd h
  refine gs_X7_43 E hM ok1 dX7_status_1 ?_
  cases h
  exact m_iret hx hb hr hlk hM rfl rfl dX7_status_4

abbrev rm_X7_trayAt : Room := { frames := 1, cells := 0, slots := 0, locals := 36 }
def f_X7_trayAt (r : Nat) (p1 : Int32) (u : Mm) : Option (Option Nat) := bd (f_X7_within p1 (0 : Int32) (3 : Int32) u) (fun w1 => (if w1 = 0 then some (none : Option Nat) else gd (okO u r 7) (bb (gR u r 0) (fun x4 => cs x4 none (fun k5 => gd (okA u k5 13 p1) (bb (gR u k5 (Int32.toNatClampNeg p1)) (fun x7 => some x7)))))))
set_option maxHeartbeats 4000000 in
set_option maxRecDepth 100000 in
theorem c_X7_trayAt (l : Launch) (D : va_G) (cy : Nat → ClassId) (sz : Nat) (H0 : Heap) (u : Mm) (r : Nat) (p1 : Int32) {res : Option Nat} (h : f_X7_trayAt r p1 u = some res) : Ctr l yX7_trayAt cX7_trayAt 2 (some (.object "BoxArchive$Tray")) rm_X7_trayAt 0 0 D cy sz H0 u [.ref (sz + r), .int p1] (some (rv sz res)) u := by
  refine m_start (lv := [(0, .ref (sz + r)), (1, .int p1)]) (by decide) (by first | exact Nat.le_of_ble_eq_true rfl | simp [lg_sl, rv_cat, cat_i, cat_l, cat_r, cat_n]) (by first | rfl | simp [lv_args, rv_cat, cat_i, cat_l, cat_r, cat_n]) ?_
  intro p e s m below meth c ls E hr hlk hinit hM hl
  obtain ⟨hx, hb, hml, hown, hts, hKK⟩ := id E
  obtain ⟨H, hH⟩ : ∃ H, H = s.heap := ⟨_, rfl⟩
  obtain ⟨locs, hlocs⟩ : ∃ L : List Loc, L = [] := ⟨_, rfl⟩
  rw [← hH, ← hlocs] at hM ⊢
  unfold f_X7_trayAt at h
  refine lv_iload_n hx hb dX7_trayAt_0 rfl (lv_at hl 1 rfl) ?_
  refine lv_iconst (v := 0) hx hb dX7_trayAt_1 (by decide) ?_
  refine lv_iconst (v := 3) hx hb dX7_trayAt_2 (by decide) ?_
  obtain ⟨w1, hzw1, h⟩ := k_bd h
  refine m_callS (n := 3) (As := [.int p1, .int (0 : Int32), .int (3 : Int32)]) (rest := []) (st1 := (.int w1 :: [])) E hM hl.1 (c_X7_within l D cy sz H0 u p1 (0 : Int32) (3 : Int32) hzw1) wl_X7_59 wst_X7_within wi_X7 wd_X7_within rfl rfl (by decide +kernel) ⟨by decide, by decide⟩ rfl rfl (by first | exact Nat.le_of_ble_eq_true rfl | simp [rv_cat, cat_i, cat_l, cat_r, cat_n]) dX7_trayAt_3 ⟨by decide, by decide⟩ rfl (fun H locs hM => ?_)
  refine lv_if_eq (tgt := 18) hx hb dX7_trayAt_6 (by decide) (fun c2 => ?_) (fun c2 => ?_)
  · replace h := (k_if h).1 c2
    refine lv_null hx hb dX7_trayAt_18 ?_
    cases h
    exact m_aret (x := (none : Option Nat)) (sz := sz) hx hb hr hlk hM rfl rfl dX7_trayAt_19
  · replace h := (k_if h).2 c2
    refine lv_aload_n hx hb dX7_trayAt_9 rfl (lv_at hl 0 rfl) ?_
    obtain ⟨ok3, h⟩ := k_gd h
    refine gs_X7_11 E hM ok3 dX7_trayAt_10 (fun x4 hxx4 => ?_)
    replace h := k_bb h x4 hxx4.symm
    refine lv_iload_n hx hb dX7_trayAt_13 rfl (lv_at hl 1 rfl) ?_
    rcases x4 with _ | k5
    · cases h
    rw [cs_s] at h
    obtain ⟨ok6, h⟩ := k_gd h
    refine m_aald (sh := 13) (tp := 4) (by decide) rfl rfl E hM ok6 dX7_trayAt_14 (fun x7 hxx7 => ?_)
    replace h := k_bb h x7 hxx7.symm
    refine lv_goto (tgt := 19) hx hb dX7_trayAt_15 (by decide) ?_
    cases h
    exact m_aret (sz := sz) hx hb hr hlk hM rfl rfl dX7_trayAt_19

abbrev rm_X7_deny : Room := { frames := 0, cells := 0, slots := 0, locals := 0 }
def f_X7_deny (r : Nat) (p1 : Int32) (u : Mm) : Option ((Int32) × Mm) := gd (okO u r 7) (some ((0 : Int32), (sI u r 5 p1)))
set_option maxHeartbeats 4000000 in
set_option maxRecDepth 100000 in
theorem c_X7_deny (l : Launch) (D : va_G) (cy : Nat → ClassId) (sz : Nat) (H0 : Heap) (u : Mm) (r : Nat) (p1 : Int32) {res : (Int32) × Mm} (h : f_X7_deny r p1 u = some res) : Ctr l yX7_deny cX7_deny 2 (some .boolean) rm_X7_deny 0 0 D cy sz H0 u [.ref (sz + r), .int p1] (some (.int res.1)) res.2 := by
  refine m_start (lv := [(0, .ref (sz + r)), (1, .int p1)]) (by decide) (by first | exact Nat.le_of_ble_eq_true rfl | simp [lg_sl, rv_cat, cat_i, cat_l, cat_r, cat_n]) (by first | rfl | simp [lv_args, rv_cat, cat_i, cat_l, cat_r, cat_n]) ?_
  intro p e s m below meth c ls E hr hlk hinit hM hl
  obtain ⟨hx, hb, hml, hown, hts, hKK⟩ := id E
  obtain ⟨H, hH⟩ : ∃ H, H = s.heap := ⟨_, rfl⟩
  obtain ⟨locs, hlocs⟩ : ∃ L : List Loc, L = [] := ⟨_, rfl⟩
  rw [← hH, ← hlocs] at hM ⊢
  unfold f_X7_deny at h
  refine lv_aload_n hx hb dX7_deny_0 rfl (lv_at hl 0 rfl) ?_
  refine lv_iload_n hx hb dX7_deny_1 rfl (lv_at hl 1 rfl) ?_
  obtain ⟨ok1, h⟩ := k_gd h
  refine ps_X7_43 (v := p1) E hM ok1 dX7_deny_2 (fun H locs hM => ?_)
  refine lv_iconst (v := 0) hx hb dX7_deny_5 (by decide) ?_
  cases h
  exact m_zret hx hb hr hlk hM (by decide) rfl rfl dX7_deny_6

abbrev rm_X7_grant : Room := { frames := 0, cells := 0, slots := 0, locals := 0 }
def f_X7_grant (r : Nat) (u : Mm) : Option ((Int32) × Mm) := gd (okO u r 7) (some ((1 : Int32), (sI u r 5 (0 : Int32))))
set_option maxHeartbeats 4000000 in
set_option maxRecDepth 100000 in
theorem c_X7_grant (l : Launch) (D : va_G) (cy : Nat → ClassId) (sz : Nat) (H0 : Heap) (u : Mm) (r : Nat) {res : (Int32) × Mm} (h : f_X7_grant r u = some res) : Ctr l yX7_grant cX7_grant 1 (some .boolean) rm_X7_grant 0 0 D cy sz H0 u [.ref (sz + r)] (some (.int res.1)) res.2 := by
  refine m_start (lv := [(0, .ref (sz + r))]) (by decide) (by first | exact Nat.le_of_ble_eq_true rfl | simp [lg_sl, rv_cat, cat_i, cat_l, cat_r, cat_n]) (by first | rfl | simp [lv_args, rv_cat, cat_i, cat_l, cat_r, cat_n]) ?_
  intro p e s m below meth c ls E hr hlk hinit hM hl
  obtain ⟨hx, hb, hml, hown, hts, hKK⟩ := id E
  obtain ⟨H, hH⟩ : ∃ H, H = s.heap := ⟨_, rfl⟩
  obtain ⟨locs, hlocs⟩ : ∃ L : List Loc, L = [] := ⟨_, rfl⟩
  rw [← hH, ← hlocs] at hM ⊢
  unfold f_X7_grant at h
  refine lv_aload_n hx hb dX7_grant_0 rfl (lv_at hl 0 rfl) ?_
  refine lv_iconst (v := 0) hx hb dX7_grant_1 (by decide) ?_
  obtain ⟨ok1, h⟩ := k_gd h
  refine ps_X7_43 (v := (0 : Int32)) E hM ok1 dX7_grant_2 (fun H locs hM => ?_)
  refine lv_iconst (v := 1) hx hb dX7_grant_5 (by decide) ?_
  cases h
  exact m_zret hx hb hr hlk hM (by decide) rfl rfl dX7_grant_6

abbrev rm_X7_tray : Room := { frames := 2, cells := 0, slots := 0, locals := 72 }
def f_X7_tray (r : Nat) (p1 : Int32) (p2 : Int32) (p3 : Int32) (u : Mm) : Option ((Int32) × Mm) := gd (okO u r 7) (bd (f_X7_trayAt r p1 u) (fun w2 => cs w2 (bd (f_X7_deny r (1 : Int32) u) (fun w4 => gd (isB w4.1) (some (w4.1, w4.2)))) (fun k3 => bd (f_X7_within p2 (0 : Int32) (3 : Int32) u) (fun w6 => (if w6 = 0 then bd (f_X7_deny r (1 : Int32) u) (fun w19 => gd (isB w19.1) (some (w19.1, w19.2))) else (if p3 ≤ (40 : Int32) then (if 0 ≤ p3 then gd (okO u k3 6) (bd (f_X6_renew k3 p2 p3 u) (fun w11 => gd (okO w11 r 7) (bd (f_X7_grant r w11) (fun w13 => gd (isB w13.1) (some (w13.1, w13.2)))))) else bd (f_X7_deny r (6 : Int32) u) (fun w15 => gd (isB w15.1) (some (w15.1, w15.2)))) else bd (f_X7_deny r (5 : Int32) u) (fun w17 => gd (isB w17.1) (some (w17.1, w17.2)))))))))
set_option maxHeartbeats 4000000 in
set_option maxRecDepth 100000 in
theorem c_X7_tray (l : Launch) (D : va_G) (cy : Nat → ClassId) (sz : Nat) (H0 : Heap) (u : Mm) (r : Nat) (p1 : Int32) (p2 : Int32) (p3 : Int32) {res : (Int32) × Mm} (h : f_X7_tray r p1 p2 p3 u = some res) : Ctr l yX7_tray cX7_tray 5 (some .boolean) rm_X7_tray 0 0 D cy sz H0 u [.ref (sz + r), .int p1, .int p2, .int p3] (some (.int res.1)) res.2 := by
  refine m_start (lv := [(0, .ref (sz + r)), (1, .int p1), (2, .int p2), (3, .int p3)]) (by decide) (by first | exact Nat.le_of_ble_eq_true rfl | simp [lg_sl, rv_cat, cat_i, cat_l, cat_r, cat_n]) (by first | rfl | simp [lv_args, rv_cat, cat_i, cat_l, cat_r, cat_n]) ?_
  intro p e s m below meth c ls E hr hlk hinit hM hl
  obtain ⟨hx, hb, hml, hown, hts, hKK⟩ := id E
  obtain ⟨H, hH⟩ : ∃ H, H = s.heap := ⟨_, rfl⟩
  obtain ⟨locs, hlocs⟩ : ∃ L : List Loc, L = [] := ⟨_, rfl⟩
  rw [← hH, ← hlocs] at hM ⊢
  unfold f_X7_tray at h
  refine lv_aload_n hx hb dX7_tray_0 rfl (lv_at hl 0 rfl) ?_
  refine lv_iload_n hx hb dX7_tray_1 rfl (lv_at hl 1 rfl) ?_
  obtain ⟨ok1, h⟩ := k_gd h
  obtain ⟨w2, hzw2, h⟩ := k_bd h
  refine m_callV (C := RX7) (T := TX7) (N := 8) (ci := 7) (n := 1) (As := [.int p1]) (rest := []) (st1 := (rv sz w2 :: [])) E hM hl.1 ok1 (by decide) rfl rfl (c_X7_trayAt l D cy sz H0 u r p1 hzw2) wl_X7_55 wm_X7_trayAt ws_X7_trayAt wi_X7 wd_X7_trayAt rfl rfl (by decide +kernel) ⟨by decide, by decide⟩ rfl rfl (by first | exact Nat.le_of_ble_eq_true rfl | simp [rv_cat, cat_i, cat_l, cat_r, cat_n]) dX7_tray_2 ⟨by decide, by decide⟩ rfl (fun H locs hM => ?_)
  refine m_astore (i := 4) (lv' := [(4, rv sz w2), (0, .ref (sz + r)), (1, .int p1), (2, .int p2), (3, .int p3)]) hx hb dX7_tray_5 hl (by decide) (by first | rfl | simp [rv_cat, cat_i, cat_l, cat_r, cat_n]) (fun ls hl => ?_)
  refine m_aload hx hb dX7_tray_7 (lv_at hl 0 rfl) ?_
  rcases w2 with _ | k3
  · rw [cs_n] at h
    refine lv_ifnullN (tgt := 21) hx hb dX7_tray_9 (by decide) ?_
    refine lv_aload_n hx hb dX7_tray_21 rfl (lv_at hl 1 rfl) ?_
    refine lv_iconst (v := 1) hx hb dX7_tray_22 (by decide) ?_
    obtain ⟨w4, hzw4, h⟩ := k_bd h
    refine m_callV (C := RX7) (T := TX7) (N := 8) (ci := 7) (n := 1) (As := [.int (1 : Int32)]) (rest := []) (st1 := (.int w4.1 :: [])) E hM hl.1 ok1 (by decide) rfl rfl (c_X7_deny l D cy sz H0 u r (1 : Int32) hzw4) wl_X7_63 wm_X7_deny ws_X7_deny wi_X7 wd_X7_deny rfl rfl (by decide +kernel) ⟨by decide, by decide⟩ rfl rfl (by first | exact Nat.le_of_ble_eq_true rfl | simp [rv_cat, cat_i, cat_l, cat_r, cat_n]) dX7_tray_23 ⟨by decide, by decide⟩ rfl (fun H locs hM => ?_)
    obtain ⟨hB5, h⟩ := k_gd h
    cases h
    exact m_zret hx hb hr hlk hM hB5 rfl rfl dX7_tray_26
  · rw [cs_s] at h
    refine lv_ifnull hx hb dX7_tray_9 ?_
    refine lv_iload_n hx hb dX7_tray_12 rfl (lv_at hl 3 rfl) ?_
    refine lv_iconst (v := 0) hx hb dX7_tray_13 (by decide) ?_
    refine lv_iconst (v := 3) hx hb dX7_tray_14 (by decide) ?_
    obtain ⟨w6, hzw6, h⟩ := k_bd h
    refine m_callS (n := 3) (As := [.int p2, .int (0 : Int32), .int (3 : Int32)]) (rest := []) (st1 := (.int w6 :: [])) E hM hl.1 (c_X7_within l D cy sz H0 u p2 (0 : Int32) (3 : Int32) hzw6) wl_X7_59 wst_X7_within wi_X7 wd_X7_within rfl rfl (by decide +kernel) ⟨by decide, by decide⟩ rfl rfl (by first | exact Nat.le_of_ble_eq_true rfl | simp [rv_cat, cat_i, cat_l, cat_r, cat_n]) dX7_tray_15 ⟨by decide, by decide⟩ rfl (fun H locs hM => ?_)
    refine lv_if_ne (tgt := 27) hx hb dX7_tray_18 (by decide) (fun c7 => ?_) (fun c7 => ?_)
    · replace h := (k_if h).2 c7
      refine lv_iload_n hx hb dX7_tray_27 rfl (lv_at hl 4 rfl) ?_
      refine lv_bipush (v := 40) hx hb dX7_tray_28 (by decide) ?_
      refine lv_icmp_le (tgt := 39) hx hb dX7_tray_30 (by decide) (fun c8 => ?_) (fun c8 => ?_)
      · replace h := (k_if h).1 c8
        refine lv_iload_n hx hb dX7_tray_39 rfl (lv_at hl 4 rfl) ?_
        refine lv_if_ge (tgt := 50) hx hb dX7_tray_40 (by decide) (fun c9 => ?_) (fun c9 => ?_)
        · replace h := (k_if h).1 c9
          refine lv_aload hx hb dX7_tray_50 (lv_at hl 0 rfl) ?_
          refine lv_iload_n hx hb dX7_tray_52 rfl (lv_at hl 3 rfl) ?_
          refine lv_iload_n hx hb dX7_tray_53 rfl (lv_at hl 4 rfl) ?_
          obtain ⟨ok10, h⟩ := k_gd h
          obtain ⟨w11, hzw11, h⟩ := k_bd h
          refine m_callV (C := RX6) (T := TX6) (N := 3) (ci := 6) (n := 2) (As := [.int p2, .int p3]) (rest := []) (st1 := []) E hM hl.1 ok10 (by decide) rfl rfl (c_X6_renew l D cy sz H0 u k3 p2 p3 hzw11) wl_X7_67 wm_X6_renew ws_X6_renew wi_X6 wd_X6_renew rfl rfl (by decide +kernel) ⟨by decide, by decide⟩ rfl rfl (by first | exact Nat.le_of_ble_eq_true rfl | simp [rv_cat, cat_i, cat_l, cat_r, cat_n]) dX7_tray_54 ⟨by decide, by decide⟩ rfl (fun H locs hM => ?_)
          refine lv_aload_n hx hb dX7_tray_57 rfl (lv_at hl 1 rfl) ?_
          obtain ⟨ok12, h⟩ := k_gd h
          obtain ⟨w13, hzw13, h⟩ := k_bd h
          refine m_callV (C := RX7) (T := TX7) (N := 8) (ci := 7) (n := 0) (As := []) (rest := []) (st1 := (.int w13.1 :: [])) E hM hl.1 ok12 (by decide) rfl rfl (c_X7_grant l D cy sz H0 w11 r hzw13) wl_X7_71 wm_X7_grant ws_X7_grant wi_X7 wd_X7_grant rfl rfl (by decide +kernel) ⟨by decide, by decide⟩ rfl rfl (by first | exact Nat.le_of_ble_eq_true rfl | simp [rv_cat, cat_i, cat_l, cat_r, cat_n]) dX7_tray_58 ⟨by decide, by decide⟩ rfl (fun H locs hM => ?_)
          obtain ⟨hB14, h⟩ := k_gd h
          cases h
          exact m_zret hx hb hr hlk hM hB14 rfl rfl dX7_tray_61
        · replace h := (k_if h).2 c9
          refine lv_aload_n hx hb dX7_tray_43 rfl (lv_at hl 1 rfl) ?_
          refine lv_bipush (v := 6) hx hb dX7_tray_44 (by decide) ?_
          obtain ⟨w15, hzw15, h⟩ := k_bd h
          refine m_callV (C := RX7) (T := TX7) (N := 8) (ci := 7) (n := 1) (As := [.int (6 : Int32)]) (rest := []) (st1 := (.int w15.1 :: [])) E hM hl.1 ok1 (by decide) rfl rfl (c_X7_deny l D cy sz H0 u r (6 : Int32) hzw15) wl_X7_63 wm_X7_deny ws_X7_deny wi_X7 wd_X7_deny rfl rfl (by decide +kernel) ⟨by decide, by decide⟩ rfl rfl (by first | exact Nat.le_of_ble_eq_true rfl | simp [rv_cat, cat_i, cat_l, cat_r, cat_n]) dX7_tray_46 ⟨by decide, by decide⟩ rfl (fun H locs hM => ?_)
          obtain ⟨hB16, h⟩ := k_gd h
          cases h
          exact m_zret hx hb hr hlk hM hB16 rfl rfl dX7_tray_49
      · replace h := (k_if h).2 c8
        refine lv_aload_n hx hb dX7_tray_33 rfl (lv_at hl 1 rfl) ?_
        refine lv_iconst (v := 5) hx hb dX7_tray_34 (by decide) ?_
        obtain ⟨w17, hzw17, h⟩ := k_bd h
        refine m_callV (C := RX7) (T := TX7) (N := 8) (ci := 7) (n := 1) (As := [.int (5 : Int32)]) (rest := []) (st1 := (.int w17.1 :: [])) E hM hl.1 ok1 (by decide) rfl rfl (c_X7_deny l D cy sz H0 u r (5 : Int32) hzw17) wl_X7_63 wm_X7_deny ws_X7_deny wi_X7 wd_X7_deny rfl rfl (by decide +kernel) ⟨by decide, by decide⟩ rfl rfl (by first | exact Nat.le_of_ble_eq_true rfl | simp [rv_cat, cat_i, cat_l, cat_r, cat_n]) dX7_tray_35 ⟨by decide, by decide⟩ rfl (fun H locs hM => ?_)
        obtain ⟨hB18, h⟩ := k_gd h
        cases h
        exact m_zret hx hb hr hlk hM hB18 rfl rfl dX7_tray_38
    · replace h := (k_if h).1 c7
      refine lv_aload_n hx hb dX7_tray_21 rfl (lv_at hl 1 rfl) ?_
      refine lv_iconst (v := 1) hx hb dX7_tray_22 (by decide) ?_
      obtain ⟨w19, hzw19, h⟩ := k_bd h
      refine m_callV (C := RX7) (T := TX7) (N := 8) (ci := 7) (n := 1) (As := [.int (1 : Int32)]) (rest := []) (st1 := (.int w19.1 :: [])) E hM hl.1 ok1 (by decide) rfl rfl (c_X7_deny l D cy sz H0 u r (1 : Int32) hzw19) wl_X7_63 wm_X7_deny ws_X7_deny wi_X7 wd_X7_deny rfl rfl (by decide +kernel) ⟨by decide, by decide⟩ rfl rfl (by first | exact Nat.le_of_ble_eq_true rfl | simp [rv_cat, cat_i, cat_l, cat_r, cat_n]) dX7_tray_23 ⟨by decide, by decide⟩ rfl (fun H locs hM => ?_)
      obtain ⟨hB20, h⟩ := k_gd h
      cases h
      exact m_zret hx hb hr hlk hM hB20 rfl rfl dX7_tray_26

