abbrev rm_X0_partsSeen : Room := { frames := 3, cells := 0, slots := 0, locals := 108 }
def L_X0_partsSeen_6 (b0 : Nat) (b1 : Option Nat) (b2 : Int32) (b3 : Int32) (b4 : Int32) (u : Mm) (k : Int32 → Int32 → Option (Int32)) : Nat → Int32 → Int32 → Option (Int32)
  | 0, _, _ => none
  | n + 1, a5, a6 => gd (okO u b0 0) ((if (gI u b0 1) ≤ a6 then k a5 a6 else bb (gR u b0 0) (fun x3 => cs x3 none (fun k4 => gd (okA u k4 12 a6) (bb (gR u k4 (Int32.toNatClampNeg a6)) (fun x6 => bd (f_X0_isPartSeen x6 b1 b2 b3 b4 u) (fun w7 => (if w7 = 0 then bb (a6 + (1)) (fun v9 => L_X0_partsSeen_6 b0 b1 b2 b3 b4 u k n a5 v9) else bb (a5 + (1)) (fun v10 => bb (a6 + (1)) (fun v11 => L_X0_partsSeen_6 b0 b1 b2 b3 b4 u k n v10 v11))))))))))
set_option maxHeartbeats 4000000 in
set_option maxRecDepth 100000 in
theorem lp_X0_partsSeen_6 {p : Program} {l : Launch} {e : Env} {s : State} {m : MethodId} {args : Array Value} {below : List Frame} {meth : Method} {c : Code} {D : va_G} {cy : Nat → ClassId} {sz : Nat} {H0 : Heap} {b0 : Nat} {b1 : Option Nat} {b2 : Int32} {b3 : Int32} {b4 : Int32} {u : Mm} {k : Int32 → Int32 → Option (Int32)} {res : Int32} (hr : meth.sig.returnType = (some .int)) (hlk : meth.locks = false) (E : EE p s m args c cX0_partsSeen 7 RX0 D cy) : ∀ (n : Nat) (a5 : Int32) (a6 : Int32) (H : Heap) (locs : List Loc) (ls : Array Slot), MM D cy sz H0 u H locs → lv_has ls 7 [(0, .ref (sz + b0)), (1, rv sz b1), (2, .int b2), (3, .int b3), (4, .int b4), (5, .int a5), (6, .int a6)] → L_X0_partsSeen_6 b0 b1 b2 b3 b4 u k n a5 a6 = some res → (∀ (a5 : Int32) (a6 : Int32) (H : Heap) (locs : List Loc) (ls : Array Slot), MM D cy sz H0 u H locs → lv_has ls 7 [(0, .ref (sz + b0)), (1, rv sz b1), (2, .int b2), (3, .int b3), (4, .int b4), (5, .int a5), (6, .int a6)] → k a5 a6 = some res → W p l e rm_X0_partsSeen s m args below meth c H locs 0 0 (MQ below (Post D cy sz H0 (some (.int res)) u) args s 0 0 (fun q => sz ≤ q)) (F0 m 42 ls [])) → W p l e rm_X0_partsSeen s m args below meth c H locs 0 0 (MQ below (Post D cy sz H0 (some (.int res)) u) args s 0 0 (fun q => sz ≤ q)) (F0 m 6 ls []) := by
  obtain ⟨hx, hb, hml, hown, hts, hKK⟩ := id E
  intro n
  induction n with
  | zero => intros; rename_i h _; cases h
  | succ n ih =>
    intro a5 a6 H locs ls hM hl h hk
    rw [L_X0_partsSeen_6] at h
    refine lv_iload hx hb dX0_partsSeen_6 (lv_at hl 6 rfl) ?_
    refine lv_aload_n hx hb dX0_partsSeen_8 rfl (lv_at hl 0 rfl) ?_
    obtain ⟨ok1, h⟩ := k_gd h
    refine gs_X0_17 E hM ok1 dX0_partsSeen_9 ?_
    refine lv_icmp_ge (tgt := 42) hx hb dX0_partsSeen_12 (by decide) (fun c2 => ?_) (fun c2 => ?_)
    · replace h := (k_if h).1 c2
      exact hk a5 a6 H locs ls hM (lv_sub hl [0, 1, 2, 3, 4, 5, 6] rfl) h
    · replace h := (k_if h).2 c2
      refine lv_aload_n hx hb dX0_partsSeen_15 rfl (lv_at hl 0 rfl) ?_
      refine gs_X0_11 E hM ok1 dX0_partsSeen_16 (fun x3 hxx3 => ?_)
      replace h := k_bb h x3 hxx3.symm
      refine lv_iload hx hb dX0_partsSeen_19 (lv_at hl 6 rfl) ?_
      rcases x3 with _ | k4
      · cases h
      rw [cs_s] at h
      obtain ⟨ok5, h⟩ := k_gd h
      refine m_aald (sh := 12) (tp := 3) (by decide) rfl rfl E hM ok5 dX0_partsSeen_21 (fun x6 hxx6 => ?_)
      replace h := k_bb h x6 hxx6.symm
      refine m_aload_n hx hb dX0_partsSeen_22 rfl (lv_at hl 1 rfl) ?_
      refine lv_iload_n hx hb dX0_partsSeen_23 rfl (lv_at hl 2 rfl) ?_
      refine lv_iload_n hx hb dX0_partsSeen_24 rfl (lv_at hl 3 rfl) ?_
      refine lv_iload hx hb dX0_partsSeen_25 (lv_at hl 4 rfl) ?_
      obtain ⟨w7, hzw7, h⟩ := k_bd h
      refine m_callS (n := 5) (As := [rv sz x6, rv sz b1, .int b2, .int b3, .int b4]) (rest := []) (st1 := (.int w7 :: [])) E hM hl.1 (c_X0_isPartSeen l D cy sz H0 u x6 b1 b2 b3 b4 hzw7) wl_X0_67 wst_X0_isPartSeen wi_X0 wd_X0_isPartSeen rfl rfl (by decide +kernel) ⟨by decide, by decide⟩ rfl rfl (by first | exact Nat.le_of_ble_eq_true rfl | simp [rv_cat, cat_i, cat_l, cat_r, cat_n]) dX0_partsSeen_27 ⟨by decide, by decide⟩ rfl (fun H locs hM => ?_)
      refine lv_if_eq (tgt := 36) hx hb dX0_partsSeen_30 (by decide) (fun c8 => ?_) (fun c8 => ?_)
      · replace h := (k_if h).1 c8
        obtain ⟨v9, hvv9⟩ : ∃ y : Int32, y = a6 + (1) := ⟨_, rfl⟩
        replace h := k_bb h v9 hvv9
        refine lv_iinc (v := v9) (lv' := [(6, .int v9), (0, .ref (sz + b0)), (1, rv sz b1), (2, .int b2), (3, .int b3), (4, .int b4), (5, .int a5)]) hx hb dX0_partsSeen_36 hl (k := 6) rfl (by rw [hvv9]; rfl) (by decide) (by first | rfl | simp [rv_cat, cat_i, cat_l, cat_r, cat_n]) (fun ls hl => ?_)
        refine lv_goto (tgt := 6) hx hb dX0_partsSeen_39 (by decide) ?_
        exact ih a5 v9 H locs ls hM (lv_sub hl [1, 2, 3, 4, 5, 6, 0] rfl) h hk
      · replace h := (k_if h).2 c8
        obtain ⟨v10, hvv10⟩ : ∃ y : Int32, y = a5 + (1) := ⟨_, rfl⟩
        replace h := k_bb h v10 hvv10
        refine lv_iinc (v := v10) (lv' := [(5, .int v10), (0, .ref (sz + b0)), (1, rv sz b1), (2, .int b2), (3, .int b3), (4, .int b4), (6, .int a6)]) hx hb dX0_partsSeen_33 hl (k := 5) rfl (by rw [hvv10]; rfl) (by decide) (by first | rfl | simp [rv_cat, cat_i, cat_l, cat_r, cat_n]) (fun ls hl => ?_)
        obtain ⟨v11, hvv11⟩ : ∃ y : Int32, y = a6 + (1) := ⟨_, rfl⟩
        replace h := k_bb h v11 hvv11
        refine lv_iinc (v := v11) (lv' := [(6, .int v11), (5, .int v10), (0, .ref (sz + b0)), (1, rv sz b1), (2, .int b2), (3, .int b3), (4, .int b4)]) hx hb dX0_partsSeen_36 hl (k := 6) rfl (by rw [hvv11]; rfl) (by decide) (by first | rfl | simp [rv_cat, cat_i, cat_l, cat_r, cat_n]) (fun ls hl => ?_)
        refine lv_goto (tgt := 6) hx hb dX0_partsSeen_39 (by decide) ?_
        exact ih v10 v11 H locs ls hM (lv_sub hl [2, 3, 4, 5, 6, 1, 0] rfl) h hk

def f_X0_partsSeen (r : Nat) (p1 : Option Nat) (p2 : Int32) (p3 : Int32) (p4 : Int32) (u : Mm) : Option (Int32) := L_X0_partsSeen_6 r p1 p2 p3 p4 u (fun a12 a13 => some a12) 1000 (0 : Int32) (0 : Int32) 
set_option maxHeartbeats 4000000 in
set_option maxRecDepth 100000 in
theorem c_X0_partsSeen (l : Launch) (D : va_G) (cy : Nat → ClassId) (sz : Nat) (H0 : Heap) (u : Mm) (r : Nat) (p1 : Option Nat) (p2 : Int32) (p3 : Int32) (p4 : Int32) {res : Int32} (h : f_X0_partsSeen r p1 p2 p3 p4 u = some res) : Ctr l yX0_partsSeen cX0_partsSeen 7 (some .int) rm_X0_partsSeen 0 0 D cy sz H0 u [.ref (sz + r), rv sz p1, .int p2, .int p3, .int p4] (some (.int res)) u := by
  refine m_start (lv := [(0, .ref (sz + r)), (1, rv sz p1), (2, .int p2), (3, .int p3), (4, .int p4)]) (by decide) (by first | exact Nat.le_of_ble_eq_true rfl | simp [lg_sl, rv_cat, cat_i, cat_l, cat_r, cat_n]) (by first | rfl | simp [lv_args, rv_cat, cat_i, cat_l, cat_r, cat_n]) ?_
  intro p e s m below meth c ls E hr hlk hinit hM hl
  obtain ⟨hx, hb, hml, hown, hts, hKK⟩ := id E
  obtain ⟨H, hH⟩ : ∃ H, H = s.heap := ⟨_, rfl⟩
  obtain ⟨locs, hlocs⟩ : ∃ L : List Loc, L = [] := ⟨_, rfl⟩
  rw [← hH, ← hlocs] at hM ⊢
  unfold f_X0_partsSeen at h
  refine lv_iconst (v := 0) hx hb dX0_partsSeen_0 (by decide) ?_
  refine lv_istore (i := 5) (lv' := [(5, .int (0 : Int32)), (0, .ref (sz + r)), (1, rv sz p1), (2, .int p2), (3, .int p3), (4, .int p4)]) hx hb dX0_partsSeen_1 hl (by decide) (by first | rfl | simp [rv_cat, cat_i, cat_l, cat_r, cat_n]) (fun ls hl => ?_)
  refine lv_iconst (v := 0) hx hb dX0_partsSeen_3 (by decide) ?_
  refine lv_istore (i := 6) (lv' := [(6, .int (0 : Int32)), (5, .int (0 : Int32)), (0, .ref (sz + r)), (1, rv sz p1), (2, .int p2), (3, .int p3), (4, .int p4)]) hx hb dX0_partsSeen_4 hl (by decide) (by first | rfl | simp [rv_cat, cat_i, cat_l, cat_r, cat_n]) (fun ls hl => ?_)
  refine lp_X0_partsSeen_6 hr hlk  E 1000 (0 : Int32) (0 : Int32) H locs ls hM (lv_sub hl [2, 3, 4, 5, 6, 1, 0] rfl) h (fun a12 a13 H locs ls hM hl h => ?_)
  refine lv_iload hx hb dX0_partsSeen_42 (lv_at hl 5 rfl) ?_
  cases h
  exact m_iret hx hb hr hlk hM rfl rfl dX0_partsSeen_44

abbrev rm_X0_piecesSeen : Room := { frames := 3, cells := 0, slots := 0, locals := 108 }
def L_X0_piecesSeen_3 (b0 : Nat) (b1 : Option Nat) (b2 : Int32) (b3 : Int32) (k : Int32 → Mm → Option ((Int32) × Mm)) : Nat → Int32 → Mm → Option ((Int32) × Mm)
  | 0, _, _ => none
  | n + 1, a4, u => gd (okO u b0 0) ((if (gI u b0 1) ≤ a4 then k a4 u else bb (gR u b0 3) (fun x3 => cs x3 none (fun k4 => gd (okA u k4 11 a4) (bb (a4 + (1)) (fun v6 => L_X0_piecesSeen_3 b0 b1 b2 b3 k n v6 (sI u k4 (Int32.toNatClampNeg a4) (0 : Int32))))))))
set_option maxHeartbeats 4000000 in
set_option maxRecDepth 100000 in
theorem lp_X0_piecesSeen_3 {p : Program} {l : Launch} {e : Env} {s : State} {m : MethodId} {args : Array Value} {below : List Frame} {meth : Method} {c : Code} {D : va_G} {cy : Nat → ClassId} {sz : Nat} {H0 : Heap} {b0 : Nat} {b1 : Option Nat} {b2 : Int32} {b3 : Int32} {k : Int32 → Mm → Option ((Int32) × Mm)} {res : (Int32) × Mm} (hr : meth.sig.returnType = (some .int)) (hlk : meth.locks = false) (E : EE p s m args c cX0_piecesSeen 7 RX0 D cy) : ∀ (n : Nat) (a4 : Int32) (u : Mm) (H : Heap) (locs : List Loc) (ls : Array Slot), MM D cy sz H0 u H locs → lv_has ls 7 [(0, .ref (sz + b0)), (1, rv sz b1), (2, .int b2), (3, .int b3), (4, .int a4)] → L_X0_piecesSeen_3 b0 b1 b2 b3 k n a4 u = some res → (∀ (a4 : Int32) (u : Mm) (H : Heap) (locs : List Loc) (ls : Array Slot), MM D cy sz H0 u H locs → lv_has ls 7 [(0, .ref (sz + b0)), (1, rv sz b1), (2, .int b2), (3, .int b3), (4, .int a4)] → k a4 u = some res → W p l e rm_X0_piecesSeen s m args below meth c H locs 0 0 (MQ below (Post D cy sz H0 (some (.int res.1)) res.2) args s 0 0 (fun q => sz ≤ q)) (F0 m 26 ls [])) → W p l e rm_X0_piecesSeen s m args below meth c H locs 0 0 (MQ below (Post D cy sz H0 (some (.int res.1)) res.2) args s 0 0 (fun q => sz ≤ q)) (F0 m 3 ls []) := by
  obtain ⟨hx, hb, hml, hown, hts, hKK⟩ := id E
  intro n
  induction n with
  | zero => intros; rename_i h _; cases h
  | succ n ih =>
    intro a4 u H locs ls hM hl h hk
    rw [L_X0_piecesSeen_3] at h
    refine lv_iload hx hb dX0_piecesSeen_3 (lv_at hl 4 rfl) ?_
    refine lv_aload_n hx hb dX0_piecesSeen_5 rfl (lv_at hl 0 rfl) ?_
    obtain ⟨ok1, h⟩ := k_gd h
    refine gs_X0_17 E hM ok1 dX0_piecesSeen_6 ?_
    refine lv_icmp_ge (tgt := 26) hx hb dX0_piecesSeen_9 (by decide) (fun c2 => ?_) (fun c2 => ?_)
    · replace h := (k_if h).1 c2
      exact hk a4 u H locs ls hM (lv_sub hl [0, 1, 2, 3, 4] rfl) h
    · replace h := (k_if h).2 c2
      refine lv_aload_n hx hb dX0_piecesSeen_12 rfl (lv_at hl 0 rfl) ?_
      refine gs_X0_24 E hM ok1 dX0_piecesSeen_13 (fun x3 hxx3 => ?_)
      replace h := k_bb h x3 hxx3.symm
      refine lv_iload hx hb dX0_piecesSeen_16 (lv_at hl 4 rfl) ?_
      refine lv_iconst (v := 0) hx hb dX0_piecesSeen_18 (by decide) ?_
      rcases x3 with _ | k4
      · cases h
      rw [cs_s] at h
      obtain ⟨ok5, h⟩ := k_gd h
      refine m_zast E hM (by decide) ok5 dX0_piecesSeen_19 (fun H locs hM => ?_)
      obtain ⟨v6, hvv6⟩ : ∃ y : Int32, y = a4 + (1) := ⟨_, rfl⟩
      replace h := k_bb h v6 hvv6
      refine lv_iinc (v := v6) (lv' := [(4, .int v6), (0, .ref (sz + b0)), (1, rv sz b1), (2, .int b2), (3, .int b3)]) hx hb dX0_piecesSeen_20 hl (k := 4) rfl (by rw [hvv6]; rfl) (by decide) (by first | rfl | simp [rv_cat, cat_i, cat_l, cat_r, cat_n]) (fun ls hl => ?_)
      refine lv_goto (tgt := 3) hx hb dX0_piecesSeen_23 (by decide) ?_
      exact ih v6 (sI u k4 (Int32.toNatClampNeg a4) (0 : Int32)) H locs ls hM (lv_sub hl [1, 2, 3, 4, 0] rfl) h hk

def L_X0_piecesSeen_32 (b0 : Nat) (b1 : Option Nat) (b2 : Int32) (b3 : Int32) (k : Int32 → Int32 → Mm → Option ((Int32) × Mm)) : Nat → Int32 → Int32 → Mm → Option ((Int32) × Mm)
  | 0, _, _, _ => none
  | n + 1, a4, a5, u => gd (okO u b0 0) ((if (gI u b0 1) ≤ a5 then k a4 a5 u else bb (gR u b0 0) (fun x11 => cs x11 none (fun k12 => gd (okA u k12 12 a5) (bb (gR u k12 (Int32.toNatClampNeg a5)) (fun x14 => bd (f_X0_isPartSeen x14 b1 (3 : Int32) b2 b3 u) (fun w15 => (if w15 = 0 then bb (a5 + (1)) (fun v17 => L_X0_piecesSeen_32 b0 b1 b2 b3 k n a4 v17 u) else bb (gR u b0 3) (fun x18 => cs x14 none (fun k19 => gd (okO u k19 5) (cs x18 none (fun k21 => gd (okA u k21 11 (gI u k19 10)) ((if (gI u k21 (Int32.toNatClampNeg (gI u k19 10))) = 0 then bb (gR u b0 3) (fun x25 => cs x25 none (fun k26 => gd (okA u k26 11 (gI u k19 10)) (bb (a4 + (1)) (fun v28 => bb (a5 + (1)) (fun v29 => L_X0_piecesSeen_32 b0 b1 b2 b3 k n v28 v29 (sI u k26 (Int32.toNatClampNeg (gI u k19 10)) (1 : Int32))))))) else bb (a5 + (1)) (fun v24 => L_X0_piecesSeen_32 b0 b1 b2 b3 k n a4 v24 u)))))))))))))))
set_option maxHeartbeats 4000000 in
set_option maxRecDepth 100000 in
theorem lp_X0_piecesSeen_32 {p : Program} {l : Launch} {e : Env} {s : State} {m : MethodId} {args : Array Value} {below : List Frame} {meth : Method} {c : Code} {D : va_G} {cy : Nat → ClassId} {sz : Nat} {H0 : Heap} {b0 : Nat} {b1 : Option Nat} {b2 : Int32} {b3 : Int32} {k : Int32 → Int32 → Mm → Option ((Int32) × Mm)} {res : (Int32) × Mm} (hr : meth.sig.returnType = (some .int)) (hlk : meth.locks = false) (E : EE p s m args c cX0_piecesSeen 7 RX0 D cy) : ∀ (n : Nat) (a4 : Int32) (a5 : Int32) (u : Mm) (H : Heap) (locs : List Loc) (ls : Array Slot), MM D cy sz H0 u H locs → lv_has ls 7 [(0, .ref (sz + b0)), (1, rv sz b1), (2, .int b2), (3, .int b3), (4, .int a4), (5, .int a5)] → L_X0_piecesSeen_32 b0 b1 b2 b3 k n a4 a5 u = some res → (∀ (a4 : Int32) (a5 : Int32) (u : Mm) (H : Heap) (locs : List Loc) (ls : Array Slot), MM D cy sz H0 u H locs → lv_has ls 7 [(0, .ref (sz + b0)), (1, rv sz b1), (2, .int b2), (3, .int b3), (4, .int a4), (5, .int a5)] → k a4 a5 u = some res → W p l e rm_X0_piecesSeen s m args below meth c H locs 0 0 (MQ below (Post D cy sz H0 (some (.int res.1)) res.2) args s 0 0 (fun q => sz ≤ q)) (F0 m 95 ls [])) → W p l e rm_X0_piecesSeen s m args below meth c H locs 0 0 (MQ below (Post D cy sz H0 (some (.int res.1)) res.2) args s 0 0 (fun q => sz ≤ q)) (F0 m 32 ls []) := by
  obtain ⟨hx, hb, hml, hown, hts, hKK⟩ := id E
  intro n
  induction n with
  | zero => intros; rename_i h _; cases h
  | succ n ih =>
    intro a4 a5 u H locs ls hM hl h hk
    rw [L_X0_piecesSeen_32] at h
    refine lv_iload hx hb dX0_piecesSeen_32 (lv_at hl 5 rfl) ?_
    refine lv_aload_n hx hb dX0_piecesSeen_34 rfl (lv_at hl 0 rfl) ?_
    obtain ⟨ok9, h⟩ := k_gd h
    refine gs_X0_17 E hM ok9 dX0_piecesSeen_35 ?_
    refine lv_icmp_ge (tgt := 95) hx hb dX0_piecesSeen_38 (by decide) (fun c10 => ?_) (fun c10 => ?_)
    · replace h := (k_if h).1 c10
      exact hk a4 a5 u H locs ls hM (lv_sub hl [0, 1, 2, 3, 4, 5] rfl) h
    · replace h := (k_if h).2 c10
      refine lv_aload_n hx hb dX0_piecesSeen_41 rfl (lv_at hl 0 rfl) ?_
      refine gs_X0_11 E hM ok9 dX0_piecesSeen_42 (fun x11 hxx11 => ?_)
      replace h := k_bb h x11 hxx11.symm
      refine lv_iload hx hb dX0_piecesSeen_45 (lv_at hl 5 rfl) ?_
      rcases x11 with _ | k12
      · cases h
      rw [cs_s] at h
      obtain ⟨ok13, h⟩ := k_gd h
      refine m_aald (sh := 12) (tp := 3) (by decide) rfl rfl E hM ok13 dX0_piecesSeen_47 (fun x14 hxx14 => ?_)
      replace h := k_bb h x14 hxx14.symm
      refine m_astore (i := 6) (lv' := [(6, rv sz x14), (0, .ref (sz + b0)), (1, rv sz b1), (2, .int b2), (3, .int b3), (4, .int a4), (5, .int a5)]) hx hb dX0_piecesSeen_48 hl (by decide) (by first | rfl | simp [rv_cat, cat_i, cat_l, cat_r, cat_n]) (fun ls hl => ?_)
      refine m_aload hx hb dX0_piecesSeen_50 (lv_at hl 0 rfl) ?_
      refine m_aload_n hx hb dX0_piecesSeen_52 rfl (lv_at hl 2 rfl) ?_
      refine lv_iconst (v := 3) hx hb dX0_piecesSeen_53 (by decide) ?_
      refine lv_iload_n hx hb dX0_piecesSeen_54 rfl (lv_at hl 3 rfl) ?_
      refine lv_iload_n hx hb dX0_piecesSeen_55 rfl (lv_at hl 4 rfl) ?_
      obtain ⟨w15, hzw15, h⟩ := k_bd h
      refine m_callS (n := 5) (As := [rv sz x14, rv sz b1, .int (3 : Int32), .int b2, .int b3]) (rest := []) (st1 := (.int w15 :: [])) E hM hl.1 (c_X0_isPartSeen l D cy sz H0 u x14 b1 (3 : Int32) b2 b3 hzw15) wl_X0_67 wst_X0_isPartSeen wi_X0 wd_X0_isPartSeen rfl rfl (by decide +kernel) ⟨by decide, by decide⟩ rfl rfl (by first | exact Nat.le_of_ble_eq_true rfl | simp [rv_cat, cat_i, cat_l, cat_r, cat_n]) dX0_piecesSeen_56 ⟨by decide, by decide⟩ rfl (fun H locs hM => ?_)
      refine lv_if_eq (tgt := 89) hx hb dX0_piecesSeen_59 (by decide) (fun c16 => ?_) (fun c16 => ?_)
      · replace h := (k_if h).1 c16
        obtain ⟨v17, hvv17⟩ : ∃ y : Int32, y = a5 + (1) := ⟨_, rfl⟩
        replace h := k_bb h v17 hvv17
        refine lv_iinc (v := v17) (lv' := [(5, .int v17), (6, rv sz x14), (0, .ref (sz + b0)), (1, rv sz b1), (2, .int b2), (3, .int b3), (4, .int a4)]) hx hb dX0_piecesSeen_89 hl (k := 6) rfl (by rw [hvv17]; rfl) (by decide) (by first | rfl | simp [rv_cat, cat_i, cat_l, cat_r, cat_n]) (fun ls hl => ?_)
        refine lv_goto (tgt := 32) hx hb dX0_piecesSeen_92 (by decide) ?_
        exact ih a4 v17 u H locs ls hM (lv_sub hl [2, 3, 4, 5, 6, 0] rfl) h hk
      · replace h := (k_if h).2 c16
        refine lv_aload_n hx hb dX0_piecesSeen_62 rfl (lv_at hl 1 rfl) ?_
        refine gs_X0_24 E hM ok9 dX0_piecesSeen_63 (fun x18 hxx18 => ?_)
        replace h := k_bb h x18 hxx18.symm
        refine m_aload hx hb dX0_piecesSeen_66 (lv_at hl 0 rfl) ?_
        rcases x14 with _ | k19
        · cases h
        rw [cs_s] at h
        obtain ⟨ok20, h⟩ := k_gd h
        refine gs_X0_64 E hM ok20 dX0_piecesSeen_68 ?_
        rcases x18 with _ | k21
        · cases h
        rw [cs_s] at h
        obtain ⟨ok22, h⟩ := k_gd h
        refine m_zald E hM ok22 dX0_piecesSeen_71 ?_
        refine lv_if_ne (tgt := 89) hx hb dX0_piecesSeen_72 (by decide) (fun c23 => ?_) (fun c23 => ?_)
        · replace h := (k_if h).2 c23
          obtain ⟨v24, hvv24⟩ : ∃ y : Int32, y = a5 + (1) := ⟨_, rfl⟩
          replace h := k_bb h v24 hvv24
          refine lv_iinc (v := v24) (lv' := [(5, .int v24), (6, .ref (sz + k19)), (0, .ref (sz + b0)), (1, rv sz b1), (2, .int b2), (3, .int b3), (4, .int a4)]) hx hb dX0_piecesSeen_89 hl (k := 6) rfl (by rw [hvv24]; rfl) (by decide) (by first | rfl | simp [rv_cat, cat_i, cat_l, cat_r, cat_n]) (fun ls hl => ?_)
          refine lv_goto (tgt := 32) hx hb dX0_piecesSeen_92 (by decide) ?_
          exact ih a4 v24 u H locs ls hM (lv_sub hl [2, 3, 4, 5, 6, 0] rfl) h hk
        · replace h := (k_if h).1 c23
          refine lv_aload_n hx hb dX0_piecesSeen_75 rfl (lv_at hl 1 rfl) ?_
          refine gs_X0_24 E hM ok9 dX0_piecesSeen_76 (fun x25 hxx25 => ?_)
          replace h := k_bb h x25 hxx25.symm
          refine lv_aload hx hb dX0_piecesSeen_79 (lv_at hl 0 rfl) ?_
          refine gs_X0_64 E hM ok20 dX0_piecesSeen_81 ?_
          refine lv_iconst (v := 1) hx hb dX0_piecesSeen_84 (by decide) ?_
          rcases x25 with _ | k26
          · cases h
          rw [cs_s] at h
          obtain ⟨ok27, h⟩ := k_gd h
          refine m_zast E hM (by decide) ok27 dX0_piecesSeen_85 (fun H locs hM => ?_)
          obtain ⟨v28, hvv28⟩ : ∃ y : Int32, y = a4 + (1) := ⟨_, rfl⟩
          replace h := k_bb h v28 hvv28
          refine lv_iinc (v := v28) (lv' := [(4, .int v28), (6, .ref (sz + k19)), (0, .ref (sz + b0)), (1, rv sz b1), (2, .int b2), (3, .int b3), (5, .int a5)]) hx hb dX0_piecesSeen_86 hl (k := 5) rfl (by rw [hvv28]; rfl) (by decide) (by first | rfl | simp [rv_cat, cat_i, cat_l, cat_r, cat_n]) (fun ls hl => ?_)
          obtain ⟨v29, hvv29⟩ : ∃ y : Int32, y = a5 + (1) := ⟨_, rfl⟩
          replace h := k_bb h v29 hvv29
          refine lv_iinc (v := v29) (lv' := [(5, .int v29), (4, .int v28), (6, .ref (sz + k19)), (0, .ref (sz + b0)), (1, rv sz b1), (2, .int b2), (3, .int b3)]) hx hb dX0_piecesSeen_89 hl (k := 6) rfl (by rw [hvv29]; rfl) (by decide) (by first | rfl | simp [rv_cat, cat_i, cat_l, cat_r, cat_n]) (fun ls hl => ?_)
          refine lv_goto (tgt := 32) hx hb dX0_piecesSeen_92 (by decide) ?_
          exact ih v28 v29 (sI u k26 (Int32.toNatClampNeg (gI u k19 10)) (1 : Int32)) H locs ls hM (lv_sub hl [3, 4, 5, 6, 1, 0] rfl) h hk

def f_X0_piecesSeen (r : Nat) (p1 : Option Nat) (p2 : Int32) (p3 : Int32) (u : Mm) : Option ((Int32) × Mm) := L_X0_piecesSeen_3 r p1 p2 p3  (fun a7 u8 => L_X0_piecesSeen_32 r p1 p2 p3  (fun a30 a31 u32 => some (a30, u32)) 1000 (0 : Int32) (0 : Int32) u8) 1000 (0 : Int32) u
set_option maxHeartbeats 4000000 in
set_option maxRecDepth 100000 in
theorem c_X0_piecesSeen (l : Launch) (D : va_G) (cy : Nat → ClassId) (sz : Nat) (H0 : Heap) (u : Mm) (r : Nat) (p1 : Option Nat) (p2 : Int32) (p3 : Int32) {res : (Int32) × Mm} (h : f_X0_piecesSeen r p1 p2 p3 u = some res) : Ctr l yX0_piecesSeen cX0_piecesSeen 7 (some .int) rm_X0_piecesSeen 0 0 D cy sz H0 u [.ref (sz + r), rv sz p1, .int p2, .int p3] (some (.int res.1)) res.2 := by
  refine m_start (lv := [(0, .ref (sz + r)), (1, rv sz p1), (2, .int p2), (3, .int p3)]) (by decide) (by first | exact Nat.le_of_ble_eq_true rfl | simp [lg_sl, rv_cat, cat_i, cat_l, cat_r, cat_n]) (by first | rfl | simp [lv_args, rv_cat, cat_i, cat_l, cat_r, cat_n]) ?_
  intro p e s m below meth c ls E hr hlk hinit hM hl
  obtain ⟨hx, hb, hml, hown, hts, hKK⟩ := id E
  obtain ⟨H, hH⟩ : ∃ H, H = s.heap := ⟨_, rfl⟩
  obtain ⟨locs, hlocs⟩ : ∃ L : List Loc, L = [] := ⟨_, rfl⟩
  rw [← hH, ← hlocs] at hM ⊢
  unfold f_X0_piecesSeen at h
  refine lv_iconst (v := 0) hx hb dX0_piecesSeen_0 (by decide) ?_
  refine lv_istore (i := 4) (lv' := [(4, .int (0 : Int32)), (0, .ref (sz + r)), (1, rv sz p1), (2, .int p2), (3, .int p3)]) hx hb dX0_piecesSeen_1 hl (by decide) (by first | rfl | simp [rv_cat, cat_i, cat_l, cat_r, cat_n]) (fun ls hl => ?_)
  refine lp_X0_piecesSeen_3 hr hlk  E 1000 (0 : Int32) u H locs ls hM (lv_sub hl [1, 2, 3, 4, 0] rfl) h (fun a7 u8 H locs ls hM hl h => ?_)
  refine lv_iconst (v := 0) hx hb dX0_piecesSeen_26 (by decide) ?_
  refine lv_istore (i := 4) (lv' := [(4, .int (0 : Int32)), (0, .ref (sz + r)), (1, rv sz p1), (2, .int p2), (3, .int p3)]) hx hb dX0_piecesSeen_27 hl (by decide) (by first | rfl | simp [rv_cat, cat_i, cat_l, cat_r, cat_n]) (fun ls hl => ?_)
  refine lv_iconst (v := 0) hx hb dX0_piecesSeen_29 (by decide) ?_
  refine lv_istore (i := 5) (lv' := [(5, .int (0 : Int32)), (4, .int (0 : Int32)), (0, .ref (sz + r)), (1, rv sz p1), (2, .int p2), (3, .int p3)]) hx hb dX0_piecesSeen_30 hl (by decide) (by first | rfl | simp [rv_cat, cat_i, cat_l, cat_r, cat_n]) (fun ls hl => ?_)
  refine lp_X0_piecesSeen_32 hr hlk  E 1000 (0 : Int32) (0 : Int32) u8 H locs ls hM (lv_sub hl [2, 3, 4, 5, 1, 0] rfl) h (fun a30 a31 u32 H locs ls hM hl h => ?_)
  refine lv_iload hx hb dX0_piecesSeen_95 (lv_at hl 4 rfl) ?_
  cases h
  exact m_iret hx hb hr hlk hM rfl rfl dX0_piecesSeen_97

abbrev rm_X0_uncataloguedSeen : Room := { frames := 3, cells := 0, slots := 0, locals := 108 }
def L_X0_uncataloguedSeen_6 (b0 : Nat) (b1 : Option Nat) (b2 : Int32) (b3 : Int32) (u : Mm) (k : Int32 → Int32 → Option (Int32)) : Nat → Int32 → Int32 → Option (Int32)
  | 0, _, _ => none
  | n + 1, a4, a5 => gd (okO u b0 0) ((if (gI u b0 1) ≤ a5 then k a4 a5 else bb (gR u b0 0) (fun x3 => cs x3 none (fun k4 => gd (okA u k4 12 a5) (bb (gR u k4 (Int32.toNatClampNeg a5)) (fun x6 => cs x6 none (fun k7 => gd (okO u k7 5) ((if (gI u k7 6) = (-1 : Int32) then bb (a5 + (1)) (fun v10 => L_X0_uncataloguedSeen_6 b0 b1 b2 b3 u k n a4 v10) else bd (f_X0_isPartSeen (some k7) b1 (2 : Int32) b2 b3 u) (fun w11 => (if w11 = 0 then bb (a5 + (1)) (fun v13 => L_X0_uncataloguedSeen_6 b0 b1 b2 b3 u k n a4 v13) else bb ((a4 + (gI u k7 6))) (fun v14 => bb (a5 + (1)) (fun v15 => L_X0_uncataloguedSeen_6 b0 b1 b2 b3 u k n v14 v15)))))))))))))
set_option maxHeartbeats 4000000 in
set_option maxRecDepth 100000 in
theorem lp_X0_uncataloguedSeen_6 {p : Program} {l : Launch} {e : Env} {s : State} {m : MethodId} {args : Array Value} {below : List Frame} {meth : Method} {c : Code} {D : va_G} {cy : Nat → ClassId} {sz : Nat} {H0 : Heap} {b0 : Nat} {b1 : Option Nat} {b2 : Int32} {b3 : Int32} {u : Mm} {k : Int32 → Int32 → Option (Int32)} {res : Int32} (hr : meth.sig.returnType = (some .int)) (hlk : meth.locks = false) (E : EE p s m args c cX0_uncataloguedSeen 7 RX0 D cy) : ∀ (n : Nat) (a4 : Int32) (a5 : Int32) (H : Heap) (locs : List Loc) (ls : Array Slot), MM D cy sz H0 u H locs → lv_has ls 7 [(0, .ref (sz + b0)), (1, rv sz b1), (2, .int b2), (3, .int b3), (4, .int a4), (5, .int a5)] → L_X0_uncataloguedSeen_6 b0 b1 b2 b3 u k n a4 a5 = some res → (∀ (a4 : Int32) (a5 : Int32) (H : Heap) (locs : List Loc) (ls : Array Slot), MM D cy sz H0 u H locs → lv_has ls 7 [(0, .ref (sz + b0)), (1, rv sz b1), (2, .int b2), (3, .int b3), (4, .int a4), (5, .int a5)] → k a4 a5 = some res → W p l e rm_X0_uncataloguedSeen s m args below meth c H locs 0 0 (MQ below (Post D cy sz H0 (some (.int res)) u) args s 0 0 (fun q => sz ≤ q)) (F0 m 61 ls [])) → W p l e rm_X0_uncataloguedSeen s m args below meth c H locs 0 0 (MQ below (Post D cy sz H0 (some (.int res)) u) args s 0 0 (fun q => sz ≤ q)) (F0 m 6 ls []) := by
  obtain ⟨hx, hb, hml, hown, hts, hKK⟩ := id E
  intro n
  induction n with
  | zero => intros; rename_i h _; cases h
  | succ n ih =>
    intro a4 a5 H locs ls hM hl h hk
    rw [L_X0_uncataloguedSeen_6] at h
    refine lv_iload hx hb dX0_uncataloguedSeen_6 (lv_at hl 5 rfl) ?_
    refine lv_aload_n hx hb dX0_uncataloguedSeen_8 rfl (lv_at hl 0 rfl) ?_
    obtain ⟨ok1, h⟩ := k_gd h
    refine gs_X0_17 E hM ok1 dX0_uncataloguedSeen_9 ?_
    refine lv_icmp_ge (tgt := 61) hx hb dX0_uncataloguedSeen_12 (by decide) (fun c2 => ?_) (fun c2 => ?_)
    · replace h := (k_if h).1 c2
      exact hk a4 a5 H locs ls hM (lv_sub hl [0, 1, 2, 3, 4, 5] rfl) h
    · replace h := (k_if h).2 c2
      refine lv_aload_n hx hb dX0_uncataloguedSeen_15 rfl (lv_at hl 0 rfl) ?_
      refine gs_X0_11 E hM ok1 dX0_uncataloguedSeen_16 (fun x3 hxx3 => ?_)
      replace h := k_bb h x3 hxx3.symm
      refine lv_iload hx hb dX0_uncataloguedSeen_19 (lv_at hl 5 rfl) ?_
      rcases x3 with _ | k4
      · cases h
      rw [cs_s] at h
      obtain ⟨ok5, h⟩ := k_gd h
      refine m_aald (sh := 12) (tp := 3) (by decide) rfl rfl E hM ok5 dX0_uncataloguedSeen_21 (fun x6 hxx6 => ?_)
      replace h := k_bb h x6 hxx6.symm
      refine m_astore (i := 6) (lv' := [(6, rv sz x6), (0, .ref (sz + b0)), (1, rv sz b1), (2, .int b2), (3, .int b3), (4, .int a4), (5, .int a5)]) hx hb dX0_uncataloguedSeen_22 hl (by decide) (by first | rfl | simp [rv_cat, cat_i, cat_l, cat_r, cat_n]) (fun ls hl => ?_)
      refine m_aload hx hb dX0_uncataloguedSeen_24 (lv_at hl 0 rfl) ?_
      rcases x6 with _ | k7
      · cases h
      rw [cs_s] at h
      obtain ⟨ok8, h⟩ := k_gd h
      refine gs_X0_71 E hM ok8 dX0_uncataloguedSeen_26 ?_
      refine lv_iconst (v := (-1)) hx hb dX0_uncataloguedSeen_29 (by decide) ?_
      refine lv_icmp_eq (tgt := 55) hx hb dX0_uncataloguedSeen_30 (by decide) (fun c9 => ?_) (fun c9 => ?_)
      · replace h := (k_if h).1 c9
        obtain ⟨v10, hvv10⟩ : ∃ y : Int32, y = a5 + (1) := ⟨_, rfl⟩
        replace h := k_bb h v10 hvv10
        refine lv_iinc (v := v10) (lv' := [(5, .int v10), (6, .ref (sz + k7)), (0, .ref (sz + b0)), (1, rv sz b1), (2, .int b2), (3, .int b3), (4, .int a4)]) hx hb dX0_uncataloguedSeen_55 hl (k := 6) rfl (by rw [hvv10]; rfl) (by decide) (by first | rfl | simp [rv_cat, cat_i, cat_l, cat_r, cat_n]) (fun ls hl => ?_)
        refine lv_goto (tgt := 6) hx hb dX0_uncataloguedSeen_58 (by decide) ?_
        exact ih a4 v10 H locs ls hM (lv_sub hl [2, 3, 4, 5, 6, 0] rfl) h hk
      · replace h := (k_if h).2 c9
        refine lv_aload hx hb dX0_uncataloguedSeen_33 (lv_at hl 0 rfl) ?_
        refine m_aload_n hx hb dX0_uncataloguedSeen_35 rfl (lv_at hl 2 rfl) ?_
        refine lv_iconst (v := 2) hx hb dX0_uncataloguedSeen_36 (by decide) ?_
        refine lv_iload_n hx hb dX0_uncataloguedSeen_37 rfl (lv_at hl 3 rfl) ?_
        refine lv_iload_n hx hb dX0_uncataloguedSeen_38 rfl (lv_at hl 4 rfl) ?_
        obtain ⟨w11, hzw11, h⟩ := k_bd h
        refine m_callS (n := 5) (As := [.ref (sz + k7), rv sz b1, .int (2 : Int32), .int b2, .int b3]) (rest := []) (st1 := (.int w11 :: [])) E hM hl.1 (c_X0_isPartSeen l D cy sz H0 u (some k7) b1 (2 : Int32) b2 b3 hzw11) wl_X0_67 wst_X0_isPartSeen wi_X0 wd_X0_isPartSeen rfl rfl (by decide +kernel) ⟨by decide, by decide⟩ rfl rfl (by first | exact Nat.le_of_ble_eq_true rfl | simp [rv_cat, cat_i, cat_l, cat_r, cat_n]) dX0_uncataloguedSeen_39 ⟨by decide, by decide⟩ rfl (fun H locs hM => ?_)
        refine lv_if_eq (tgt := 55) hx hb dX0_uncataloguedSeen_42 (by decide) (fun c12 => ?_) (fun c12 => ?_)
        · replace h := (k_if h).1 c12
          obtain ⟨v13, hvv13⟩ : ∃ y : Int32, y = a5 + (1) := ⟨_, rfl⟩
          replace h := k_bb h v13 hvv13
          refine lv_iinc (v := v13) (lv' := [(5, .int v13), (6, .ref (sz + k7)), (0, .ref (sz + b0)), (1, rv sz b1), (2, .int b2), (3, .int b3), (4, .int a4)]) hx hb dX0_uncataloguedSeen_55 hl (k := 6) rfl (by rw [hvv13]; rfl) (by decide) (by first | rfl | simp [rv_cat, cat_i, cat_l, cat_r, cat_n]) (fun ls hl => ?_)
          refine lv_goto (tgt := 6) hx hb dX0_uncataloguedSeen_58 (by decide) ?_
          exact ih a4 v13 H locs ls hM (lv_sub hl [2, 3, 4, 5, 6, 0] rfl) h hk
        · replace h := (k_if h).2 c12
          refine lv_iload hx hb dX0_uncataloguedSeen_45 (lv_at hl 5 rfl) ?_
          refine lv_aload hx hb dX0_uncataloguedSeen_47 (lv_at hl 0 rfl) ?_
          refine gs_X0_71 E hM ok8 dX0_uncataloguedSeen_49 ?_
          refine lv_iadd hx hb dX0_uncataloguedSeen_52 ?_
          refine lv_topi (fun v14 hvv14 => ?_)
          replace h := k_bb h v14 hvv14
          refine lv_istore (i := 4) (lv' := [(4, .int v14), (6, .ref (sz + k7)), (0, .ref (sz + b0)), (1, rv sz b1), (2, .int b2), (3, .int b3), (5, .int a5)]) hx hb dX0_uncataloguedSeen_53 hl (by decide) (by first | rfl | simp [rv_cat, cat_i, cat_l, cat_r, cat_n]) (fun ls hl => ?_)
          obtain ⟨v15, hvv15⟩ : ∃ y : Int32, y = a5 + (1) := ⟨_, rfl⟩
          replace h := k_bb h v15 hvv15
          refine lv_iinc (v := v15) (lv' := [(5, .int v15), (4, .int v14), (6, .ref (sz + k7)), (0, .ref (sz + b0)), (1, rv sz b1), (2, .int b2), (3, .int b3)]) hx hb dX0_uncataloguedSeen_55 hl (k := 6) rfl (by rw [hvv15]; rfl) (by decide) (by first | rfl | simp [rv_cat, cat_i, cat_l, cat_r, cat_n]) (fun ls hl => ?_)
          refine lv_goto (tgt := 6) hx hb dX0_uncataloguedSeen_58 (by decide) ?_
          exact ih v14 v15 H locs ls hM (lv_sub hl [3, 4, 5, 6, 1, 0] rfl) h hk

def f_X0_uncataloguedSeen (r : Nat) (p1 : Option Nat) (p2 : Int32) (p3 : Int32) (u : Mm) : Option (Int32) := L_X0_uncataloguedSeen_6 r p1 p2 p3 u (fun a16 a17 => some a16) 1000 (0 : Int32) (0 : Int32) 
set_option maxHeartbeats 4000000 in
set_option maxRecDepth 100000 in
theorem c_X0_uncataloguedSeen (l : Launch) (D : va_G) (cy : Nat → ClassId) (sz : Nat) (H0 : Heap) (u : Mm) (r : Nat) (p1 : Option Nat) (p2 : Int32) (p3 : Int32) {res : Int32} (h : f_X0_uncataloguedSeen r p1 p2 p3 u = some res) : Ctr l yX0_uncataloguedSeen cX0_uncataloguedSeen 7 (some .int) rm_X0_uncataloguedSeen 0 0 D cy sz H0 u [.ref (sz + r), rv sz p1, .int p2, .int p3] (some (.int res)) u := by
  refine m_start (lv := [(0, .ref (sz + r)), (1, rv sz p1), (2, .int p2), (3, .int p3)]) (by decide) (by first | exact Nat.le_of_ble_eq_true rfl | simp [lg_sl, rv_cat, cat_i, cat_l, cat_r, cat_n]) (by first | rfl | simp [lv_args, rv_cat, cat_i, cat_l, cat_r, cat_n]) ?_
  intro p e s m below meth c ls E hr hlk hinit hM hl
  obtain ⟨hx, hb, hml, hown, hts, hKK⟩ := id E
  obtain ⟨H, hH⟩ : ∃ H, H = s.heap := ⟨_, rfl⟩
  obtain ⟨locs, hlocs⟩ : ∃ L : List Loc, L = [] := ⟨_, rfl⟩
  rw [← hH, ← hlocs] at hM ⊢
  unfold f_X0_uncataloguedSeen at h
  refine lv_iconst (v := 0) hx hb dX0_uncataloguedSeen_0 (by decide) ?_
  refine lv_istore (i := 4) (lv' := [(4, .int (0 : Int32)), (0, .ref (sz + r)), (1, rv sz p1), (2, .int p2), (3, .int p3)]) hx hb dX0_uncataloguedSeen_1 hl (by decide) (by first | rfl | simp [rv_cat, cat_i, cat_l, cat_r, cat_n]) (fun ls hl => ?_)
  refine lv_iconst (v := 0) hx hb dX0_uncataloguedSeen_3 (by decide) ?_
  refine lv_istore (i := 5) (lv' := [(5, .int (0 : Int32)), (4, .int (0 : Int32)), (0, .ref (sz + r)), (1, rv sz p1), (2, .int p2), (3, .int p3)]) hx hb dX0_uncataloguedSeen_4 hl (by decide) (by first | rfl | simp [rv_cat, cat_i, cat_l, cat_r, cat_n]) (fun ls hl => ?_)
  refine lp_X0_uncataloguedSeen_6 hr hlk  E 1000 (0 : Int32) (0 : Int32) H locs ls hM (lv_sub hl [2, 3, 4, 5, 1, 0] rfl) h (fun a16 a17 H locs ls hM hl h => ?_)
  refine lv_iload hx hb dX0_uncataloguedSeen_61 (lv_at hl 4 rfl) ?_
  cases h
  exact m_iret hx hb hr hlk hM rfl rfl dX0_uncataloguedSeen_63

abbrev rm_X0_isMarkOfAnother : Room := { frames := 0, cells := 0, slots := 0, locals := 0 }
def L_X0_isMarkOfAnother_2 (b0 : Nat) (b1 : Int32) (b2 : Option Nat) (u : Mm) (k : Int32 → Option (Int32)) : Nat → Int32 → Option (Int32)
  | 0, _ => none
  | n + 1, a3 => gd (okO u b0 0) ((if (gI u b0 1) ≤ a3 then k a3 else bb (gR u b0 0) (fun x3 => cs x3 none (fun k4 => gd (okA u k4 12 a3) (bb (gR u k4 (Int32.toNatClampNeg a3)) (fun x6 => cs x6 none (fun k7 => gd (okO u k7 5) ((if (gI u k7 9) = b1 then bb (gR u b0 0) (fun x11 => cs x11 none (fun k12 => gd (okA u k12 12 a3) (bb (gR u k12 (Int32.toNatClampNeg a3)) (fun x14 => (if x14 = b2 then bb (a3 + (1)) (fun v16 => L_X0_isMarkOfAnother_2 b0 b1 b2 u k n v16) else some (1 : Int32)))))) else bb (a3 + (1)) (fun v10 => L_X0_isMarkOfAnother_2 b0 b1 b2 u k n v10))))))))))
set_option maxHeartbeats 4000000 in
set_option maxRecDepth 100000 in
theorem lp_X0_isMarkOfAnother_2 {p : Program} {l : Launch} {e : Env} {s : State} {m : MethodId} {args : Array Value} {below : List Frame} {meth : Method} {c : Code} {D : va_G} {cy : Nat → ClassId} {sz : Nat} {H0 : Heap} {b0 : Nat} {b1 : Int32} {b2 : Option Nat} {u : Mm} {k : Int32 → Option (Int32)} {res : Int32} (hr : meth.sig.returnType = (some .boolean)) (hlk : meth.locks = false) (E : EE p s m args c cX0_isMarkOfAnother 4 RX0 D cy) : ∀ (n : Nat) (a3 : Int32) (H : Heap) (locs : List Loc) (ls : Array Slot), MM D cy sz H0 u H locs → lv_has ls 4 [(0, .ref (sz + b0)), (1, .int b1), (2, rv sz b2), (3, .int a3)] → L_X0_isMarkOfAnother_2 b0 b1 b2 u k n a3 = some res → (∀ (a3 : Int32) (H : Heap) (locs : List Loc) (ls : Array Slot), MM D cy sz H0 u H locs → lv_has ls 4 [(0, .ref (sz + b0)), (1, .int b1), (2, rv sz b2), (3, .int a3)] → k a3 = some res → W p l e rm_X0_isMarkOfAnother s m args below meth c H locs 0 0 (MQ below (Post D cy sz H0 (some (.int res)) u) args s 0 0 (fun q => sz ≤ q)) (F0 m 41 ls [])) → W p l e rm_X0_isMarkOfAnother s m args below meth c H locs 0 0 (MQ below (Post D cy sz H0 (some (.int res)) u) args s 0 0 (fun q => sz ≤ q)) (F0 m 2 ls []) := by
  obtain ⟨hx, hb, hml, hown, hts, hKK⟩ := id E
  intro n
  induction n with
  | zero => intros; rename_i h _; cases h
  | succ n ih =>
    intro a3 H locs ls hM hl h hk
    rw [L_X0_isMarkOfAnother_2] at h
    refine lv_iload_n hx hb dX0_isMarkOfAnother_2 rfl (lv_at hl 3 rfl) ?_
    refine lv_aload_n hx hb dX0_isMarkOfAnother_3 rfl (lv_at hl 0 rfl) ?_
    obtain ⟨ok1, h⟩ := k_gd h
    refine gs_X0_17 E hM ok1 dX0_isMarkOfAnother_4 ?_
    refine lv_icmp_ge (tgt := 41) hx hb dX0_isMarkOfAnother_7 (by decide) (fun c2 => ?_) (fun c2 => ?_)
    · replace h := (k_if h).1 c2
      exact hk a3 H locs ls hM (lv_sub hl [0, 1, 2, 3] rfl) h
    · replace h := (k_if h).2 c2
      refine lv_aload_n hx hb dX0_isMarkOfAnother_10 rfl (lv_at hl 0 rfl) ?_
      refine gs_X0_11 E hM ok1 dX0_isMarkOfAnother_11 (fun x3 hxx3 => ?_)
      replace h := k_bb h x3 hxx3.symm
      refine lv_iload_n hx hb dX0_isMarkOfAnother_14 rfl (lv_at hl 3 rfl) ?_
      rcases x3 with _ | k4
      · cases h
      rw [cs_s] at h
      obtain ⟨ok5, h⟩ := k_gd h
      refine m_aald (sh := 12) (tp := 3) (by decide) rfl rfl E hM ok5 dX0_isMarkOfAnother_15 (fun x6 hxx6 => ?_)
      replace h := k_bb h x6 hxx6.symm
      rcases x6 with _ | k7
      · cases h
      rw [cs_s] at h
      obtain ⟨ok8, h⟩ := k_gd h
      refine gs_X0_84 E hM ok8 dX0_isMarkOfAnother_16 ?_
      refine lv_iload_n hx hb dX0_isMarkOfAnother_19 rfl (lv_at hl 1 rfl) ?_
      refine lv_icmp_ne (tgt := 35) hx hb dX0_isMarkOfAnother_20 (by decide) (fun c9 => ?_) (fun c9 => ?_)
      · replace h := (k_if h).2 c9
        obtain ⟨v10, hvv10⟩ : ∃ y : Int32, y = a3 + (1) := ⟨_, rfl⟩
        replace h := k_bb h v10 hvv10
        refine lv_iinc (v := v10) (lv' := [(3, .int v10), (0, .ref (sz + b0)), (1, .int b1), (2, rv sz b2)]) hx hb dX0_isMarkOfAnother_35 hl (k := 3) rfl (by rw [hvv10]; rfl) (by decide) (by first | rfl | simp [rv_cat, cat_i, cat_l, cat_r, cat_n]) (fun ls hl => ?_)
        refine lv_goto (tgt := 2) hx hb dX0_isMarkOfAnother_38 (by decide) ?_
        exact ih v10 H locs ls hM (lv_sub hl [1, 2, 3, 0] rfl) h hk
      · replace h := (k_if h).1 c9
        refine lv_aload_n hx hb dX0_isMarkOfAnother_23 rfl (lv_at hl 0 rfl) ?_
        refine gs_X0_11 E hM ok1 dX0_isMarkOfAnother_24 (fun x11 hxx11 => ?_)
        replace h := k_bb h x11 hxx11.symm
        refine lv_iload_n hx hb dX0_isMarkOfAnother_27 rfl (lv_at hl 3 rfl) ?_
        rcases x11 with _ | k12
        · cases h
        rw [cs_s] at h
        obtain ⟨ok13, h⟩ := k_gd h
        refine m_aald (sh := 12) (tp := 3) (by decide) rfl rfl E hM ok13 dX0_isMarkOfAnother_28 (fun x14 hxx14 => ?_)
        replace h := k_bb h x14 hxx14.symm
        refine m_aload_n hx hb dX0_isMarkOfAnother_29 rfl (lv_at hl 2 rfl) ?_
        refine m_acmp_eq (x := x14) (y := b2) (sz := sz) (tgt := 35) hx hb dX0_isMarkOfAnother_30 (by decide) (fun c15 => ?_) (fun c15 => ?_)
        · replace h := (k_if h).1 c15
          obtain ⟨v16, hvv16⟩ : ∃ y : Int32, y = a3 + (1) := ⟨_, rfl⟩
          replace h := k_bb h v16 hvv16
          refine lv_iinc (v := v16) (lv' := [(3, .int v16), (0, .ref (sz + b0)), (1, .int b1), (2, rv sz b2)]) hx hb dX0_isMarkOfAnother_35 hl (k := 3) rfl (by rw [hvv16]; rfl) (by decide) (by first | rfl | simp [rv_cat, cat_i, cat_l, cat_r, cat_n]) (fun ls hl => ?_)
          refine lv_goto (tgt := 2) hx hb dX0_isMarkOfAnother_38 (by decide) ?_
          exact ih v16 H locs ls hM (lv_sub hl [1, 2, 3, 0] rfl) h hk
        · replace h := (k_if h).2 c15
          refine lv_iconst (v := 1) hx hb dX0_isMarkOfAnother_33 (by decide) ?_
          cases h
          exact m_zret hx hb hr hlk hM (by decide) rfl rfl dX0_isMarkOfAnother_34

def f_X0_isMarkOfAnother (r : Nat) (p1 : Int32) (p2 : Option Nat) (u : Mm) : Option (Int32) := L_X0_isMarkOfAnother_2 r p1 p2 u (fun a17 => some (0 : Int32)) 1000 (0 : Int32) 
set_option maxHeartbeats 4000000 in
set_option maxRecDepth 100000 in
theorem c_X0_isMarkOfAnother (l : Launch) (D : va_G) (cy : Nat → ClassId) (sz : Nat) (H0 : Heap) (u : Mm) (r : Nat) (p1 : Int32) (p2 : Option Nat) {res : Int32} (h : f_X0_isMarkOfAnother r p1 p2 u = some res) : Ctr l yX0_isMarkOfAnother cX0_isMarkOfAnother 4 (some .boolean) rm_X0_isMarkOfAnother 0 0 D cy sz H0 u [.ref (sz + r), .int p1, rv sz p2] (some (.int res)) u := by
  refine m_start (lv := [(0, .ref (sz + r)), (1, .int p1), (2, rv sz p2)]) (by decide) (by first | exact Nat.le_of_ble_eq_true rfl | simp [lg_sl, rv_cat, cat_i, cat_l, cat_r, cat_n]) (by first | rfl | simp [lv_args, rv_cat, cat_i, cat_l, cat_r, cat_n]) ?_
  intro p e s m below meth c ls E hr hlk hinit hM hl
  obtain ⟨hx, hb, hml, hown, hts, hKK⟩ := id E
  obtain ⟨H, hH⟩ : ∃ H, H = s.heap := ⟨_, rfl⟩
  obtain ⟨locs, hlocs⟩ : ∃ L : List Loc, L = [] := ⟨_, rfl⟩
  rw [← hH, ← hlocs] at hM ⊢
  unfold f_X0_isMarkOfAnother at h
  refine lv_iconst (v := 0) hx hb dX0_isMarkOfAnother_0 (by decide) ?_
  refine lv_istore_n (i := 3) (lv' := [(3, .int (0 : Int32)), (0, .ref (sz + r)), (1, .int p1), (2, rv sz p2)]) hx hb dX0_isMarkOfAnother_1 rfl hl (by decide) (by first | rfl | simp [rv_cat, cat_i, cat_l, cat_r, cat_n]) (fun ls hl => ?_)
  refine lp_X0_isMarkOfAnother_2 hr hlk  E 1000 (0 : Int32) H locs ls hM (lv_sub hl [1, 2, 3, 0] rfl) h (fun a17 H locs ls hM hl h => ?_)
  refine lv_iconst (v := 0) hx hb dX0_isMarkOfAnother_41 (by decide) ?_
  cases h
  exact m_zret hx hb hr hlk hM (by decide) rfl rfl dX0_isMarkOfAnother_42

abbrev rm_X0_insertByMark : Room := { frames := 0, cells := 0, slots := 0, locals := 0 }
def L_X0_insertByMark_2 (b0 : Nat) (b1 : Option Nat) (b2 : Int32) (k : Int32 → Mm → Option (Mm)) : Nat → Int32 → Mm → Option (Mm)
  | 0, _, _ => none
  | n + 1, a3, u => (if a3 ≤ 0 then k a3 u else gd (okO u b0 0) (bb (gR u b0 2) (fun x3 => cs x3 none (fun k4 => gd (okA u k4 12 (a3 - (1 : Int32))) (bb (gR u k4 (Int32.toNatClampNeg (a3 - (1 : Int32)))) (fun x6 => cs x6 none (fun k7 => gd (okO u k7 5) (cs b1 none (fun k9 => gd (okO u k9 5) ((if (gI u k7 9) ≤ (gI u k9 9) then k a3 u else bb (gR u b0 2) (fun x12 => bb (gR u b0 2) (fun x13 => cs x13 none (fun k14 => gd (okA u k14 12 (a3 - (1 : Int32))) (bb (gR u k14 (Int32.toNatClampNeg (a3 - (1 : Int32)))) (fun x16 => cs x12 none (fun k17 => cs x16 none (fun k19 => gd (okO u k19 5) (gd (okA u k17 12 a3) (bb (a3 + (-1)) (fun v21 => L_X0_insertByMark_2 b0 b1 b2 k n v21 (sR u k17 (Int32.toNatClampNeg a3) (some k19)))))))))))))))))))))))
set_option maxHeartbeats 4000000 in
set_option maxRecDepth 100000 in
theorem lp_X0_insertByMark_2 {p : Program} {l : Launch} {e : Env} {s : State} {m : MethodId} {args : Array Value} {below : List Frame} {meth : Method} {c : Code} {D : va_G} {cy : Nat → ClassId} {sz : Nat} {H0 : Heap} {b0 : Nat} {b1 : Option Nat} {b2 : Int32} {k : Int32 → Mm → Option (Mm)} {res : Mm} (hr : meth.sig.returnType = none) (hlk : meth.locks = false) (E : EE p s m args c cX0_insertByMark 4 RX0 D cy) : ∀ (n : Nat) (a3 : Int32) (u : Mm) (H : Heap) (locs : List Loc) (ls : Array Slot), MM D cy sz H0 u H locs → lv_has ls 4 [(0, .ref (sz + b0)), (1, rv sz b1), (2, .int b2), (3, .int a3)] → L_X0_insertByMark_2 b0 b1 b2 k n a3 u = some res → (∀ (a3 : Int32) (u : Mm) (H : Heap) (locs : List Loc) (ls : Array Slot), MM D cy sz H0 u H locs → lv_has ls 4 [(0, .ref (sz + b0)), (1, rv sz b1), (2, .int b2), (3, .int a3)] → k a3 u = some res → W p l e rm_X0_insertByMark s m args below meth c H locs 0 0 (MQ below (Post D cy sz H0 none res) args s 0 0 (fun q => sz ≤ q)) (F0 m 44 ls [])) → W p l e rm_X0_insertByMark s m args below meth c H locs 0 0 (MQ below (Post D cy sz H0 none res) args s 0 0 (fun q => sz ≤ q)) (F0 m 2 ls []) := by
  obtain ⟨hx, hb, hml, hown, hts, hKK⟩ := id E
  intro n
  induction n with
  | zero => intros; rename_i h _; cases h
  | succ n ih =>
    intro a3 u H locs ls hM hl h hk
    rw [L_X0_insertByMark_2] at h
    refine lv_iload_n hx hb dX0_insertByMark_2 rfl (lv_at hl 3 rfl) ?_
    refine lv_if_le (tgt := 44) hx hb dX0_insertByMark_3 (by decide) (fun c1 => ?_) (fun c1 => ?_)
    · replace h := (k_if h).1 c1
      exact hk a3 u H locs ls hM (lv_sub hl [0, 1, 2, 3] rfl) h
    · replace h := (k_if h).2 c1
      refine lv_aload_n hx hb dX0_insertByMark_6 rfl (lv_at hl 0 rfl) ?_
      obtain ⟨ok2, h⟩ := k_gd h
      refine gs_X0_21 E hM ok2 dX0_insertByMark_7 (fun x3 hxx3 => ?_)
      replace h := k_bb h x3 hxx3.symm
      refine lv_iload_n hx hb dX0_insertByMark_10 rfl (lv_at hl 3 rfl) ?_
      refine lv_iconst (v := 1) hx hb dX0_insertByMark_11 (by decide) ?_
      refine lv_isub hx hb dX0_insertByMark_12 ?_
      rcases x3 with _ | k4
      · cases h
      rw [cs_s] at h
      obtain ⟨ok5, h⟩ := k_gd h
      refine m_aald (sh := 12) (tp := 3) (by decide) rfl rfl E hM ok5 dX0_insertByMark_13 (fun x6 hxx6 => ?_)
      replace h := k_bb h x6 hxx6.symm
      rcases x6 with _ | k7
      · cases h
      rw [cs_s] at h
      obtain ⟨ok8, h⟩ := k_gd h
      refine gs_X0_84 E hM ok8 dX0_insertByMark_14 ?_
      refine m_aload_n hx hb dX0_insertByMark_17 rfl (lv_at hl 1 rfl) ?_
      rcases b1 with _ | k9
      · cases h
      rw [cs_s] at h
      obtain ⟨ok10, h⟩ := k_gd h
      refine gs_X0_84 E hM ok10 dX0_insertByMark_18 ?_
      refine lv_icmp_le (tgt := 44) hx hb dX0_insertByMark_21 (by decide) (fun c11 => ?_) (fun c11 => ?_)
      · replace h := (k_if h).1 c11
        exact hk a3 u H locs ls hM (lv_sub hl [0, 1, 2, 3] rfl) h
      · replace h := (k_if h).2 c11
        refine lv_aload_n hx hb dX0_insertByMark_24 rfl (lv_at hl 0 rfl) ?_
        refine gs_X0_21 E hM ok2 dX0_insertByMark_25 (fun x12 hxx12 => ?_)
        replace h := k_bb h x12 hxx12.symm
        refine lv_iload_n hx hb dX0_insertByMark_28 rfl (lv_at hl 3 rfl) ?_
        refine lv_aload_n hx hb dX0_insertByMark_29 rfl (lv_at hl 0 rfl) ?_
        refine gs_X0_21 E hM ok2 dX0_insertByMark_30 (fun x13 hxx13 => ?_)
        replace h := k_bb h x13 hxx13.symm
        refine lv_iload_n hx hb dX0_insertByMark_33 rfl (lv_at hl 3 rfl) ?_
        refine lv_iconst (v := 1) hx hb dX0_insertByMark_34 (by decide) ?_
        refine lv_isub hx hb dX0_insertByMark_35 ?_
        rcases x13 with _ | k14
        · cases h
        rw [cs_s] at h
        obtain ⟨ok15, h⟩ := k_gd h
        refine m_aald (sh := 12) (tp := 3) (by decide) rfl rfl E hM ok15 dX0_insertByMark_36 (fun x16 hxx16 => ?_)
        replace h := k_bb h x16 hxx16.symm
        rcases x12 with _ | k17
        · cases h
        rw [cs_s] at h
        rcases x16 with _ | k19
        · cases h
        rw [cs_s] at h
        obtain ⟨ok20, h⟩ := k_gd h
        obtain ⟨ok18, h⟩ := k_gd h
        refine m_aast (sh := 12) (tp := 3) (ci := 5) (by decide) rfl rfl (by decide) rfl rfl E hM ok18 ok20 dX0_insertByMark_37 (fun H locs hM => ?_)
        obtain ⟨v21, hvv21⟩ : ∃ y : Int32, y = a3 + (-1) := ⟨_, rfl⟩
        replace h := k_bb h v21 hvv21
        refine lv_iinc (v := v21) (lv' := [(3, .int v21), (0, .ref (sz + b0)), (1, .ref (sz + k9)), (2, .int b2)]) hx hb dX0_insertByMark_38 hl (k := 3) rfl (by rw [hvv21]; rfl) (by decide) (by first | rfl | simp [rv_cat, cat_i, cat_l, cat_r, cat_n]) (fun ls hl => ?_)
        refine lv_goto (tgt := 2) hx hb dX0_insertByMark_41 (by decide) ?_
        exact ih v21 (sR u k17 (Int32.toNatClampNeg a3) (some k19)) H locs ls hM (lv_sub hl [1, 2, 3, 0] rfl) h hk

def f_X0_insertByMark (r : Nat) (p1 : Option Nat) (p2 : Int32) (u : Mm) : Option (Mm) := L_X0_insertByMark_2 r p1 p2  (fun a22 u23 => gd (okO u23 r 0) (bb (gR u23 r 2) (fun x25 => cs x25 none (fun k26 => cs p1 none (fun k28 => gd (okO u23 k28 5) (gd (okA u23 k26 12 a22) (some (sR u23 k26 (Int32.toNatClampNeg a22) (some k28))))))))) 1000 p2 u
set_option maxHeartbeats 4000000 in
set_option maxRecDepth 100000 in
theorem c_X0_insertByMark (l : Launch) (D : va_G) (cy : Nat → ClassId) (sz : Nat) (H0 : Heap) (u : Mm) (r : Nat) (p1 : Option Nat) (p2 : Int32) {res : Mm} (h : f_X0_insertByMark r p1 p2 u = some res) : Ctr l yX0_insertByMark cX0_insertByMark 4 none rm_X0_insertByMark 0 0 D cy sz H0 u [.ref (sz + r), rv sz p1, .int p2] none res := by
  refine m_start (lv := [(0, .ref (sz + r)), (1, rv sz p1), (2, .int p2)]) (by decide) (by first | exact Nat.le_of_ble_eq_true rfl | simp [lg_sl, rv_cat, cat_i, cat_l, cat_r, cat_n]) (by first | rfl | simp [lv_args, rv_cat, cat_i, cat_l, cat_r, cat_n]) ?_
  intro p e s m below meth c ls E hr hlk hinit hM hl
  obtain ⟨hx, hb, hml, hown, hts, hKK⟩ := id E
  obtain ⟨H, hH⟩ : ∃ H, H = s.heap := ⟨_, rfl⟩
  obtain ⟨locs, hlocs⟩ : ∃ L : List Loc, L = [] := ⟨_, rfl⟩
  rw [← hH, ← hlocs] at hM ⊢
  unfold f_X0_insertByMark at h
  refine lv_iload_n hx hb dX0_insertByMark_0 rfl (lv_at hl 2 rfl) ?_
  refine lv_istore_n (i := 3) (lv' := [(3, .int p2), (0, .ref (sz + r)), (1, rv sz p1), (2, .int p2)]) hx hb dX0_insertByMark_1 rfl hl (by decide) (by first | rfl | simp [rv_cat, cat_i, cat_l, cat_r, cat_n]) (fun ls hl => ?_)
  refine lp_X0_insertByMark_2 hr hlk  E 1000 p2 u H locs ls hM (lv_sub hl [1, 2, 3, 0] rfl) h (fun a22 u23 H locs ls hM hl h => ?_)
  refine lv_aload_n hx hb dX0_insertByMark_44 rfl (lv_at hl 0 rfl) ?_
  obtain ⟨ok24, h⟩ := k_gd h
  refine gs_X0_21 E hM ok24 dX0_insertByMark_45 (fun x25 hxx25 => ?_)
  replace h := k_bb h x25 hxx25.symm
  refine lv_iload_n hx hb dX0_insertByMark_48 rfl (lv_at hl 3 rfl) ?_
  refine m_aload_n hx hb dX0_insertByMark_49 rfl (lv_at hl 1 rfl) ?_
  rcases x25 with _ | k26
  · cases h
  rw [cs_s] at h
  rcases p1 with _ | k28
  · cases h
  rw [cs_s] at h
  obtain ⟨ok29, h⟩ := k_gd h
  obtain ⟨ok27, h⟩ := k_gd h
  refine m_aast (sh := 12) (tp := 3) (ci := 5) (by decide) rfl rfl (by decide) rfl rfl E hM ok27 ok29 dX0_insertByMark_50 (fun H locs hM => ?_)
  cases h
  exact m_vret hx hb hr hlk hM rfl dX0_insertByMark_51

abbrev rm_X0_lineUpByMark : Room := { frames := 2, cells := 0, slots := 0, locals := 72 }
def L_X0_lineUpByMark_5 (b0 : Nat) (b1 : Int32) (b2 : Int32) (k : Int32 → Int32 → Mm → Option ((Int32) × Mm)) : Nat → Int32 → Int32 → Mm → Option ((Int32) × Mm)
  | 0, _, _, _ => none
  | n + 1, a3, a4, u => gd (okO u b0 0) ((if (gI u b0 1) ≤ a4 then k a3 a4 u else bb (gR u b0 0) (fun x3 => cs x3 none (fun k4 => gd (okA u k4 12 a4) (bb (gR u k4 (Int32.toNatClampNeg a4)) (fun x6 => cs x6 none (fun k7 => gd (okO u k7 5) ((if (gI u k7 9) = (-1 : Int32) then bb (a4 + (1)) (fun v10 => L_X0_lineUpByMark_5 b0 b1 b2 k n a3 v10 u) else bd (f_X5_isSeen k7 b1 b2 u) (fun w11 => (if w11 = 0 then bb (a4 + (1)) (fun v13 => L_X0_lineUpByMark_5 b0 b1 b2 k n a3 v13 u) else bd (f_X0_insertByMark b0 (some k7) a3 u) (fun w14 => bb (a3 + (1)) (fun v15 => bb (a4 + (1)) (fun v16 => L_X0_lineUpByMark_5 b0 b1 b2 k n v15 v16 w14))))))))))))))
set_option maxHeartbeats 4000000 in
set_option maxRecDepth 100000 in
theorem lp_X0_lineUpByMark_5 {p : Program} {l : Launch} {e : Env} {s : State} {m : MethodId} {args : Array Value} {below : List Frame} {meth : Method} {c : Code} {D : va_G} {cy : Nat → ClassId} {sz : Nat} {H0 : Heap} {b0 : Nat} {b1 : Int32} {b2 : Int32} {k : Int32 → Int32 → Mm → Option ((Int32) × Mm)} {res : (Int32) × Mm} (hr : meth.sig.returnType = (some .int)) (hlk : meth.locks = false) (E : EE p s m args c cX0_lineUpByMark 6 RX0 D cy) : ∀ (n : Nat) (a3 : Int32) (a4 : Int32) (u : Mm) (H : Heap) (locs : List Loc) (ls : Array Slot), MM D cy sz H0 u H locs → lv_has ls 6 [(0, .ref (sz + b0)), (1, .int b1), (2, .int b2), (3, .int a3), (4, .int a4)] → L_X0_lineUpByMark_5 b0 b1 b2 k n a3 a4 u = some res → (∀ (a3 : Int32) (a4 : Int32) (u : Mm) (H : Heap) (locs : List Loc) (ls : Array Slot), MM D cy sz H0 u H locs → lv_has ls 6 [(0, .ref (sz + b0)), (1, .int b1), (2, .int b2), (3, .int a3), (4, .int a4)] → k a3 a4 u = some res → W p l e rm_X0_lineUpByMark s m args below meth c H locs 0 0 (MQ below (Post D cy sz H0 (some (.int res.1)) res.2) args s 0 0 (fun q => sz ≤ q)) (F0 m 58 ls [])) → W p l e rm_X0_lineUpByMark s m args below meth c H locs 0 0 (MQ below (Post D cy sz H0 (some (.int res.1)) res.2) args s 0 0 (fun q => sz ≤ q)) (F0 m 5 ls []) := by
  obtain ⟨hx, hb, hml, hown, hts, hKK⟩ := id E
  intro n
  induction n with
  | zero => intros; rename_i h _; cases h
  | succ n ih =>
    intro a3 a4 u H locs ls hM hl h hk
    rw [L_X0_lineUpByMark_5] at h
    refine lv_iload hx hb dX0_lineUpByMark_5 (lv_at hl 4 rfl) ?_
    refine lv_aload_n hx hb dX0_lineUpByMark_7 rfl (lv_at hl 0 rfl) ?_
    obtain ⟨ok1, h⟩ := k_gd h
    refine gs_X0_17 E hM ok1 dX0_lineUpByMark_8 ?_
    refine lv_icmp_ge (tgt := 58) hx hb dX0_lineUpByMark_11 (by decide) (fun c2 => ?_) (fun c2 => ?_)
    · replace h := (k_if h).1 c2
      exact hk a3 a4 u H locs ls hM (lv_sub hl [0, 1, 2, 3, 4] rfl) h
    · replace h := (k_if h).2 c2
      refine lv_aload_n hx hb dX0_lineUpByMark_14 rfl (lv_at hl 0 rfl) ?_
      refine gs_X0_11 E hM ok1 dX0_lineUpByMark_15 (fun x3 hxx3 => ?_)
      replace h := k_bb h x3 hxx3.symm
      refine lv_iload hx hb dX0_lineUpByMark_18 (lv_at hl 4 rfl) ?_
      rcases x3 with _ | k4
      · cases h
      rw [cs_s] at h
      obtain ⟨ok5, h⟩ := k_gd h
      refine m_aald (sh := 12) (tp := 3) (by decide) rfl rfl E hM ok5 dX0_lineUpByMark_20 (fun x6 hxx6 => ?_)
      replace h := k_bb h x6 hxx6.symm
      refine m_astore (i := 5) (lv' := [(5, rv sz x6), (0, .ref (sz + b0)), (1, .int b1), (2, .int b2), (3, .int a3), (4, .int a4)]) hx hb dX0_lineUpByMark_21 hl (by decide) (by first | rfl | simp [rv_cat, cat_i, cat_l, cat_r, cat_n]) (fun ls hl => ?_)
      refine m_aload hx hb dX0_lineUpByMark_23 (lv_at hl 0 rfl) ?_
      rcases x6 with _ | k7
      · cases h
      rw [cs_s] at h
      obtain ⟨ok8, h⟩ := k_gd h
      refine gs_X0_84 E hM ok8 dX0_lineUpByMark_25 ?_
      refine lv_iconst (v := (-1)) hx hb dX0_lineUpByMark_28 (by decide) ?_
      refine lv_icmp_eq (tgt := 52) hx hb dX0_lineUpByMark_29 (by decide) (fun c9 => ?_) (fun c9 => ?_)
      · replace h := (k_if h).1 c9
        obtain ⟨v10, hvv10⟩ : ∃ y : Int32, y = a4 + (1) := ⟨_, rfl⟩
        replace h := k_bb h v10 hvv10
        refine lv_iinc (v := v10) (lv' := [(4, .int v10), (5, .ref (sz + k7)), (0, .ref (sz + b0)), (1, .int b1), (2, .int b2), (3, .int a3)]) hx hb dX0_lineUpByMark_52 hl (k := 5) rfl (by rw [hvv10]; rfl) (by decide) (by first | rfl | simp [rv_cat, cat_i, cat_l, cat_r, cat_n]) (fun ls hl => ?_)
        refine lv_goto (tgt := 5) hx hb dX0_lineUpByMark_55 (by decide) ?_
        exact ih a3 v10 u H locs ls hM (lv_sub hl [2, 3, 4, 5, 0] rfl) h hk
      · replace h := (k_if h).2 c9
        refine lv_aload hx hb dX0_lineUpByMark_32 (lv_at hl 0 rfl) ?_
        refine lv_iload_n hx hb dX0_lineUpByMark_34 rfl (lv_at hl 2 rfl) ?_
        refine lv_iload_n hx hb dX0_lineUpByMark_35 rfl (lv_at hl 3 rfl) ?_
        obtain ⟨w11, hzw11, h⟩ := k_bd h
        refine m_callV (C := RX5) (T := TX5) (N := 11) (ci := 5) (n := 2) (As := [.int b1, .int b2]) (rest := []) (st1 := (.int w11 :: [])) E hM hl.1 ok8 (by decide) rfl rfl (c_X5_isSeen l D cy sz H0 u k7 b1 b2 hzw11) wl_X0_80 wm_X5_isSeen ws_X5_isSeen wi_X5 wd_X5_isSeen rfl rfl (by decide +kernel) ⟨by decide, by decide⟩ rfl rfl (by first | exact Nat.le_of_ble_eq_true rfl | simp [rv_cat, cat_i, cat_l, cat_r, cat_n]) dX0_lineUpByMark_36 ⟨by decide, by decide⟩ rfl (fun H locs hM => ?_)
        refine lv_if_eq (tgt := 52) hx hb dX0_lineUpByMark_39 (by decide) (fun c12 => ?_) (fun c12 => ?_)
        · replace h := (k_if h).1 c12
          obtain ⟨v13, hvv13⟩ : ∃ y : Int32, y = a4 + (1) := ⟨_, rfl⟩
          replace h := k_bb h v13 hvv13
          refine lv_iinc (v := v13) (lv' := [(4, .int v13), (5, .ref (sz + k7)), (0, .ref (sz + b0)), (1, .int b1), (2, .int b2), (3, .int a3)]) hx hb dX0_lineUpByMark_52 hl (k := 5) rfl (by rw [hvv13]; rfl) (by decide) (by first | rfl | simp [rv_cat, cat_i, cat_l, cat_r, cat_n]) (fun ls hl => ?_)
          refine lv_goto (tgt := 5) hx hb dX0_lineUpByMark_55 (by decide) ?_
          exact ih a3 v13 u H locs ls hM (lv_sub hl [2, 3, 4, 5, 0] rfl) h hk
        · replace h := (k_if h).2 c12
          refine lv_aload_n hx hb dX0_lineUpByMark_42 rfl (lv_at hl 1 rfl) ?_
          refine lv_aload hx hb dX0_lineUpByMark_43 (lv_at hl 0 rfl) ?_
          refine lv_iload_n hx hb dX0_lineUpByMark_45 rfl (lv_at hl 4 rfl) ?_
          obtain ⟨w14, hzw14, h⟩ := k_bd h
          refine m_callV (C := RX0) (T := TX0) (N := 4) (ci := 0) (n := 2) (As := [.ref (sz + k7), .int a3]) (rest := []) (st1 := []) E hM hl.1 ok1 (by decide) rfl rfl (c_X0_insertByMark l D cy sz H0 u b0 (some k7) a3 hzw14) wl_X0_87 wm_X0_insertByMark ws_X0_insertByMark wi_X0 wd_X0_insertByMark rfl rfl (by decide +kernel) ⟨by decide, by decide⟩ rfl rfl (by first | exact Nat.le_of_ble_eq_true rfl | simp [rv_cat, cat_i, cat_l, cat_r, cat_n]) dX0_lineUpByMark_46 ⟨by decide, by decide⟩ rfl (fun H locs hM => ?_)
          obtain ⟨v15, hvv15⟩ : ∃ y : Int32, y = a3 + (1) := ⟨_, rfl⟩
          replace h := k_bb h v15 hvv15
          refine lv_iinc (v := v15) (lv' := [(3, .int v15), (5, .ref (sz + k7)), (0, .ref (sz + b0)), (1, .int b1), (2, .int b2), (4, .int a4)]) hx hb dX0_lineUpByMark_49 hl (k := 4) rfl (by rw [hvv15]; rfl) (by decide) (by first | rfl | simp [rv_cat, cat_i, cat_l, cat_r, cat_n]) (fun ls hl => ?_)
          obtain ⟨v16, hvv16⟩ : ∃ y : Int32, y = a4 + (1) := ⟨_, rfl⟩
          replace h := k_bb h v16 hvv16
          refine lv_iinc (v := v16) (lv' := [(4, .int v16), (3, .int v15), (5, .ref (sz + k7)), (0, .ref (sz + b0)), (1, .int b1), (2, .int b2)]) hx hb dX0_lineUpByMark_52 hl (k := 5) rfl (by rw [hvv16]; rfl) (by decide) (by first | rfl | simp [rv_cat, cat_i, cat_l, cat_r, cat_n]) (fun ls hl => ?_)
          refine lv_goto (tgt := 5) hx hb dX0_lineUpByMark_55 (by decide) ?_
          exact ih v15 v16 w14 H locs ls hM (lv_sub hl [3, 4, 5, 1, 0] rfl) h hk

def f_X0_lineUpByMark (r : Nat) (p1 : Int32) (p2 : Int32) (u : Mm) : Option ((Int32) × Mm) := L_X0_lineUpByMark_5 r p1 p2  (fun a17 a18 u19 => some (a17, u19)) 1000 (0 : Int32) (0 : Int32) u
set_option maxHeartbeats 4000000 in
set_option maxRecDepth 100000 in
theorem c_X0_lineUpByMark (l : Launch) (D : va_G) (cy : Nat → ClassId) (sz : Nat) (H0 : Heap) (u : Mm) (r : Nat) (p1 : Int32) (p2 : Int32) {res : (Int32) × Mm} (h : f_X0_lineUpByMark r p1 p2 u = some res) : Ctr l yX0_lineUpByMark cX0_lineUpByMark 6 (some .int) rm_X0_lineUpByMark 0 0 D cy sz H0 u [.ref (sz + r), .int p1, .int p2] (some (.int res.1)) res.2 := by
  refine m_start (lv := [(0, .ref (sz + r)), (1, .int p1), (2, .int p2)]) (by decide) (by first | exact Nat.le_of_ble_eq_true rfl | simp [lg_sl, rv_cat, cat_i, cat_l, cat_r, cat_n]) (by first | rfl | simp [lv_args, rv_cat, cat_i, cat_l, cat_r, cat_n]) ?_
  intro p e s m below meth c ls E hr hlk hinit hM hl
  obtain ⟨hx, hb, hml, hown, hts, hKK⟩ := id E
  obtain ⟨H, hH⟩ : ∃ H, H = s.heap := ⟨_, rfl⟩
  obtain ⟨locs, hlocs⟩ : ∃ L : List Loc, L = [] := ⟨_, rfl⟩
  rw [← hH, ← hlocs] at hM ⊢
  unfold f_X0_lineUpByMark at h
  refine lv_iconst (v := 0) hx hb dX0_lineUpByMark_0 (by decide) ?_
  refine lv_istore_n (i := 3) (lv' := [(3, .int (0 : Int32)), (0, .ref (sz + r)), (1, .int p1), (2, .int p2)]) hx hb dX0_lineUpByMark_1 rfl hl (by decide) (by first | rfl | simp [rv_cat, cat_i, cat_l, cat_r, cat_n]) (fun ls hl => ?_)
  refine lv_iconst (v := 0) hx hb dX0_lineUpByMark_2 (by decide) ?_
  refine lv_istore (i := 4) (lv' := [(4, .int (0 : Int32)), (3, .int (0 : Int32)), (0, .ref (sz + r)), (1, .int p1), (2, .int p2)]) hx hb dX0_lineUpByMark_3 hl (by decide) (by first | rfl | simp [rv_cat, cat_i, cat_l, cat_r, cat_n]) (fun ls hl => ?_)
  refine lp_X0_lineUpByMark_5 hr hlk  E 1000 (0 : Int32) (0 : Int32) u H locs ls hM (lv_sub hl [2, 3, 4, 1, 0] rfl) h (fun a17 a18 u19 H locs ls hM hl h => ?_)
  refine lv_iload_n hx hb dX0_lineUpByMark_58 rfl (lv_at hl 3 rfl) ?_
  cases h
  exact m_iret hx hb hr hlk hM rfl rfl dX0_lineUpByMark_59

abbrev rm_X1_init : Room := { frames := 1, cells := 2, slots := 120, locals := 36 }
def f_X1_init (r : Nat) (u : Mm) : Option (Mm) := gd (okM u 9 80) (bb (u.1) (fun q2 => gd (okO (nw u) r 1) (gd (okM (sR (nw u) r 0 (some q2)) 9 40) (bb ((sR (nw u) r 0 (some q2)).1) (fun q5 => bb (gR (sR (nw (sR (nw u) r 0 (some q2))) r 1 (some q5)) r 0) (fun x6 => bd (f_J7_fill_53178 x6 (-1 : Int32) (sR (nw (sR (nw u) r 0 (some q2))) r 1 (some q5))) (fun w7 => gd (okO w7 r 1) (bb (gR w7 r 1) (fun x9 => bd (f_J7_fill_53178 x9 (-1 : Int32) w7) (fun w10 => some w10))))))))))
set_option maxHeartbeats 4000000 in
set_option maxRecDepth 100000 in
theorem c_X1_init (l : Launch) (D : va_G) (cy : Nat → ClassId) (sz : Nat) (H0 : Heap) (u : Mm) (r : Nat) {res : Mm} (h : f_X1_init r u = some res) : Ctr l yX1_init cX1_init 1 none rm_X1_init 2 120 D cy sz H0 u [.ref (sz + r)] none res := by
  refine m_start (lv := [(0, .ref (sz + r))]) (by decide) (by first | exact Nat.le_of_ble_eq_true rfl | simp [lg_sl, rv_cat, cat_i, cat_l, cat_r, cat_n]) (by first | rfl | simp [lv_args, rv_cat, cat_i, cat_l, cat_r, cat_n]) ?_
  intro p e s m below meth c ls E hr hlk hinit hM hl
  obtain ⟨hx, hb, hml, hown, hts, hKK⟩ := id E
  obtain ⟨H, hH⟩ : ∃ H, H = s.heap := ⟨_, rfl⟩
  obtain ⟨locs, hlocs⟩ : ∃ L : List Loc, L = [] := ⟨_, rfl⟩
  rw [← hH, ← hlocs] at hM ⊢
  unfold f_X1_init at h
  refine lv_aload_n hx hb dX1_init_0 rfl (lv_at hl 0 rfl) ?_
  refine m_obj E hl.1 wl_X1_3 wm_objectInit wd_objectInit dX1_init_1 (by decide) (Nat.le_of_ble_eq_true rfl) ?_
  refine lv_aload_n hx hb dX1_init_4 rfl (lv_at hl 0 rfl) ?_
  refine lv_bipush (v := 80) hx hb dX1_init_5 (by decide) ?_
  obtain ⟨ok1, h⟩ := k_gd h
  obtain ⟨q2, hq2⟩ : ∃ y : Nat, y = (u).1 := ⟨_, rfl⟩
  replace h := k_bb h q2 hq2
  refine m_newa hq2 (sh := 9) (ty := .int) (N := 80) (by decide) rfl 0 rfl (fun U h => h) wa_int E hM ok1 (by decide) (by decide) (by decide) (nw_i _).symm (fun j => (nw_i j).trans (nw_i 0).symm) (by decide) (by decide) dX1_init_7 (fun H hM => ?_)
  obtain ⟨ok3, h⟩ := k_gd h
  refine ps_X1_9 (v := (some q2)) E hM ok3 hinit dX1_init_9 (fun H locs hM => ?_)
  refine lv_aload_n hx hb dX1_init_12 rfl (lv_at hl 0 rfl) ?_
  refine lv_bipush (v := 40) hx hb dX1_init_13 (by decide) ?_
  obtain ⟨ok4, h⟩ := k_gd h
  obtain ⟨q5, hq5⟩ : ∃ y : Nat, y = ((sR (nw u) r 0 (some q2))).1 := ⟨_, rfl⟩
  replace h := k_bb h q5 hq5
  refine m_newa hq5 (sh := 9) (ty := .int) (N := 40) (by decide) rfl 0 rfl (fun U h => h) wa_int E hM ok4 (by decide) (by decide) (by decide) (nw_i _).symm (fun j => (nw_i j).trans (nw_i 0).symm) (by decide) (by decide) dX1_init_15 (fun H hM => ?_)
  refine ps_X1_15 (v := (some q5)) E hM (okO_nw ok3) hinit dX1_init_17 (fun H locs hM => ?_)
  refine lv_aload_n hx hb dX1_init_20 rfl (lv_at hl 0 rfl) ?_
  refine gs_X1_9 E hM (okO_nw ok3) dX1_init_21 (fun x6 hxx6 => ?_)
  replace h := k_bb h x6 hxx6.symm
  refine lv_iconst (v := (-1)) hx hb dX1_init_24 (by decide) ?_
  obtain ⟨w7, hzw7, h⟩ := k_bd h
  refine m_callS (n := 2) (As := [rv sz x6, .int (-1 : Int32)]) (rest := []) (st1 := []) E hM hl.1 (c_J7_fill_53178 l D cy sz H0 (sR (nw (sR (nw u) r 0 (some q2))) r 1 (some q5)) x6 (-1 : Int32) hzw7) wl_X1_18 wst_J7_fill_53178 wi_J7 wd_J7_fill_53178 rfl rfl (by decide +kernel) ⟨by decide, by decide⟩ rfl rfl (by first | exact Nat.le_of_ble_eq_true rfl | simp [rv_cat, cat_i, cat_l, cat_r, cat_n]) dX1_init_25 ⟨by decide, by decide⟩ rfl (fun H locs hM => ?_)
  refine lv_aload_n hx hb dX1_init_28 rfl (lv_at hl 0 rfl) ?_
  obtain ⟨ok8, h⟩ := k_gd h
  refine gs_X1_15 E hM ok8 dX1_init_29 (fun x9 hxx9 => ?_)
  replace h := k_bb h x9 hxx9.symm
  refine lv_iconst (v := (-1)) hx hb dX1_init_32 (by decide) ?_
  obtain ⟨w10, hzw10, h⟩ := k_bd h
  refine m_callS (n := 2) (As := [rv sz x9, .int (-1 : Int32)]) (rest := []) (st1 := []) E hM hl.1 (c_J7_fill_53178 l D cy sz H0 w7 x9 (-1 : Int32) hzw10) wl_X1_18 wst_J7_fill_53178 wi_J7 wd_J7_fill_53178 rfl rfl (by decide +kernel) ⟨by decide, by decide⟩ rfl rfl (by first | exact Nat.le_of_ble_eq_true rfl | simp [rv_cat, cat_i, cat_l, cat_r, cat_n]) dX1_init_33 ⟨by decide, by decide⟩ rfl (fun H locs hM => ?_)
  cases h
  exact m_vret hx hb hr hlk hM rfl dX1_init_36

abbrev rm_X1_copyFrom : Room := { frames := 1, cells := 0, slots := 0, locals := 36 }
def f_X1_copyFrom (r : Nat) (p1 : Option Nat) (u : Mm) : Option (Mm) := cs p1 none (fun k1 => gd (okO u k1 1) (bb (gR u k1 0) (fun x3 => gd (okO u r 1) (bb (gR u r 0) (fun x5 => cs x3 none (fun k6 => cs x5 none (fun k7 => gd (okC u k6 k7 9 (0 : Int32) (0 : Int32) (80 : Int32)) (bb (gR (rI u k7 (va_cpy (gI u k6) (gI u k7) (Int32.toNatClampNeg (0 : Int32)) (Int32.toNatClampNeg (0 : Int32)) (Int32.toNatClampNeg (80 : Int32)))) k1 1) (fun x9 => bb (gR (rI u k7 (va_cpy (gI u k6) (gI u k7) (Int32.toNatClampNeg (0 : Int32)) (Int32.toNatClampNeg (0 : Int32)) (Int32.toNatClampNeg (80 : Int32)))) r 1) (fun x10 => cs x9 none (fun k11 => cs x10 none (fun k12 => gd (okC (rI u k7 (va_cpy (gI u k6) (gI u k7) (Int32.toNatClampNeg (0 : Int32)) (Int32.toNatClampNeg (0 : Int32)) (Int32.toNatClampNeg (80 : Int32)))) k11 k12 9 (0 : Int32) (0 : Int32) (40 : Int32)) (some (rI (rI u k7 (va_cpy (gI u k6) (gI u k7) (Int32.toNatClampNeg (0 : Int32)) (Int32.toNatClampNeg (0 : Int32)) (Int32.toNatClampNeg (80 : Int32)))) k12 (va_cpy (gI (rI u k7 (va_cpy (gI u k6) (gI u k7) (Int32.toNatClampNeg (0 : Int32)) (Int32.toNatClampNeg (0 : Int32)) (Int32.toNatClampNeg (80 : Int32)))) k11) (gI (rI u k7 (va_cpy (gI u k6) (gI u k7) (Int32.toNatClampNeg (0 : Int32)) (Int32.toNatClampNeg (0 : Int32)) (Int32.toNatClampNeg (80 : Int32)))) k12) (Int32.toNatClampNeg (0 : Int32)) (Int32.toNatClampNeg (0 : Int32)) (Int32.toNatClampNeg (40 : Int32)))))))))))))))))
set_option maxHeartbeats 4000000 in
set_option maxRecDepth 100000 in
theorem c_X1_copyFrom (l : Launch) (D : va_G) (cy : Nat → ClassId) (sz : Nat) (H0 : Heap) (u : Mm) (r : Nat) (p1 : Option Nat) {res : Mm} (h : f_X1_copyFrom r p1 u = some res) : Ctr l yX1_copyFrom cX1_copyFrom 2 none rm_X1_copyFrom 0 0 D cy sz H0 u [.ref (sz + r), rv sz p1] none res := by
  refine m_start (lv := [(0, .ref (sz + r)), (1, rv sz p1)]) (by decide) (by first | exact Nat.le_of_ble_eq_true rfl | simp [lg_sl, rv_cat, cat_i, cat_l, cat_r, cat_n]) (by first | rfl | simp [lv_args, rv_cat, cat_i, cat_l, cat_r, cat_n]) ?_
  intro p e s m below meth c ls E hr hlk hinit hM hl
  obtain ⟨hx, hb, hml, hown, hts, hKK⟩ := id E
  obtain ⟨H, hH⟩ : ∃ H, H = s.heap := ⟨_, rfl⟩
  obtain ⟨locs, hlocs⟩ : ∃ L : List Loc, L = [] := ⟨_, rfl⟩
  rw [← hH, ← hlocs] at hM ⊢
  unfold f_X1_copyFrom at h
  refine m_aload_n hx hb dX1_copyFrom_0 rfl (lv_at hl 1 rfl) ?_
  rcases p1 with _ | k1
  · cases h
  rw [cs_s] at h
  obtain ⟨ok2, h⟩ := k_gd h
  refine gs_X1_9 E hM ok2 dX1_copyFrom_1 (fun x3 hxx3 => ?_)
  replace h := k_bb h x3 hxx3.symm
  refine lv_iconst (v := 0) hx hb dX1_copyFrom_4 (by decide) ?_
  refine lv_aload_n hx hb dX1_copyFrom_5 rfl (lv_at hl 0 rfl) ?_
  obtain ⟨ok4, h⟩ := k_gd h
  refine gs_X1_9 E hM ok4 dX1_copyFrom_6 (fun x5 hxx5 => ?_)
  replace h := k_bb h x5 hxx5.symm
  refine lv_iconst (v := 0) hx hb dX1_copyFrom_9 (by decide) ?_
  refine lv_bipush (v := 80) hx hb dX1_copyFrom_10 (by decide) ?_
  rcases x3 with _ | k6
  · cases h
  rw [cs_s] at h
  rcases x5 with _ | k7
  · cases h
  rw [cs_s] at h
  obtain ⟨ok8, h⟩ := k_gd h
  refine m_copyI E hM hl.1 wl_X1_24 wna_arraycopyName wst_arraycopyName wi_J10 ok8 (by decide) (Nat.le_of_ble_eq_true rfl) dX1_copyFrom_12 (fun H locs hM => ?_)
  refine lv_aload_n hx hb dX1_copyFrom_15 rfl (lv_at hl 1 rfl) ?_
  refine gs_X1_15 E hM ok2 dX1_copyFrom_16 (fun x9 hxx9 => ?_)
  replace h := k_bb h x9 hxx9.symm
  refine lv_iconst (v := 0) hx hb dX1_copyFrom_19 (by decide) ?_
  refine lv_aload_n hx hb dX1_copyFrom_20 rfl (lv_at hl 0 rfl) ?_
  refine gs_X1_15 E hM ok4 dX1_copyFrom_21 (fun x10 hxx10 => ?_)
  replace h := k_bb h x10 hxx10.symm
  refine lv_iconst (v := 0) hx hb dX1_copyFrom_24 (by decide) ?_
  refine lv_bipush (v := 40) hx hb dX1_copyFrom_25 (by decide) ?_
  rcases x9 with _ | k11
  · cases h
  rw [cs_s] at h
  rcases x10 with _ | k12
  · cases h
  rw [cs_s] at h
  obtain ⟨ok13, h⟩ := k_gd h
  refine m_copyI E hM hl.1 wl_X1_24 wna_arraycopyName wst_arraycopyName wi_J10 ok13 (by decide) (Nat.le_of_ble_eq_true rfl) dX1_copyFrom_27 (fun H locs hM => ?_)
  cases h
  exact m_vret hx hb hr hlk hM rfl dX1_copyFrom_30

abbrev rm_X1_isFreeFor : Room := { frames := 0, cells := 0, slots := 0, locals := 0 }
def f_X1_isFreeFor (r : Nat) (p1 : Int32) (p2 : Int32) (u : Mm) : Option (Int32) := gd (okO u r 1) (bb (gR u r 1) (fun x2 => cs x2 none (fun k3 => gd (okA u k3 9 p2) ((if (gI u k3 (Int32.toNatClampNeg p2)) = (-1 : Int32) then some (1 : Int32) else bb (gR u r 1) (fun x6 => cs x6 none (fun k7 => gd (okA u k7 9 p2) ((if (gI u k7 (Int32.toNatClampNeg p2)) = p1 then some (1 : Int32) else some (0 : Int32))))))))))
set_option maxHeartbeats 4000000 in
set_option maxRecDepth 100000 in
theorem c_X1_isFreeFor (l : Launch) (D : va_G) (cy : Nat → ClassId) (sz : Nat) (H0 : Heap) (u : Mm) (r : Nat) (p1 : Int32) (p2 : Int32) {res : Int32} (h : f_X1_isFreeFor r p1 p2 u = some res) : Ctr l yX1_isFreeFor cX1_isFreeFor 3 (some .boolean) rm_X1_isFreeFor 0 0 D cy sz H0 u [.ref (sz + r), .int p1, .int p2] (some (.int res)) u := by
  refine m_start (lv := [(0, .ref (sz + r)), (1, .int p1), (2, .int p2)]) (by decide) (by first | exact Nat.le_of_ble_eq_true rfl | simp [lg_sl, rv_cat, cat_i, cat_l, cat_r, cat_n]) (by first | rfl | simp [lv_args, rv_cat, cat_i, cat_l, cat_r, cat_n]) ?_
  intro p e s m below meth c ls E hr hlk hinit hM hl
  obtain ⟨hx, hb, hml, hown, hts, hKK⟩ := id E
  obtain ⟨H, hH⟩ : ∃ H, H = s.heap := ⟨_, rfl⟩
  obtain ⟨locs, hlocs⟩ : ∃ L : List Loc, L = [] := ⟨_, rfl⟩
  rw [← hH, ← hlocs] at hM ⊢
  unfold f_X1_isFreeFor at h
  refine lv_aload_n hx hb dX1_isFreeFor_0 rfl (lv_at hl 0 rfl) ?_
  obtain ⟨ok1, h⟩ := k_gd h
  refine gs_X1_15 E hM ok1 dX1_isFreeFor_1 (fun x2 hxx2 => ?_)
  replace h := k_bb h x2 hxx2.symm
  refine lv_iload_n hx hb dX1_isFreeFor_4 rfl (lv_at hl 2 rfl) ?_
  rcases x2 with _ | k3
  · cases h
  rw [cs_s] at h
  obtain ⟨ok4, h⟩ := k_gd h
  refine m_iald E hM ok4 dX1_isFreeFor_5 ?_
  refine lv_iconst (v := (-1)) hx hb dX1_isFreeFor_6 (by decide) ?_
  refine lv_icmp_eq (tgt := 20) hx hb dX1_isFreeFor_7 (by decide) (fun c5 => ?_) (fun c5 => ?_)
  · replace h := (k_if h).1 c5
    refine lv_iconst (v := 1) hx hb dX1_isFreeFor_20 (by decide) ?_
    refine lv_goto (tgt := 25) hx hb dX1_isFreeFor_21 (by decide) ?_
    cases h
    exact m_zret hx hb hr hlk hM (by decide) rfl rfl dX1_isFreeFor_25
  · replace h := (k_if h).2 c5
    refine lv_aload_n hx hb dX1_isFreeFor_10 rfl (lv_at hl 0 rfl) ?_
    refine gs_X1_15 E hM ok1 dX1_isFreeFor_11 (fun x6 hxx6 => ?_)
    replace h := k_bb h x6 hxx6.symm
    refine lv_iload_n hx hb dX1_isFreeFor_14 rfl (lv_at hl 2 rfl) ?_
    rcases x6 with _ | k7
    · cases h
    rw [cs_s] at h
    obtain ⟨ok8, h⟩ := k_gd h
    refine m_iald E hM ok8 dX1_isFreeFor_15 ?_
    refine lv_iload_n hx hb dX1_isFreeFor_16 rfl (lv_at hl 1 rfl) ?_
    refine lv_icmp_ne (tgt := 24) hx hb dX1_isFreeFor_17 (by decide) (fun c9 => ?_) (fun c9 => ?_)
    · replace h := (k_if h).2 c9
      refine lv_iconst (v := 0) hx hb dX1_isFreeFor_24 (by decide) ?_
      cases h
      exact m_zret hx hb hr hlk hM (by decide) rfl rfl dX1_isFreeFor_25
    · replace h := (k_if h).1 c9
      refine lv_iconst (v := 1) hx hb dX1_isFreeFor_20 (by decide) ?_
      refine lv_goto (tgt := 25) hx hb dX1_isFreeFor_21 (by decide) ?_
      cases h
      exact m_zret hx hb hr hlk hM (by decide) rfl rfl dX1_isFreeFor_25

abbrev rm_X1_put : Room := { frames := 0, cells := 0, slots := 0, locals := 0 }
def f_X1_put (r : Nat) (p1 : Int32) (p2 : Int32) (u : Mm) : Option (Mm) := gd (okO u r 1) (bb (gR u r 0) (fun x2 => cs x2 none (fun k3 => gd (okA u k3 9 p1) ((if (gI u k3 (Int32.toNatClampNeg p1)) = (-1 : Int32) then bb (gR u r 0) (fun x6 => cs x6 none (fun k7 => gd (okA u k7 9 p1) ((if p2 = (-1 : Int32) then some (sI u k7 (Int32.toNatClampNeg p1) p2) else bb (gR (sI u k7 (Int32.toNatClampNeg p1) p2) r 1) (fun x10 => cs x10 none (fun k11 => gd (okA (sI u k7 (Int32.toNatClampNeg p1) p2) k11 9 p2) (some (sI (sI u k7 (Int32.toNatClampNeg p1) p2) k11 (Int32.toNatClampNeg p2) p1)))))))) else bb (gR u r 1) (fun x13 => bb (gR u r 0) (fun x14 => cs x14 none (fun k15 => gd (okA u k15 9 p1) (cs x13 none (fun k17 => gd (okA u k17 9 (gI u k15 (Int32.toNatClampNeg p1))) (bb (gR (sI u k17 (Int32.toNatClampNeg (gI u k15 (Int32.toNatClampNeg p1))) (-1 : Int32)) r 0) (fun x19 => cs x19 none (fun k20 => gd (okA (sI u k17 (Int32.toNatClampNeg (gI u k15 (Int32.toNatClampNeg p1))) (-1 : Int32)) k20 9 p1) ((if p2 = (-1 : Int32) then some (sI (sI u k17 (Int32.toNatClampNeg (gI u k15 (Int32.toNatClampNeg p1))) (-1 : Int32)) k20 (Int32.toNatClampNeg p1) p2) else bb (gR (sI (sI u k17 (Int32.toNatClampNeg (gI u k15 (Int32.toNatClampNeg p1))) (-1 : Int32)) k20 (Int32.toNatClampNeg p1) p2) r 1) (fun x23 => cs x23 none (fun k24 => gd (okA (sI (sI u k17 (Int32.toNatClampNeg (gI u k15 (Int32.toNatClampNeg p1))) (-1 : Int32)) k20 (Int32.toNatClampNeg p1) p2) k24 9 p2) (some (sI (sI (sI u k17 (Int32.toNatClampNeg (gI u k15 (Int32.toNatClampNeg p1))) (-1 : Int32)) k20 (Int32.toNatClampNeg p1) p2) k24 (Int32.toNatClampNeg p2) p1)))))))))))))))))))
set_option maxHeartbeats 4000000 in
set_option maxRecDepth 100000 in
theorem c_X1_put (l : Launch) (D : va_G) (cy : Nat → ClassId) (sz : Nat) (H0 : Heap) (u : Mm) (r : Nat) (p1 : Int32) (p2 : Int32) {res : Mm} (h : f_X1_put r p1 p2 u = some res) : Ctr l yX1_put cX1_put 3 none rm_X1_put 0 0 D cy sz H0 u [.ref (sz + r), .int p1, .int p2] none res := by
  refine m_start (lv := [(0, .ref (sz + r)), (1, .int p1), (2, .int p2)]) (by decide) (by first | exact Nat.le_of_ble_eq_true rfl | simp [lg_sl, rv_cat, cat_i, cat_l, cat_r, cat_n]) (by first | rfl | simp [lv_args, rv_cat, cat_i, cat_l, cat_r, cat_n]) ?_
  intro p e s m below meth c ls E hr hlk hinit hM hl
  obtain ⟨hx, hb, hml, hown, hts, hKK⟩ := id E
  obtain ⟨H, hH⟩ : ∃ H, H = s.heap := ⟨_, rfl⟩
  obtain ⟨locs, hlocs⟩ : ∃ L : List Loc, L = [] := ⟨_, rfl⟩
  rw [← hH, ← hlocs] at hM ⊢
  unfold f_X1_put at h
  refine lv_aload_n hx hb dX1_put_0 rfl (lv_at hl 0 rfl) ?_
  obtain ⟨ok1, h⟩ := k_gd h
  refine gs_X1_9 E hM ok1 dX1_put_1 (fun x2 hxx2 => ?_)
  replace h := k_bb h x2 hxx2.symm
  refine lv_iload_n hx hb dX1_put_4 rfl (lv_at hl 1 rfl) ?_
  rcases x2 with _ | k3
  · cases h
  rw [cs_s] at h
  obtain ⟨ok4, h⟩ := k_gd h
  refine m_iald E hM ok4 dX1_put_5 ?_
  refine lv_iconst (v := (-1)) hx hb dX1_put_6 (by decide) ?_
  refine lv_icmp_eq (tgt := 22) hx hb dX1_put_7 (by decide) (fun c5 => ?_) (fun c5 => ?_)
  · replace h := (k_if h).1 c5
    refine lv_aload_n hx hb dX1_put_22 rfl (lv_at hl 0 rfl) ?_
    refine gs_X1_9 E hM ok1 dX1_put_23 (fun x6 hxx6 => ?_)
    replace h := k_bb h x6 hxx6.symm
    refine lv_iload_n hx hb dX1_put_26 rfl (lv_at hl 1 rfl) ?_
    refine lv_iload_n hx hb dX1_put_27 rfl (lv_at hl 2 rfl) ?_
    rcases x6 with _ | k7
    · cases h
    rw [cs_s] at h
    obtain ⟨ok8, h⟩ := k_gd h
    refine m_iast E hM ok8 dX1_put_28 (fun H locs hM => ?_)
    refine lv_iload_n hx hb dX1_put_29 rfl (lv_at hl 2 rfl) ?_
    refine lv_iconst (v := (-1)) hx hb dX1_put_30 (by decide) ?_
    refine lv_icmp_eq (tgt := 41) hx hb dX1_put_31 (by decide) (fun c9 => ?_) (fun c9 => ?_)
    · replace h := (k_if h).1 c9
      cases h
      exact m_vret hx hb hr hlk hM rfl dX1_put_41
    · replace h := (k_if h).2 c9
      refine lv_aload_n hx hb dX1_put_34 rfl (lv_at hl 0 rfl) ?_
      refine gs_X1_15 E hM ok1 dX1_put_35 (fun x10 hxx10 => ?_)
      replace h := k_bb h x10 hxx10.symm
      refine lv_iload_n hx hb dX1_put_38 rfl (lv_at hl 2 rfl) ?_
      refine lv_iload_n hx hb dX1_put_39 rfl (lv_at hl 1 rfl) ?_
      rcases x10 with _ | k11
      · cases h
      rw [cs_s] at h
      obtain ⟨ok12, h⟩ := k_gd h
      refine m_iast E hM ok12 dX1_put_40 (fun H locs hM => ?_)
      cases h
      exact m_vret hx hb hr hlk hM rfl dX1_put_41
  · replace h := (k_if h).2 c5
    refine lv_aload_n hx hb dX1_put_10 rfl (lv_at hl 0 rfl) ?_
    refine gs_X1_15 E hM ok1 dX1_put_11 (fun x13 hxx13 => ?_)
    replace h := k_bb h x13 hxx13.symm
    refine lv_aload_n hx hb dX1_put_14 rfl (lv_at hl 0 rfl) ?_
    refine gs_X1_9 E hM ok1 dX1_put_15 (fun x14 hxx14 => ?_)
    replace h := k_bb h x14 hxx14.symm
    refine lv_iload_n hx hb dX1_put_18 rfl (lv_at hl 1 rfl) ?_
    rcases x14 with _ | k15
    · cases h
    rw [cs_s] at h
    obtain ⟨ok16, h⟩ := k_gd h
    refine m_iald E hM ok16 dX1_put_19 ?_
    refine lv_iconst (v := (-1)) hx hb dX1_put_20 (by decide) ?_
    rcases x13 with _ | k17
    · cases h
    rw [cs_s] at h
    obtain ⟨ok18, h⟩ := k_gd h
    refine m_iast E hM ok18 dX1_put_21 (fun H locs hM => ?_)
    refine lv_aload_n hx hb dX1_put_22 rfl (lv_at hl 0 rfl) ?_
    refine gs_X1_9 E hM ok1 dX1_put_23 (fun x19 hxx19 => ?_)
    replace h := k_bb h x19 hxx19.symm
    refine lv_iload_n hx hb dX1_put_26 rfl (lv_at hl 1 rfl) ?_
    refine lv_iload_n hx hb dX1_put_27 rfl (lv_at hl 2 rfl) ?_
    rcases x19 with _ | k20
    · cases h
    rw [cs_s] at h
    obtain ⟨ok21, h⟩ := k_gd h
    refine m_iast E hM ok21 dX1_put_28 (fun H locs hM => ?_)
    refine lv_iload_n hx hb dX1_put_29 rfl (lv_at hl 2 rfl) ?_
    refine lv_iconst (v := (-1)) hx hb dX1_put_30 (by decide) ?_
    refine lv_icmp_eq (tgt := 41) hx hb dX1_put_31 (by decide) (fun c22 => ?_) (fun c22 => ?_)
    · replace h := (k_if h).1 c22
      cases h
      exact m_vret hx hb hr hlk hM rfl dX1_put_41
    · replace h := (k_if h).2 c22
      refine lv_aload_n hx hb dX1_put_34 rfl (lv_at hl 0 rfl) ?_
      refine gs_X1_15 E hM ok1 dX1_put_35 (fun x23 hxx23 => ?_)
      replace h := k_bb h x23 hxx23.symm
      refine lv_iload_n hx hb dX1_put_38 rfl (lv_at hl 2 rfl) ?_
      refine lv_iload_n hx hb dX1_put_39 rfl (lv_at hl 1 rfl) ?_
      rcases x23 with _ | k24
      · cases h
      rw [cs_s] at h
      obtain ⟨ok25, h⟩ := k_gd h
      refine m_iast E hM ok25 dX1_put_40 (fun H locs hM => ?_)
      cases h
      exact m_vret hx hb hr hlk hM rfl dX1_put_41

abbrev rm_X1_leastEmpty : Room := { frames := 0, cells := 0, slots := 0, locals := 0 }
def L_X1_leastEmpty_2 (b0 : Nat) (u : Mm) (k : Int32 → Option (Int32)) : Nat → Int32 → Option (Int32)
  | 0, _ => none
  | n + 1, a1 => (if (40 : Int32) ≤ a1 then k a1 else gd (okO u b0 1) (bb (gR u b0 1) (fun x3 => cs x3 none (fun k4 => gd (okA u k4 9 a1) ((if (gI u k4 (Int32.toNatClampNeg a1)) = (-1 : Int32) then some a1 else bb (a1 + (1)) (fun v7 => L_X1_leastEmpty_2 b0 u k n v7)))))))
set_option maxHeartbeats 4000000 in
set_option maxRecDepth 100000 in
theorem lp_X1_leastEmpty_2 {p : Program} {l : Launch} {e : Env} {s : State} {m : MethodId} {args : Array Value} {below : List Frame} {meth : Method} {c : Code} {D : va_G} {cy : Nat → ClassId} {sz : Nat} {H0 : Heap} {b0 : Nat} {u : Mm} {k : Int32 → Option (Int32)} {res : Int32} (hr : meth.sig.returnType = (some .int)) (hlk : meth.locks = false) (E : EE p s m args c cX1_leastEmpty 2 RX1 D cy) : ∀ (n : Nat) (a1 : Int32) (H : Heap) (locs : List Loc) (ls : Array Slot), MM D cy sz H0 u H locs → lv_has ls 2 [(0, .ref (sz + b0)), (1, .int a1)] → L_X1_leastEmpty_2 b0 u k n a1 = some res → (∀ (a1 : Int32) (H : Heap) (locs : List Loc) (ls : Array Slot), MM D cy sz H0 u H locs → lv_has ls 2 [(0, .ref (sz + b0)), (1, .int a1)] → k a1 = some res → W p l e rm_X1_leastEmpty s m args below meth c H locs 0 0 (MQ below (Post D cy sz H0 (some (.int res)) u) args s 0 0 (fun q => sz ≤ q)) (F0 m 26 ls [])) → W p l e rm_X1_leastEmpty s m args below meth c H locs 0 0 (MQ below (Post D cy sz H0 (some (.int res)) u) args s 0 0 (fun q => sz ≤ q)) (F0 m 2 ls []) := by
  obtain ⟨hx, hb, hml, hown, hts, hKK⟩ := id E
  intro n
  induction n with
  | zero => intros; rename_i h _; cases h
  | succ n ih =>
    intro a1 H locs ls hM hl h hk
    rw [L_X1_leastEmpty_2] at h
    refine lv_iload_n hx hb dX1_leastEmpty_2 rfl (lv_at hl 1 rfl) ?_
    refine lv_bipush (v := 40) hx hb dX1_leastEmpty_3 (by decide) ?_
    refine lv_icmp_ge (tgt := 26) hx hb dX1_leastEmpty_5 (by decide) (fun c1 => ?_) (fun c1 => ?_)
    · replace h := (k_if h).1 c1
      exact hk a1 H locs ls hM (lv_sub hl [0, 1] rfl) h
    · replace h := (k_if h).2 c1
      refine lv_aload_n hx hb dX1_leastEmpty_8 rfl (lv_at hl 0 rfl) ?_
      obtain ⟨ok2, h⟩ := k_gd h
      refine gs_X1_15 E hM ok2 dX1_leastEmpty_9 (fun x3 hxx3 => ?_)
      replace h := k_bb h x3 hxx3.symm
      refine lv_iload_n hx hb dX1_leastEmpty_12 rfl (lv_at hl 1 rfl) ?_
      rcases x3 with _ | k4
      · cases h
      rw [cs_s] at h
      obtain ⟨ok5, h⟩ := k_gd h
      refine m_iald E hM ok5 dX1_leastEmpty_13 ?_
      refine lv_iconst (v := (-1)) hx hb dX1_leastEmpty_14 (by decide) ?_
      refine lv_icmp_ne (tgt := 20) hx hb dX1_leastEmpty_15 (by decide) (fun c6 => ?_) (fun c6 => ?_)
      · replace h := (k_if h).2 c6
        obtain ⟨v7, hvv7⟩ : ∃ y : Int32, y = a1 + (1) := ⟨_, rfl⟩
        replace h := k_bb h v7 hvv7
        refine lv_iinc (v := v7) (lv' := [(1, .int v7), (0, .ref (sz + b0))]) hx hb dX1_leastEmpty_20 hl (k := 1) rfl (by rw [hvv7]; rfl) (by decide) (by first | rfl | simp [rv_cat, cat_i, cat_l, cat_r, cat_n]) (fun ls hl => ?_)
        refine lv_goto (tgt := 2) hx hb dX1_leastEmpty_23 (by decide) ?_
        exact ih v7 H locs ls hM (lv_sub hl [1, 0] rfl) h hk
      · replace h := (k_if h).1 c6
        refine lv_iload_n hx hb dX1_leastEmpty_18 rfl (lv_at hl 1 rfl) ?_
        cases h
        exact m_iret hx hb hr hlk hM rfl rfl dX1_leastEmpty_19

def f_X1_leastEmpty (r : Nat) (u : Mm) : Option (Int32) := L_X1_leastEmpty_2 r u (fun a8 => some (-1 : Int32)) 1000 (0 : Int32) 
set_option maxHeartbeats 4000000 in
set_option maxRecDepth 100000 in
theorem c_X1_leastEmpty (l : Launch) (D : va_G) (cy : Nat → ClassId) (sz : Nat) (H0 : Heap) (u : Mm) (r : Nat) {res : Int32} (h : f_X1_leastEmpty r u = some res) : Ctr l yX1_leastEmpty cX1_leastEmpty 2 (some .int) rm_X1_leastEmpty 0 0 D cy sz H0 u [.ref (sz + r)] (some (.int res)) u := by
  refine m_start (lv := [(0, .ref (sz + r))]) (by decide) (by first | exact Nat.le_of_ble_eq_true rfl | simp [lg_sl, rv_cat, cat_i, cat_l, cat_r, cat_n]) (by first | rfl | simp [lv_args, rv_cat, cat_i, cat_l, cat_r, cat_n]) ?_
  intro p e s m below meth c ls E hr hlk hinit hM hl
  obtain ⟨hx, hb, hml, hown, hts, hKK⟩ := id E
  obtain ⟨H, hH⟩ : ∃ H, H = s.heap := ⟨_, rfl⟩
  obtain ⟨locs, hlocs⟩ : ∃ L : List Loc, L = [] := ⟨_, rfl⟩
  rw [← hH, ← hlocs] at hM ⊢
  unfold f_X1_leastEmpty at h
  refine lv_iconst (v := 0) hx hb dX1_leastEmpty_0 (by decide) ?_
  refine lv_istore_n (i := 1) (lv' := [(1, .int (0 : Int32)), (0, .ref (sz + r))]) hx hb dX1_leastEmpty_1 rfl hl (by decide) (by first | rfl | simp [rv_cat, cat_i, cat_l, cat_r, cat_n]) (fun ls hl => ?_)
  refine lp_X1_leastEmpty_2 hr hlk  E 1000 (0 : Int32) H locs ls hM (lv_sub hl [1, 0] rfl) h (fun a8 H locs ls hM hl h => ?_)
  refine lv_iconst (v := (-1)) hx hb dX1_leastEmpty_26 (by decide) ?_
  cases h
  exact m_iret hx hb hr hlk hM rfl rfl dX1_leastEmpty_27

abbrev rm_X2_init : Room := { frames := 1, cells := 3, slots := 600, locals := 36 }
def f_X2_init (r : Nat) (u : Mm) : Option (Mm) := gd (okM u 9 200) (bb (u.1) (fun q2 => gd (okO (nw u) r 2) (gd (okM (sR (nw u) r 0 (some q2)) 9 200) (bb ((sR (nw u) r 0 (some q2)).1) (fun q5 => gd (okM (sR (nw (sR (nw u) r 0 (some q2))) r 1 (some q5)) 9 200) (bb ((sR (nw (sR (nw u) r 0 (some q2))) r 1 (some q5)).1) (fun q7 => some (sI (sR (nw (sR (nw (sR (nw u) r 0 (some q2))) r 1 (some q5))) r 2 (some q7)) r 3 (0 : Int32)))))))))
set_option maxHeartbeats 4000000 in
set_option maxRecDepth 100000 in
theorem c_X2_init (l : Launch) (D : va_G) (cy : Nat → ClassId) (sz : Nat) (H0 : Heap) (u : Mm) (r : Nat) {res : Mm} (h : f_X2_init r u = some res) : Ctr l yX2_init cX2_init 1 none rm_X2_init 3 600 D cy sz H0 u [.ref (sz + r)] none res := by
  refine m_start (lv := [(0, .ref (sz + r))]) (by decide) (by first | exact Nat.le_of_ble_eq_true rfl | simp [lg_sl, rv_cat, cat_i, cat_l, cat_r, cat_n]) (by first | rfl | simp [lv_args, rv_cat, cat_i, cat_l, cat_r, cat_n]) ?_
  intro p e s m below meth c ls E hr hlk hinit hM hl
  obtain ⟨hx, hb, hml, hown, hts, hKK⟩ := id E
  obtain ⟨H, hH⟩ : ∃ H, H = s.heap := ⟨_, rfl⟩
  obtain ⟨locs, hlocs⟩ : ∃ L : List Loc, L = [] := ⟨_, rfl⟩
  rw [← hH, ← hlocs] at hM ⊢
  unfold f_X2_init at h
  refine lv_aload_n hx hb dX2_init_0 rfl (lv_at hl 0 rfl) ?_
  refine m_obj E hl.1 wl_X2_3 wm_objectInit wd_objectInit dX2_init_1 (by decide) (Nat.le_of_ble_eq_true rfl) ?_
  refine lv_aload_n hx hb dX2_init_4 rfl (lv_at hl 0 rfl) ?_
  refine lv_sipush (v := 200) hx hb dX2_init_5 (by decide) ?_
  obtain ⟨ok1, h⟩ := k_gd h
  obtain ⟨q2, hq2⟩ : ∃ y : Nat, y = (u).1 := ⟨_, rfl⟩
  replace h := k_bb h q2 hq2
  refine m_newa hq2 (sh := 9) (ty := .int) (N := 200) (by decide) rfl 0 rfl (fun U h => h) wa_int E hM ok1 (by decide) (by decide) (by decide) (nw_i _).symm (fun j => (nw_i j).trans (nw_i 0).symm) (by decide) (by decide) dX2_init_8 (fun H hM => ?_)
  obtain ⟨ok3, h⟩ := k_gd h
  refine ps_X2_9 (v := (some q2)) E hM ok3 hinit dX2_init_10 (fun H locs hM => ?_)
  refine lv_aload_n hx hb dX2_init_13 rfl (lv_at hl 0 rfl) ?_
  refine lv_sipush (v := 200) hx hb dX2_init_14 (by decide) ?_
  obtain ⟨ok4, h⟩ := k_gd h
  obtain ⟨q5, hq5⟩ : ∃ y : Nat, y = ((sR (nw u) r 0 (some q2))).1 := ⟨_, rfl⟩
  replace h := k_bb h q5 hq5
  refine m_newa hq5 (sh := 9) (ty := .int) (N := 200) (by decide) rfl 0 rfl (fun U h => h) wa_int E hM ok4 (by decide) (by decide) (by decide) (nw_i _).symm (fun j => (nw_i j).trans (nw_i 0).symm) (by decide) (by decide) dX2_init_17 (fun H hM => ?_)
  refine ps_X2_15 (v := (some q5)) E hM (okO_nw ok3) hinit dX2_init_19 (fun H locs hM => ?_)
  refine lv_aload_n hx hb dX2_init_22 rfl (lv_at hl 0 rfl) ?_
  refine lv_sipush (v := 200) hx hb dX2_init_23 (by decide) ?_
  obtain ⟨ok6, h⟩ := k_gd h
  obtain ⟨q7, hq7⟩ : ∃ y : Nat, y = ((sR (nw (sR (nw u) r 0 (some q2))) r 1 (some q5))).1 := ⟨_, rfl⟩
  replace h := k_bb h q7 hq7
  refine m_newa hq7 (sh := 9) (ty := .int) (N := 200) (by decide) rfl 0 rfl (fun U h => h) wa_int E hM ok6 (by decide) (by decide) (by decide) (nw_i _).symm (fun j => (nw_i j).trans (nw_i 0).symm) (by decide) (by decide) dX2_init_26 (fun H hM => ?_)
  refine ps_X2_18 (v := (some q7)) E hM (okO_nw (okO_nw ok3)) hinit dX2_init_28 (fun H locs hM => ?_)
  refine lv_aload_n hx hb dX2_init_31 rfl (lv_at hl 0 rfl) ?_
  refine lv_iconst (v := 0) hx hb dX2_init_32 (by decide) ?_
  refine ps_X2_21 (v := (0 : Int32)) E hM (okO_nw (okO_nw ok3)) dX2_init_33 (fun H locs hM => ?_)
  cases h
  exact m_vret hx hb hr hlk hM rfl dX2_init_36

abbrev rm_X7_within : Room := { frames := 0, cells := 0, slots := 0, locals := 0 }
def f_X7_within (p1 : Int32) (p2 : Int32) (p3 : Int32) (u : Mm) : Option (Int32) := (if p1 < p2 then some (0 : Int32) else (if p3 < p1 then some (0 : Int32) else some (1 : Int32)))
set_option maxHeartbeats 4000000 in
set_option maxRecDepth 100000 in
theorem c_X7_within (l : Launch) (D : va_G) (cy : Nat → ClassId) (sz : Nat) (H0 : Heap) (u : Mm) (p1 : Int32) (p2 : Int32) (p3 : Int32) {res : Int32} (h : f_X7_within p1 p2 p3 u = some res) : Ctr l yX7_within cX7_within 3 (some .boolean) rm_X7_within 0 0 D cy sz H0 u [.int p1, .int p2, .int p3] (some (.int res)) u := by
  refine m_start (lv := [(0, .int p1), (1, .int p2), (2, .int p3)]) (by decide) (by first | exact Nat.le_of_ble_eq_true rfl | simp [lg_sl, rv_cat, cat_i, cat_l, cat_r, cat_n]) (by first | rfl | simp [lv_args, rv_cat, cat_i, cat_l, cat_r, cat_n]) ?_
  intro p e s m below meth c ls E hr hlk hinit hM hl
  obtain ⟨hx, hb, hml, hown, hts, hKK⟩ := id E
  obtain ⟨H, hH⟩ : ∃ H, H = s.heap := ⟨_, rfl⟩
  obtain ⟨locs, hlocs⟩ : ∃ L : List Loc, L = [] := ⟨_, rfl⟩
  rw [← hH, ← hlocs] at hM ⊢
  unfold f_X7_within at h
  refine lv_iload_n hx hb dX7_within_0 rfl (lv_at hl 0 rfl) ?_
  refine lv_iload_n hx hb dX7_within_1 rfl (lv_at hl 1 rfl) ?_
  refine lv_icmp_lt (tgt := 14) hx hb dX7_within_2 (by decide) (fun c1 => ?_) (fun c1 => ?_)
  · replace h := (k_if h).1 c1
    refine lv_iconst (v := 0) hx hb dX7_within_14 (by decide) ?_
    cases h
    exact m_zret hx hb hr hlk hM (by decide) rfl rfl dX7_within_15
  · replace h := (k_if h).2 c1
    refine lv_iload_n hx hb dX7_within_5 rfl (lv_at hl 0 rfl) ?_
    refine lv_iload_n hx hb dX7_within_6 rfl (lv_at hl 2 rfl) ?_
    refine lv_icmp_gt (tgt := 14) hx hb dX7_within_7 (by decide) (fun c2 => ?_) (fun c2 => ?_)
    · replace h := (k_if h).1 c2
      refine lv_iconst (v := 0) hx hb dX7_within_14 (by decide) ?_
      cases h
      exact m_zret hx hb hr hlk hM (by decide) rfl rfl dX7_within_15
    · replace h := (k_if h).2 c2
      refine lv_iconst (v := 1) hx hb dX7_within_10 (by decide) ?_
      refine lv_goto (tgt := 15) hx hb dX7_within_11 (by decide) ?_
      cases h
      exact m_zret hx hb hr hlk hM (by decide) rfl rfl dX7_within_15

abbrev rm_X2_whyNot : Room := { frames := 1, cells := 0, slots := 0, locals := 36 }
def f_X2_whyNot (r : Nat) (p1 : Int32) (u : Mm) : Option (Int32) := gd (okO u r 2) ((if (gI u r 3) = 0 then bd (f_X7_within p1 (0 : Int32) (100000 : Int32) u) (fun w10 => (if w10 = 0 then some (5 : Int32) else (if (200 : Int32) ≤ (gI u r 3) then some (7 : Int32) else some (0 : Int32)))) else bb (gR u r 2) (fun x3 => cs x3 none (fun k4 => gd (okA u k4 9 ((gI u r 3) - (1 : Int32))) (bb ((gI u k4 (Int32.toNatClampNeg ((gI u r 3) - (1 : Int32))))) (fun v6 => bd (f_X7_within p1 v6 (100000 : Int32) u) (fun w7 => (if w7 = 0 then some (5 : Int32) else (if (200 : Int32) ≤ (gI u r 3) then some (7 : Int32) else some (0 : Int32))))))))))
set_option maxHeartbeats 4000000 in
set_option maxRecDepth 100000 in
theorem c_X2_whyNot (l : Launch) (D : va_G) (cy : Nat → ClassId) (sz : Nat) (H0 : Heap) (u : Mm) (r : Nat) (p1 : Int32) {res : Int32} (h : f_X2_whyNot r p1 u = some res) : Ctr l yX2_whyNot cX2_whyNot 3 (some .int) rm_X2_whyNot 0 0 D cy sz H0 u [.ref (sz + r), .int p1] (some (.int res)) u := by
  refine m_start (lv := [(0, .ref (sz + r)), (1, .int p1)]) (by decide) (by first | exact Nat.le_of_ble_eq_true rfl | simp [lg_sl, rv_cat, cat_i, cat_l, cat_r, cat_n]) (by first | rfl | simp [lv_args, rv_cat, cat_i, cat_l, cat_r, cat_n]) ?_
  intro p e s m below meth c ls E hr hlk hinit hM hl
  obtain ⟨hx, hb, hml, hown, hts, hKK⟩ := id E
  obtain ⟨H, hH⟩ : ∃ H, H = s.heap := ⟨_, rfl⟩
  obtain ⟨locs, hlocs⟩ : ∃ L : List Loc, L = [] := ⟨_, rfl⟩
  rw [← hH, ← hlocs] at hM ⊢
  unfold f_X2_whyNot at h
  refine lv_aload_n hx hb dX2_whyNot_0 rfl (lv_at hl 0 rfl) ?_
  obtain ⟨ok1, h⟩ := k_gd h
  refine gs_X2_21 E hM ok1 dX2_whyNot_1 ?_
  refine lv_if_ne (tgt := 11) hx hb dX2_whyNot_4 (by decide) (fun c2 => ?_) (fun c2 => ?_)
  · replace h := (k_if h).2 c2
    refine lv_aload_n hx hb dX2_whyNot_11 rfl (lv_at hl 0 rfl) ?_
    refine gs_X2_18 E hM ok1 dX2_whyNot_12 (fun x3 hxx3 => ?_)
    replace h := k_bb h x3 hxx3.symm
    refine lv_aload_n hx hb dX2_whyNot_15 rfl (lv_at hl 0 rfl) ?_
    refine gs_X2_21 E hM ok1 dX2_whyNot_16 ?_
    refine lv_iconst (v := 1) hx hb dX2_whyNot_19 (by decide) ?_
    refine lv_isub hx hb dX2_whyNot_20 ?_
    rcases x3 with _ | k4
    · cases h
    rw [cs_s] at h
    obtain ⟨ok5, h⟩ := k_gd h
    refine m_iald E hM ok5 dX2_whyNot_21 ?_
    refine lv_topi (fun v6 hvv6 => ?_)
    replace h := k_bb h v6 hvv6
    refine lv_istore_n (i := 2) (lv' := [(2, .int v6), (0, .ref (sz + r)), (1, .int p1)]) hx hb dX2_whyNot_22 rfl hl (by decide) (by first | rfl | simp [rv_cat, cat_i, cat_l, cat_r, cat_n]) (fun ls hl => ?_)
    refine lv_iload_n hx hb dX2_whyNot_23 rfl (lv_at hl 2 rfl) ?_
    refine lv_iload_n hx hb dX2_whyNot_24 rfl (lv_at hl 0 rfl) ?_
    refine lv_ldc hx hb hown (hts _ wk_X2_25) dX2_whyNot_25 ?_
    obtain ⟨w7, hzw7, h⟩ := k_bd h
    refine m_callSN (n := 3) (As := [.int p1, .int v6, .int (100000 : Int32)]) (rest := []) (st1 := (.int w7 :: [])) E hM hl.1 (c_X7_within l D cy sz H0 u p1 v6 (100000 : Int32) hzw7) wq_X2_26 wst_X7_within wi_X7 wd_X7_within rfl rfl (by decide +kernel) ⟨by decide, by decide⟩ rfl rfl (by first | exact Nat.le_of_ble_eq_true rfl | simp [rv_cat, cat_i, cat_l, cat_r, cat_n]) dX2_whyNot_27 ⟨by decide, by decide⟩ rfl (fun H locs hM => ?_)
    refine lv_if_ne (tgt := 35) hx hb dX2_whyNot_30 (by decide) (fun c8 => ?_) (fun c8 => ?_)
    · replace h := (k_if h).2 c8
      refine lv_aload_n hx hb dX2_whyNot_35 rfl (lv_at hl 1 rfl) ?_
      refine gs_X2_21 E hM ok1 dX2_whyNot_36 ?_
      refine lv_sipush (v := 200) hx hb dX2_whyNot_39 (by decide) ?_
      refine lv_icmp_ge (tgt := 49) hx hb dX2_whyNot_42 (by decide) (fun c9 => ?_) (fun c9 => ?_)
      · replace h := (k_if h).1 c9
        refine lv_bipush (v := 7) hx hb dX2_whyNot_49 (by decide) ?_
        cases h
        exact m_iret hx hb hr hlk hM rfl rfl dX2_whyNot_51
      · replace h := (k_if h).2 c9
        refine lv_iconst (v := 0) hx hb dX2_whyNot_45 (by decide) ?_
        refine lv_goto (tgt := 51) hx hb dX2_whyNot_46 (by decide) ?_
        cases h
        exact m_iret hx hb hr hlk hM rfl rfl dX2_whyNot_51
    · replace h := (k_if h).1 c8
      refine lv_iconst (v := 5) hx hb dX2_whyNot_33 (by decide) ?_
      cases h
      exact m_iret hx hb hr hlk hM rfl rfl dX2_whyNot_34
  · replace h := (k_if h).1 c2
    refine lv_iconst (v := 0) hx hb dX2_whyNot_7 (by decide) ?_
    refine lv_goto (tgt := 22) hx hb dX2_whyNot_8 (by decide) ?_
    refine lv_istore_n (i := 2) (lv' := [(2, .int (0 : Int32)), (0, .ref (sz + r)), (1, .int p1)]) hx hb dX2_whyNot_22 rfl hl (by decide) (by first | rfl | simp [rv_cat, cat_i, cat_l, cat_r, cat_n]) (fun ls hl => ?_)
    refine lv_iload_n hx hb dX2_whyNot_23 rfl (lv_at hl 2 rfl) ?_
    refine lv_iload_n hx hb dX2_whyNot_24 rfl (lv_at hl 0 rfl) ?_
    refine lv_ldc hx hb hown (hts _ wk_X2_25) dX2_whyNot_25 ?_
    obtain ⟨w10, hzw10, h⟩ := k_bd h
    refine m_callSN (n := 3) (As := [.int p1, .int (0 : Int32), .int (100000 : Int32)]) (rest := []) (st1 := (.int w10 :: [])) E hM hl.1 (c_X7_within l D cy sz H0 u p1 (0 : Int32) (100000 : Int32) hzw10) wq_X2_26 wst_X7_within wi_X7 wd_X7_within rfl rfl (by decide +kernel) ⟨by decide, by decide⟩ rfl rfl (by first | exact Nat.le_of_ble_eq_true rfl | simp [rv_cat, cat_i, cat_l, cat_r, cat_n]) dX2_whyNot_27 ⟨by decide, by decide⟩ rfl (fun H locs hM => ?_)
    refine lv_if_ne (tgt := 35) hx hb dX2_whyNot_30 (by decide) (fun c11 => ?_) (fun c11 => ?_)
    · replace h := (k_if h).2 c11
      refine lv_aload_n hx hb dX2_whyNot_35 rfl (lv_at hl 1 rfl) ?_
      refine gs_X2_21 E hM ok1 dX2_whyNot_36 ?_
      refine lv_sipush (v := 200) hx hb dX2_whyNot_39 (by decide) ?_
      refine lv_icmp_ge (tgt := 49) hx hb dX2_whyNot_42 (by decide) (fun c12 => ?_) (fun c12 => ?_)
      · replace h := (k_if h).1 c12
        refine lv_bipush (v := 7) hx hb dX2_whyNot_49 (by decide) ?_
        cases h
        exact m_iret hx hb hr hlk hM rfl rfl dX2_whyNot_51
      · replace h := (k_if h).2 c12
        refine lv_iconst (v := 0) hx hb dX2_whyNot_45 (by decide) ?_
        refine lv_goto (tgt := 51) hx hb dX2_whyNot_46 (by decide) ?_
        cases h
        exact m_iret hx hb hr hlk hM rfl rfl dX2_whyNot_51
    · replace h := (k_if h).1 c11
      refine lv_iconst (v := 5) hx hb dX2_whyNot_33 (by decide) ?_
      cases h
      exact m_iret hx hb hr hlk hM rfl rfl dX2_whyNot_34

