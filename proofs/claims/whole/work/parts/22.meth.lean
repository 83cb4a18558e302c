abbrev rm_X8_lastTick : Room := { frames := 0, cells := 0, slots := 0, locals := 0 }
def f_X8_lastTick (r : Nat) (u : Mm) : Option (Int32) := gd (okO u r 8) ((if (gI u r 22) = 0 then some (0 : Int32) else bb (gR u r 25) (fun x3 => cs x3 none (fun k4 => gd (okA u k4 9 ((gI u r 22) - (1 : Int32))) (some (gI u k4 (Int32.toNatClampNeg ((gI u r 22) - (1 : Int32)))))))))
set_option maxHeartbeats 4000000 in
set_option maxRecDepth 100000 in
theorem c_X8_lastTick (l : Launch) (D : va_G) (cy : Nat → ClassId) (sz : Nat) (H0 : Heap) (u : Mm) (r : Nat) {res : Int32} (h : f_X8_lastTick r u = some res) : Ctr l yX8_lastTick cX8_lastTick 1 (some .int) rm_X8_lastTick 0 0 D cy sz H0 u [.ref (sz + r)] (some (.int res)) u := by
  refine m_start (lv := [(0, .ref (sz + r))]) (by decide) (by first | exact Nat.le_of_ble_eq_true rfl | simp [lg_sl, rv_cat, cat_i, cat_l, cat_r, cat_n]) (by first | rfl | simp [lv_args, rv_cat, cat_i, cat_l, cat_r, cat_n]) ?_
  intro p e s m below meth c ls E hr hlk hinit hM hl
  obtain ⟨hx, hb, hml, hown, hts, hKK⟩ := id E
  obtain ⟨H, hH⟩ : ∃ H, H = s.heap := ⟨_, rfl⟩
  obtain ⟨locs, hlocs⟩ : ∃ L : List Loc, L = [] := ⟨_, rfl⟩
  rw [← hH, ← hlocs] at hM ⊢
  unfold f_X8_lastTick at h
  refine lv_aload_n hx hb dX8_lastTick_0 rfl (lv_at hl 0 rfl) ?_
  obtain ⟨ok1, h⟩ := k_gd h
  refine gs_X8_166 E hM ok1 dX8_lastTick_1 ?_
  refine lv_if_ne (tgt := 11) hx hb dX8_lastTick_4 (by decide) (fun c2 => ?_) (fun c2 => ?_)
  · replace h := (k_if h).2 c2
    refine lv_aload_n hx hb dX8_lastTick_11 rfl (lv_at hl 0 rfl) ?_
    refine gs_X8_72 E hM ok1 dX8_lastTick_12 (fun x3 hxx3 => ?_)
    replace h := k_bb h x3 hxx3.symm
    refine lv_aload_n hx hb dX8_lastTick_15 rfl (lv_at hl 0 rfl) ?_
    refine gs_X8_166 E hM ok1 dX8_lastTick_16 ?_
    refine lv_iconst (v := 1) hx hb dX8_lastTick_19 (by decide) ?_
    refine lv_isub hx hb dX8_lastTick_20 ?_
    rcases x3 with _ | k4
    · cases h
    rw [cs_s] at h
    obtain ⟨ok5, h⟩ := k_gd h
    refine m_iald E hM ok5 dX8_lastTick_21 ?_
    cases h
    exact m_iret hx hb hr hlk hM rfl rfl dX8_lastTick_22
  · replace h := (k_if h).1 c2
    refine lv_iconst (v := 0) hx hb dX8_lastTick_7 (by decide) ?_
    refine lv_goto (tgt := 22) hx hb dX8_lastTick_8 (by decide) ?_
    cases h
    exact m_iret hx hb hr hlk hM rfl rfl dX8_lastTick_22

abbrev rm_X8_latest : Room := { frames := 0, cells := 0, slots := 0, locals := 0 }
def L_X8_latest_5 (b0 : Nat) (b1 : Int32) (b2 : Int32) (u : Mm) (k : Int32 → Int32 → Option (Int32)) : Nat → Int32 → Int32 → Option (Int32)
  | 0, _, _ => none
  | n + 1, a3, a4 => gd (okO u b0 8) ((if (gI u b0 22) ≤ a4 then k a3 a4 else bb (gR u b0 23) (fun x3 => cs x3 none (fun k4 => gd (okA u k4 9 a4) ((if (gI u k4 (Int32.toNatClampNeg a4)) = b1 then bb (gR u b0 25) (fun x8 => cs x8 none (fun k9 => gd (okA u k9 9 a4) ((if b2 < (gI u k9 (Int32.toNatClampNeg a4)) then bb (a4 + (1)) (fun v12 => L_X8_latest_5 b0 b1 b2 u k n a3 v12) else bb (a4 + (1)) (fun v13 => L_X8_latest_5 b0 b1 b2 u k n a4 v13))))) else bb (a4 + (1)) (fun v7 => L_X8_latest_5 b0 b1 b2 u k n a3 v7)))))))
set_option maxHeartbeats 4000000 in
set_option maxRecDepth 100000 in
theorem lp_X8_latest_5 {p : Program} {l : Launch} {e : Env} {s : State} {m : MethodId} {args : Array Value} {below : List Frame} {meth : Method} {c : Code} {D : va_G} {cy : Nat → ClassId} {sz : Nat} {H0 : Heap} {b0 : Nat} {b1 : Int32} {b2 : Int32} {u : Mm} {k : Int32 → Int32 → Option (Int32)} {res : Int32} (hr : meth.sig.returnType = (some .int)) (hlk : meth.locks = false) (E : EE p s m args c cX8_latest 5 RX8 D cy) : ∀ (n : Nat) (a3 : Int32) (a4 : Int32) (H : Heap) (locs : List Loc) (ls : Array Slot), MM D cy sz H0 u H locs → lv_has ls 5 [(0, .ref (sz + b0)), (1, .int b1), (2, .int b2), (3, .int a3), (4, .int a4)] → L_X8_latest_5 b0 b1 b2 u k n a3 a4 = some res → (∀ (a3 : Int32) (a4 : Int32) (H : Heap) (locs : List Loc) (ls : Array Slot), MM D cy sz H0 u H locs → lv_has ls 5 [(0, .ref (sz + b0)), (1, .int b1), (2, .int b2), (3, .int a3), (4, .int a4)] → k a3 a4 = some res → W p l e rm_X8_latest s m args below meth c H locs 0 0 (MQ below (Post D cy sz H0 (some (.int res)) u) args s 0 0 (fun q => sz ≤ q)) (F0 m 45 ls [])) → W p l e rm_X8_latest s m args below meth c H locs 0 0 (MQ below (Post D cy sz H0 (some (.int res)) u) args s 0 0 (fun q => sz ≤ q)) (F0 m 5 ls []) := by
  obtain ⟨hx, hb, hml, hown, hts, hKK⟩ := id E
  intro n
  induction n with
  | zero => intros; rename_i h _; cases h
  | succ n ih =>
    intro a3 a4 H locs ls hM hl h hk
    rw [L_X8_latest_5] at h
    refine lv_iload hx hb dX8_latest_5 (lv_at hl 4 rfl) ?_
    refine lv_aload_n hx hb dX8_latest_7 rfl (lv_at hl 0 rfl) ?_
    obtain ⟨ok1, h⟩ := k_gd h
    refine gs_X8_166 E hM ok1 dX8_latest_8 ?_
    refine lv_icmp_ge (tgt := 45) hx hb dX8_latest_11 (by decide) (fun c2 => ?_) (fun c2 => ?_)
    · replace h := (k_if h).1 c2
      exact hk a3 a4 H locs ls hM (lv_sub hl [0, 1, 2, 3, 4] rfl) h
    · replace h := (k_if h).2 c2
      refine lv_aload_n hx hb dX8_latest_14 rfl (lv_at hl 0 rfl) ?_
      refine gs_X8_66 E hM ok1 dX8_latest_15 (fun x3 hxx3 => ?_)
      replace h := k_bb h x3 hxx3.symm
      refine lv_iload hx hb dX8_latest_18 (lv_at hl 4 rfl) ?_
      rcases x3 with _ | k4
      · cases h
      rw [cs_s] at h
      obtain ⟨ok5, h⟩ := k_gd h
      refine m_iald E hM ok5 dX8_latest_20 ?_
      refine lv_iload_n hx hb dX8_latest_21 rfl (lv_at hl 1 rfl) ?_
      refine lv_icmp_ne (tgt := 39) hx hb dX8_latest_22 (by decide) (fun c6 => ?_) (fun c6 => ?_)
      · replace h := (k_if h).2 c6
        obtain ⟨v7, hvv7⟩ : ∃ y : Int32, y = a4 + (1) := ⟨_, rfl⟩
        replace h := k_bb h v7 hvv7
        refine lv_iinc (v := v7) (lv' := [(4, .int v7), (0, .ref (sz + b0)), (1, .int b1), (2, .int b2), (3, .int a3)]) hx hb dX8_latest_39 hl (k := 4) rfl (by rw [hvv7]; rfl) (by decide) (by first | rfl | simp [rv_cat, cat_i, cat_l, cat_r, cat_n]) (fun ls hl => ?_)
        refine lv_goto (tgt := 5) hx hb dX8_latest_42 (by decide) ?_
        exact ih a3 v7 H locs ls hM (lv_sub hl [1, 2, 3, 4, 0] rfl) h hk
      · replace h := (k_if h).1 c6
        refine lv_aload_n hx hb dX8_latest_25 rfl (lv_at hl 0 rfl) ?_
        refine gs_X8_72 E hM ok1 dX8_latest_26 (fun x8 hxx8 => ?_)
        replace h := k_bb h x8 hxx8.symm
        refine lv_iload hx hb dX8_latest_29 (lv_at hl 4 rfl) ?_
        rcases x8 with _ | k9
        · cases h
        rw [cs_s] at h
        obtain ⟨ok10, h⟩ := k_gd h
        refine m_iald E hM ok10 dX8_latest_31 ?_
        refine lv_iload_n hx hb dX8_latest_32 rfl (lv_at hl 2 rfl) ?_
        refine lv_icmp_gt (tgt := 39) hx hb dX8_latest_33 (by decide) (fun c11 => ?_) (fun c11 => ?_)
        · replace h := (k_if h).1 c11
          obtain ⟨v12, hvv12⟩ : ∃ y : Int32, y = a4 + (1) := ⟨_, rfl⟩
          replace h := k_bb h v12 hvv12
          refine lv_iinc (v := v12) (lv' := [(4, .int v12), (0, .ref (sz + b0)), (1, .int b1), (2, .int b2), (3, .int a3)]) hx hb dX8_latest_39 hl (k := 4) rfl (by rw [hvv12]; rfl) (by decide) (by first | rfl | simp [rv_cat, cat_i, cat_l, cat_r, cat_n]) (fun ls hl => ?_)
          refine lv_goto (tgt := 5) hx hb dX8_latest_42 (by decide) ?_
          exact ih a3 v12 H locs ls hM (lv_sub hl [1, 2, 3, 4, 0] rfl) h hk
        · replace h := (k_if h).2 c11
          refine lv_iload hx hb dX8_latest_36 (lv_at hl 4 rfl) ?_
          refine lv_istore_n (i := 3) (lv' := [(3, .int a4), (0, .ref (sz + b0)), (1, .int b1), (2, .int b2), (4, .int a4)]) hx hb dX8_latest_38 rfl hl (by decide) (by first | rfl | simp [rv_cat, cat_i, cat_l, cat_r, cat_n]) (fun ls hl => ?_)
          obtain ⟨v13, hvv13⟩ : ∃ y : Int32, y = a4 + (1) := ⟨_, rfl⟩
          replace h := k_bb h v13 hvv13
          refine lv_iinc (v := v13) (lv' := [(4, .int v13), (3, .int a4), (0, .ref (sz + b0)), (1, .int b1), (2, .int b2)]) hx hb dX8_latest_39 hl (k := 4) rfl (by rw [hvv13]; rfl) (by decide) (by first | rfl | simp [rv_cat, cat_i, cat_l, cat_r, cat_n]) (fun ls hl => ?_)
          refine lv_goto (tgt := 5) hx hb dX8_latest_42 (by decide) ?_
          exact ih a4 v13 H locs ls hM (lv_sub hl [2, 3, 4, 1, 0] rfl) h hk

def f_X8_latest (r : Nat) (p1 : Int32) (p2 : Int32) (u : Mm) : Option (Int32) := L_X8_latest_5 r p1 p2 u (fun a14 a15 => some a14) 1000 (-1 : Int32) (0 : Int32) 
set_option maxHeartbeats 4000000 in
set_option maxRecDepth 100000 in
theorem c_X8_latest (l : Launch) (D : va_G) (cy : Nat → ClassId) (sz : Nat) (H0 : Heap) (u : Mm) (r : Nat) (p1 : Int32) (p2 : Int32) {res : Int32} (h : f_X8_latest r p1 p2 u = some res) : Ctr l yX8_latest cX8_latest 5 (some .int) rm_X8_latest 0 0 D cy sz H0 u [.ref (sz + r), .int p1, .int p2] (some (.int res)) u := by
  refine m_start (lv := [(0, .ref (sz + r)), (1, .int p1), (2, .int p2)]) (by decide) (by first | exact Nat.le_of_ble_eq_true rfl | simp [lg_sl, rv_cat, cat_i, cat_l, cat_r, cat_n]) (by first | rfl | simp [lv_args, rv_cat, cat_i, cat_l, cat_r, cat_n]) ?_
  intro p e s m below meth c ls E hr hlk hinit hM hl
  obtain ⟨hx, hb, hml, hown, hts, hKK⟩ := id E
  obtain ⟨H, hH⟩ : ∃ H, H = s.heap := ⟨_, rfl⟩
  obtain ⟨locs, hlocs⟩ : ∃ L : List Loc, L = [] := ⟨_, rfl⟩
  rw [← hH, ← hlocs] at hM ⊢
  unfold f_X8_latest at h
  refine lv_iconst (v := (-1)) hx hb dX8_latest_0 (by decide) ?_
  refine lv_istore_n (i := 3) (lv' := [(3, .int (-1 : Int32)), (0, .ref (sz + r)), (1, .int p1), (2, .int p2)]) hx hb dX8_latest_1 rfl hl (by decide) (by first | rfl | simp [rv_cat, cat_i, cat_l, cat_r, cat_n]) (fun ls hl => ?_)
  refine lv_iconst (v := 0) hx hb dX8_latest_2 (by decide) ?_
  refine lv_istore (i := 4) (lv' := [(4, .int (0 : Int32)), (3, .int (-1 : Int32)), (0, .ref (sz + r)), (1, .int p1), (2, .int p2)]) hx hb dX8_latest_3 hl (by decide) (by first | rfl | simp [rv_cat, cat_i, cat_l, cat_r, cat_n]) (fun ls hl => ?_)
  refine lp_X8_latest_5 hr hlk  E 1000 (-1 : Int32) (0 : Int32) H locs ls hM (lv_sub hl [2, 3, 4, 1, 0] rfl) h (fun a14 a15 H locs ls hM hl h => ?_)
  refine lv_iload_n hx hb dX8_latest_45 rfl (lv_at hl 3 rfl) ?_
  cases h
  exact m_iret hx hb hr hlk hM rfl rfl dX8_latest_46

abbrev rm_X8_isOut : Room := { frames := 1, cells := 0, slots := 0, locals := 36 }
def f_X8_isOut (r : Nat) (p1 : Int32) (u : Mm) : Option (Int32) := gd (okO u r 8) (bd (f_X8_latest r p1 (100000 : Int32) u) (fun w2 => (if w2 < 0 then some (0 : Int32) else bb (gR u r 24) (fun x4 => cs x4 none (fun k5 => gd (okA u k5 9 w2) ((if (gI u k5 (Int32.toNatClampNeg w2)) < 0 then some (0 : Int32) else some (1 : Int32))))))))
set_option maxHeartbeats 4000000 in
set_option maxRecDepth 100000 in
theorem c_X8_isOut (l : Launch) (D : va_G) (cy : Nat → ClassId) (sz : Nat) (H0 : Heap) (u : Mm) (r : Nat) (p1 : Int32) {res : Int32} (h : f_X8_isOut r p1 u = some res) : Ctr l yX8_isOut cX8_isOut 3 (some .boolean) rm_X8_isOut 0 0 D cy sz H0 u [.ref (sz + r), .int p1] (some (.int res)) u := by
  refine m_start (lv := [(0, .ref (sz + r)), (1, .int p1)]) (by decide) (by first | exact Nat.le_of_ble_eq_true rfl | simp [lg_sl, rv_cat, cat_i, cat_l, cat_r, cat_n]) (by first | rfl | simp [lv_args, rv_cat, cat_i, cat_l, cat_r, cat_n]) ?_
  intro p e s m below meth c ls E hr hlk hinit hM hl
  obtain ⟨hx, hb, hml, hown, hts, hKK⟩ := id E
  obtain ⟨H, hH⟩ : ∃ H, H = s.heap := ⟨_, rfl⟩
  obtain ⟨locs, hlocs⟩ : ∃ L : List Loc, L = [] := ⟨_, rfl⟩
  rw [← hH, ← hlocs] at hM ⊢
  unfold f_X8_isOut at h
  refine lv_aload_n hx hb dX8_isOut_0 rfl (lv_at hl 0 rfl) ?_
  refine lv_iload_n hx hb dX8_isOut_1 rfl (lv_at hl 1 rfl) ?_
  refine lv_ldc hx hb hown (hts _ wk_X8_133) dX8_isOut_2 ?_
  obtain ⟨ok1, h⟩ := k_gd h
  obtain ⟨w2, hzw2, h⟩ := k_bd h
  refine m_callV (C := RX8) (T := TX8) (N := 33) (ci := 8) (n := 2) (As := [.int p1, .int (100000 : Int32)]) (rest := []) (st1 := (.int w2 :: [])) E hM hl.1 ok1 (by decide) rfl rfl (c_X8_latest l D cy sz H0 u r p1 (100000 : Int32) hzw2) wl_X8_169 wm_X8_latest ws_X8_latest wi_X8 wd_X8_latest rfl rfl (by decide +kernel) ⟨by decide, by decide⟩ rfl rfl (by first | exact Nat.le_of_ble_eq_true rfl | simp [rv_cat, cat_i, cat_l, cat_r, cat_n]) dX8_isOut_4 ⟨by decide, by decide⟩ rfl (fun H locs hM => ?_)
  refine lv_istore_n (i := 2) (lv' := [(2, .int w2), (0, .ref (sz + r)), (1, .int p1)]) hx hb dX8_isOut_7 rfl hl (by decide) (by first | rfl | simp [rv_cat, cat_i, cat_l, cat_r, cat_n]) (fun ls hl => ?_)
  refine lv_iload_n hx hb dX8_isOut_8 rfl (lv_at hl 0 rfl) ?_
  refine lv_if_lt (tgt := 25) hx hb dX8_isOut_9 (by decide) (fun c3 => ?_) (fun c3 => ?_)
  · replace h := (k_if h).1 c3
    refine lv_iconst (v := 0) hx hb dX8_isOut_25 (by decide) ?_
    cases h
    exact m_zret hx hb hr hlk hM (by decide) rfl rfl dX8_isOut_26
  · replace h := (k_if h).2 c3
    refine lv_aload_n hx hb dX8_isOut_12 rfl (lv_at hl 1 rfl) ?_
    refine gs_X8_69 E hM ok1 dX8_isOut_13 (fun x4 hxx4 => ?_)
    replace h := k_bb h x4 hxx4.symm
    refine lv_iload_n hx hb dX8_isOut_16 rfl (lv_at hl 0 rfl) ?_
    rcases x4 with _ | k5
    · cases h
    rw [cs_s] at h
    obtain ⟨ok6, h⟩ := k_gd h
    refine m_iald E hM ok6 dX8_isOut_17 ?_
    refine lv_if_lt (tgt := 25) hx hb dX8_isOut_18 (by decide) (fun c7 => ?_) (fun c7 => ?_)
    · replace h := (k_if h).1 c7
      refine lv_iconst (v := 0) hx hb dX8_isOut_25 (by decide) ?_
      cases h
      exact m_zret hx hb hr hlk hM (by decide) rfl rfl dX8_isOut_26
    · replace h := (k_if h).2 c7
      refine lv_iconst (v := 1) hx hb dX8_isOut_21 (by decide) ?_
      refine lv_goto (tgt := 26) hx hb dX8_isOut_22 (by decide) ?_
      cases h
      exact m_zret hx hb hr hlk hM (by decide) rfl rfl dX8_isOut_26

abbrev rm_X8_enter : Room := { frames := 0, cells := 0, slots := 0, locals := 0 }
def f_X8_enter (r : Nat) (p1 : Int32) (p2 : Int32) (p3 : Int32) (u : Mm) : Option (Mm) := gd (okO u r 8) (bb (gR u r 23) (fun x2 => cs x2 none (fun k3 => gd (okA u k3 9 (gI u r 22)) (bb (gR (sI u k3 (Int32.toNatClampNeg (gI u r 22)) p1) r 24) (fun x5 => cs x5 none (fun k6 => gd (okA (sI u k3 (Int32.toNatClampNeg (gI u r 22)) p1) k6 9 (gI (sI u k3 (Int32.toNatClampNeg (gI u r 22)) p1) r 22)) (bb (gR (sI (sI u k3 (Int32.toNatClampNeg (gI u r 22)) p1) k6 (Int32.toNatClampNeg (gI (sI u k3 (Int32.toNatClampNeg (gI u r 22)) p1) r 22)) p2) r 25) (fun x8 => cs x8 none (fun k9 => gd (okA (sI (sI u k3 (Int32.toNatClampNeg (gI u r 22)) p1) k6 (Int32.toNatClampNeg (gI (sI u k3 (Int32.toNatClampNeg (gI u r 22)) p1) r 22)) p2) k9 9 (gI (sI (sI u k3 (Int32.toNatClampNeg (gI u r 22)) p1) k6 (Int32.toNatClampNeg (gI (sI u k3 (Int32.toNatClampNeg (gI u r 22)) p1) r 22)) p2) r 22)) (some (sI (sI (sI (sI u k3 (Int32.toNatClampNeg (gI u r 22)) p1) k6 (Int32.toNatClampNeg (gI (sI u k3 (Int32.toNatClampNeg (gI u r 22)) p1) r 22)) p2) k9 (Int32.toNatClampNeg (gI (sI (sI u k3 (Int32.toNatClampNeg (gI u r 22)) p1) k6 (Int32.toNatClampNeg (gI (sI u k3 (Int32.toNatClampNeg (gI u r 22)) p1) r 22)) p2) r 22)) p3) r 22 ((gI (sI (sI (sI u k3 (Int32.toNatClampNeg (gI u r 22)) p1) k6 (Int32.toNatClampNeg (gI (sI u k3 (Int32.toNatClampNeg (gI u r 22)) p1) r 22)) p2) k9 (Int32.toNatClampNeg (gI (sI (sI u k3 (Int32.toNatClampNeg (gI u r 22)) p1) k6 (Int32.toNatClampNeg (gI (sI u k3 (Int32.toNatClampNeg (gI u r 22)) p1) r 22)) p2) r 22)) p3) r 22) + (1 : Int32)))))))))))))
set_option maxHeartbeats 4000000 in
set_option maxRecDepth 100000 in
theorem c_X8_enter (l : Launch) (D : va_G) (cy : Nat → ClassId) (sz : Nat) (H0 : Heap) (u : Mm) (r : Nat) (p1 : Int32) (p2 : Int32) (p3 : Int32) {res : Mm} (h : f_X8_enter r p1 p2 p3 u = some res) : Ctr l yX8_enter cX8_enter 4 none rm_X8_enter 0 0 D cy sz H0 u [.ref (sz + r), .int p1, .int p2, .int p3] none res := by
  refine m_start (lv := [(0, .ref (sz + r)), (1, .int p1), (2, .int p2), (3, .int p3)]) (by decide) (by first | exact Nat.le_of_ble_eq_true rfl | simp [lg_sl, rv_cat, cat_i, cat_l, cat_r, cat_n]) (by first | rfl | simp [lv_args, rv_cat, cat_i, cat_l, cat_r, cat_n]) ?_
  intro p e s m below meth c ls E hr hlk hinit hM hl
  obtain ⟨hx, hb, hml, hown, hts, hKK⟩ := id E
  obtain ⟨H, hH⟩ : ∃ H, H = s.heap := ⟨_, rfl⟩
  obtain ⟨locs, hlocs⟩ : ∃ L : List Loc, L = [] := ⟨_, rfl⟩
  rw [← hH, ← hlocs] at hM ⊢
  unfold f_X8_enter at h
  refine lv_aload_n hx hb dX8_enter_0 rfl (lv_at hl 0 rfl) ?_
  obtain ⟨ok1, h⟩ := k_gd h
  refine gs_X8_66 E hM ok1 dX8_enter_1 (fun x2 hxx2 => ?_)
  replace h := k_bb h x2 hxx2.symm
  refine lv_aload_n hx hb dX8_enter_4 rfl (lv_at hl 0 rfl) ?_
  refine gs_X8_166 E hM ok1 dX8_enter_5 ?_
  refine lv_iload_n hx hb dX8_enter_8 rfl (lv_at hl 1 rfl) ?_
  rcases x2 with _ | k3
  · cases h
  rw [cs_s] at h
  obtain ⟨ok4, h⟩ := k_gd h
  refine m_iast E hM ok4 dX8_enter_9 (fun H locs hM => ?_)
  refine lv_aload_n hx hb dX8_enter_10 rfl (lv_at hl 0 rfl) ?_
  refine gs_X8_69 E hM ok1 dX8_enter_11 (fun x5 hxx5 => ?_)
  replace h := k_bb h x5 hxx5.symm
  refine lv_aload_n hx hb dX8_enter_14 rfl (lv_at hl 0 rfl) ?_
  refine gs_X8_166 E hM ok1 dX8_enter_15 ?_
  refine lv_iload_n hx hb dX8_enter_18 rfl (lv_at hl 2 rfl) ?_
  rcases x5 with _ | k6
  · cases h
  rw [cs_s] at h
  obtain ⟨ok7, h⟩ := k_gd h
  refine m_iast E hM ok7 dX8_enter_19 (fun H locs hM => ?_)
  refine lv_aload_n hx hb dX8_enter_20 rfl (lv_at hl 0 rfl) ?_
  refine gs_X8_72 E hM ok1 dX8_enter_21 (fun x8 hxx8 => ?_)
  replace h := k_bb h x8 hxx8.symm
  refine lv_aload_n hx hb dX8_enter_24 rfl (lv_at hl 0 rfl) ?_
  refine gs_X8_166 E hM ok1 dX8_enter_25 ?_
  refine lv_iload_n hx hb dX8_enter_28 rfl (lv_at hl 3 rfl) ?_
  rcases x8 with _ | k9
  · cases h
  rw [cs_s] at h
  obtain ⟨ok10, h⟩ := k_gd h
  refine m_iast E hM ok10 dX8_enter_29 (fun H locs hM => ?_)
  refine lv_aload_n hx hb dX8_enter_30 rfl (lv_at hl 0 rfl) ?_
  refine lv_dup hx hb dX8_enter_31 rfl ?_
  refine gs_X8_166 E hM ok1 dX8_enter_32 ?_
  refine lv_iconst (v := 1) hx hb dX8_enter_35 (by decide) ?_
  refine lv_iadd hx hb dX8_enter_36 ?_
  refine ps_X8_166 (v := ((gI (sI (sI (sI u k3 (Int32.toNatClampNeg (gI u r 22)) p1) k6 (Int32.toNatClampNeg (gI (sI u k3 (Int32.toNatClampNeg (gI u r 22)) p1) r 22)) p2) k9 (Int32.toNatClampNeg (gI (sI (sI u k3 (Int32.toNatClampNeg (gI u r 22)) p1) k6 (Int32.toNatClampNeg (gI (sI u k3 (Int32.toNatClampNeg (gI u r 22)) p1) r 22)) p2) r 22)) p3) r 22) + (1 : Int32))) E hM ok1 dX8_enter_37 (fun H locs hM => ?_)
  cases h
  exact m_vret hx hb hr hlk hM rfl dX8_enter_40

abbrev rm_X8_fetch : Room := { frames := 2, cells := 0, slots := 0, locals := 72 }
def f_X8_fetch (r : Nat) (p1 : Int32) (p2 : Int32) (p3 : Int32) (u : Mm) : Option ((Int32) × Mm) := gd (okO u r 8) (bd (f_X8_isThing r p1 (sI (sI u r 1 (0 : Int32)) r 0 (0 : Int32))) (fun w2 => (if w2 = 0 then bd (f_X8_no r (2 : Int32) (sI (sI u r 1 (0 : Int32)) r 0 (0 : Int32))) (fun w4 => gd (isB w4.1) (some (w4.1, w4.2))) else bd (f_X8_isPerson p2 (sI (sI u r 1 (0 : Int32)) r 0 (0 : Int32))) (fun w6 => (if w6 = 0 then bd (f_X8_no r (2 : Int32) (sI (sI u r 1 (0 : Int32)) r 0 (0 : Int32))) (fun w23 => gd (isB w23.1) (some (w23.1, w23.2))) else bd (f_X8_lastTick r (sI (sI u r 1 (0 : Int32)) r 0 (0 : Int32))) (fun w8 => (if p3 < w8 then bd (f_X8_no r (5 : Int32) (sI (sI u r 1 (0 : Int32)) r 0 (0 : Int32))) (fun w10 => gd (isB w10.1) (some (w10.1, w10.2))) else (if p3 ≤ (100000 : Int32) then (if (gI (sI (sI u r 1 (0 : Int32)) r 0 (0 : Int32)) r 22) = (200 : Int32) then bd (f_X8_no r (7 : Int32) (sI (sI u r 1 (0 : Int32)) r 0 (0 : Int32))) (fun w19 => gd (isB w19.1) (some (w19.1, w19.2))) else bd (f_X8_isOut r p1 (sI (sI u r 1 (0 : Int32)) r 0 (0 : Int32))) (fun w14 => (if w14 = 0 then bd (f_X8_enter r p1 p2 p3 (sI (sI u r 1 (0 : Int32)) r 0 (0 : Int32))) (fun w16 => some ((1 : Int32), w16)) else bd (f_X8_no r (10 : Int32) (sI (sI u r 1 (0 : Int32)) r 0 (0 : Int32))) (fun w17 => gd (isB w17.1) (some (w17.1, w17.2)))))) else bd (f_X8_no r (5 : Int32) (sI (sI u r 1 (0 : Int32)) r 0 (0 : Int32))) (fun w21 => gd (isB w21.1) (some (w21.1, w21.2)))))))))))
set_option maxHeartbeats 4000000 in
set_option maxRecDepth 100000 in
theorem c_X8_fetch (l : Launch) (D : va_G) (cy : Nat → ClassId) (sz : Nat) (H0 : Heap) (u : Mm) (r : Nat) (p1 : Int32) (p2 : Int32) (p3 : Int32) {res : (Int32) × Mm} (h : f_X8_fetch r p1 p2 p3 u = some res) : Ctr l yX8_fetch cX8_fetch 4 (some .boolean) rm_X8_fetch 0 0 D cy sz H0 u [.ref (sz + r), .int p1, .int p2, .int p3] (some (.int res.1)) res.2 := by
  refine m_start (lv := [(0, .ref (sz + r)), (1, .int p1), (2, .int p2), (3, .int p3)]) (by decide) (by first | exact Nat.le_of_ble_eq_true rfl | simp [lg_sl, rv_cat, cat_i, cat_l, cat_r, cat_n]) (by first | rfl | simp [lv_args, rv_cat, cat_i, cat_l, cat_r, cat_n]) ?_
  intro p e s m below meth c ls E hr hlk hinit hM hl
  obtain ⟨hx, hb, hml, hown, hts, hKK⟩ := id E
  obtain ⟨H, hH⟩ : ∃ H, H = s.heap := ⟨_, rfl⟩
  obtain ⟨locs, hlocs⟩ : ∃ L : List Loc, L = [] := ⟨_, rfl⟩
  rw [← hH, ← hlocs] at hM ⊢
  unfold f_X8_fetch at h
  refine lv_aload_n hx hb dX8_fetch_0 rfl (lv_at hl 0 rfl) ?_
  refine lv_iconst (v := 0) hx hb dX8_fetch_1 (by decide) ?_
  obtain ⟨ok1, h⟩ := k_gd h
  refine ps_X8_93 (v := (0 : Int32)) E hM ok1 dX8_fetch_2 (fun H locs hM => ?_)
  refine lv_aload_n hx hb dX8_fetch_5 rfl (lv_at hl 0 rfl) ?_
  refine lv_iconst (v := 0) hx hb dX8_fetch_6 (by decide) ?_
  refine ps_X8_97 (v := (0 : Int32)) E hM ok1 dX8_fetch_7 (fun H locs hM => ?_)
  refine lv_aload_n hx hb dX8_fetch_10 rfl (lv_at hl 0 rfl) ?_
  refine lv_iload_n hx hb dX8_fetch_11 rfl (lv_at hl 1 rfl) ?_
  obtain ⟨w2, hzw2, h⟩ := k_bd h
  refine m_callV (C := RX8) (T := TX8) (N := 33) (ci := 8) (n := 1) (As := [.int p1]) (rest := []) (st1 := (.int w2 :: [])) E hM hl.1 ok1 (by decide) rfl rfl (c_X8_isThing l D cy sz H0 (sI (sI u r 1 (0 : Int32)) r 0 (0 : Int32)) r p1 hzw2) wl_X8_124 wm_X8_isThing ws_X8_isThing wi_X8 wd_X8_isThing rfl rfl (by decide +kernel) ⟨by decide, by decide⟩ rfl rfl (by first | exact Nat.le_of_ble_eq_true rfl | simp [rv_cat, cat_i, cat_l, cat_r, cat_n]) dX8_fetch_12 ⟨by decide, by decide⟩ rfl (fun H locs hM => ?_)
  refine lv_if_eq (tgt := 25) hx hb dX8_fetch_15 (by decide) (fun c3 => ?_) (fun c3 => ?_)
  · replace h := (k_if h).1 c3
    refine lv_aload_n hx hb dX8_fetch_25 rfl (lv_at hl 0 rfl) ?_
    refine lv_iconst (v := 2) hx hb dX8_fetch_26 (by decide) ?_
    obtain ⟨w4, hzw4, h⟩ := k_bd h
    refine m_callV (C := RX8) (T := TX8) (N := 33) (ci := 8) (n := 1) (As := [.int (2 : Int32)]) (rest := []) (st1 := (.int w4.1 :: [])) E hM hl.1 ok1 (by decide) rfl rfl (c_X8_no l D cy sz H0 (sI (sI u r 1 (0 : Int32)) r 0 (0 : Int32)) r (2 : Int32) hzw4) wl_X8_100 wm_X8_no ws_X8_no wi_X8 wd_X8_no rfl rfl (by decide +kernel) ⟨by decide, by decide⟩ rfl rfl (by first | exact Nat.le_of_ble_eq_true rfl | simp [rv_cat, cat_i, cat_l, cat_r, cat_n]) dX8_fetch_27 ⟨by decide, by decide⟩ rfl (fun H locs hM => ?_)
    obtain ⟨hB5, h⟩ := k_gd h
    cases h
    exact m_zret hx hb hr hlk hM hB5 rfl rfl dX8_fetch_30
  · replace h := (k_if h).2 c3
    refine lv_iload_n hx hb dX8_fetch_18 rfl (lv_at hl 2 rfl) ?_
    obtain ⟨w6, hzw6, h⟩ := k_bd h
    refine m_callS (n := 1) (As := [.int p2]) (rest := []) (st1 := (.int w6 :: [])) E hM hl.1 (c_X8_isPerson l D cy sz H0 (sI (sI u r 1 (0 : Int32)) r 0 (0 : Int32)) p2 hzw6) wl_X8_148 wst_X8_isPerson wi_X8 wd_X8_isPerson rfl rfl (by decide +kernel) ⟨by decide, by decide⟩ rfl rfl (by first | exact Nat.le_of_ble_eq_true rfl | simp [rv_cat, cat_i, cat_l, cat_r, cat_n]) dX8_fetch_19 ⟨by decide, by decide⟩ rfl (fun H locs hM => ?_)
    refine lv_if_ne (tgt := 31) hx hb dX8_fetch_22 (by decide) (fun c7 => ?_) (fun c7 => ?_)
    · replace h := (k_if h).2 c7
      refine lv_iload_n hx hb dX8_fetch_31 rfl (lv_at hl 3 rfl) ?_
      refine lv_aload_n hx hb dX8_fetch_32 rfl (lv_at hl 0 rfl) ?_
      obtain ⟨w8, hzw8, h⟩ := k_bd h
      refine m_callV (C := RX8) (T := TX8) (N := 33) (ci := 8) (n := 0) (As := []) (rest := [.int p3]) (st1 := (.int w8 :: [.int p3])) E hM hl.1 ok1 (by decide) rfl rfl (c_X8_lastTick l D cy sz H0 (sI (sI u r 1 (0 : Int32)) r 0 (0 : Int32)) r hzw8) wl_X8_172 wm_X8_lastTick ws_X8_lastTick wi_X8 wd_X8_lastTick rfl rfl (by decide +kernel) ⟨by decide, by decide⟩ rfl rfl (by first | exact Nat.le_of_ble_eq_true rfl | simp [rv_cat, cat_i, cat_l, cat_r, cat_n]) dX8_fetch_33 ⟨by decide, by decide⟩ rfl (fun H locs hM => ?_)
      refine lv_icmp_lt (tgt := 45) hx hb dX8_fetch_36 (by decide) (fun c9 => ?_) (fun c9 => ?_)
      · replace h := (k_if h).1 c9
        refine lv_aload_n hx hb dX8_fetch_45 rfl (lv_at hl 0 rfl) ?_
        refine lv_iconst (v := 5) hx hb dX8_fetch_46 (by decide) ?_
        obtain ⟨w10, hzw10, h⟩ := k_bd h
        refine m_callV (C := RX8) (T := TX8) (N := 33) (ci := 8) (n := 1) (As := [.int (5 : Int32)]) (rest := []) (st1 := (.int w10.1 :: [])) E hM hl.1 ok1 (by decide) rfl rfl (c_X8_no l D cy sz H0 (sI (sI u r 1 (0 : Int32)) r 0 (0 : Int32)) r (5 : Int32) hzw10) wl_X8_100 wm_X8_no ws_X8_no wi_X8 wd_X8_no rfl rfl (by decide +kernel) ⟨by decide, by decide⟩ rfl rfl (by first | exact Nat.le_of_ble_eq_true rfl | simp [rv_cat, cat_i, cat_l, cat_r, cat_n]) dX8_fetch_47 ⟨by decide, by decide⟩ rfl (fun H locs hM => ?_)
        obtain ⟨hB11, h⟩ := k_gd h
        cases h
        exact m_zret hx hb hr hlk hM hB11 rfl rfl dX8_fetch_50
      · replace h := (k_if h).2 c9
        refine lv_iload_n hx hb dX8_fetch_39 rfl (lv_at hl 3 rfl) ?_
        refine lv_ldc hx hb hown (hts _ wk_X8_133) dX8_fetch_40 ?_
        refine lv_icmp_le (tgt := 51) hx hb dX8_fetch_42 (by decide) (fun c12 => ?_) (fun c12 => ?_)
        · replace h := (k_if h).1 c12
          refine lv_aload_n hx hb dX8_fetch_51 rfl (lv_at hl 0 rfl) ?_
          refine gs_X8_166 E hM ok1 dX8_fetch_52 ?_
          refine lv_sipush (v := 200) hx hb dX8_fetch_55 (by decide) ?_
          refine lv_icmp_ne (tgt := 68) hx hb dX8_fetch_58 (by decide) (fun c13 => ?_) (fun c13 => ?_)
          · replace h := (k_if h).2 c13
            refine lv_aload_n hx hb dX8_fetch_68 rfl (lv_at hl 0 rfl) ?_
            refine lv_iload_n hx hb dX8_fetch_69 rfl (lv_at hl 1 rfl) ?_
            obtain ⟨w14, hzw14, h⟩ := k_bd h
            refine m_callV (C := RX8) (T := TX8) (N := 33) (ci := 8) (n := 1) (As := [.int p1]) (rest := []) (st1 := (.int w14 :: [])) E hM hl.1 ok1 (by decide) rfl rfl (c_X8_isOut l D cy sz H0 (sI (sI u r 1 (0 : Int32)) r 0 (0 : Int32)) r p1 hzw14) wl_X8_176 wm_X8_isOut ws_X8_isOut wi_X8 wd_X8_isOut rfl rfl (by decide +kernel) ⟨by decide, by decide⟩ rfl rfl (by first | exact Nat.le_of_ble_eq_true rfl | simp [rv_cat, cat_i, cat_l, cat_r, cat_n]) dX8_fetch_70 ⟨by decide, by decide⟩ rfl (fun H locs hM => ?_)
            refine lv_if_eq (tgt := 83) hx hb dX8_fetch_73 (by decide) (fun c15 => ?_) (fun c15 => ?_)
            · replace h := (k_if h).1 c15
              refine lv_aload_n hx hb dX8_fetch_83 rfl (lv_at hl 0 rfl) ?_
              refine lv_iload_n hx hb dX8_fetch_84 rfl (lv_at hl 1 rfl) ?_
              refine lv_iload_n hx hb dX8_fetch_85 rfl (lv_at hl 2 rfl) ?_
              refine lv_iload_n hx hb dX8_fetch_86 rfl (lv_at hl 3 rfl) ?_
              obtain ⟨w16, hzw16, h⟩ := k_bd h
              refine m_callV (C := RX8) (T := TX8) (N := 33) (ci := 8) (n := 3) (As := [.int p1, .int p2, .int p3]) (rest := []) (st1 := []) E hM hl.1 ok1 (by decide) rfl rfl (c_X8_enter l D cy sz H0 (sI (sI u r 1 (0 : Int32)) r 0 (0 : Int32)) r p1 p2 p3 hzw16) wl_X8_179 wm_X8_enter ws_X8_enter wi_X8 wd_X8_enter rfl rfl (by decide +kernel) ⟨by decide, by decide⟩ rfl rfl (by first | exact Nat.le_of_ble_eq_true rfl | simp [rv_cat, cat_i, cat_l, cat_r, cat_n]) dX8_fetch_87 ⟨by decide, by decide⟩ rfl (fun H locs hM => ?_)
              refine lv_iconst (v := 1) hx hb dX8_fetch_90 (by decide) ?_
              cases h
              exact m_zret hx hb hr hlk hM (by decide) rfl rfl dX8_fetch_91
            · replace h := (k_if h).2 c15
              refine lv_aload_n hx hb dX8_fetch_76 rfl (lv_at hl 0 rfl) ?_
              refine lv_bipush (v := 10) hx hb dX8_fetch_77 (by decide) ?_
              obtain ⟨w17, hzw17, h⟩ := k_bd h
              refine m_callV (C := RX8) (T := TX8) (N := 33) (ci := 8) (n := 1) (As := [.int (10 : Int32)]) (rest := []) (st1 := (.int w17.1 :: [])) E hM hl.1 ok1 (by decide) rfl rfl (c_X8_no l D cy sz H0 (sI (sI u r 1 (0 : Int32)) r 0 (0 : Int32)) r (10 : Int32) hzw17) wl_X8_100 wm_X8_no ws_X8_no wi_X8 wd_X8_no rfl rfl (by decide +kernel) ⟨by decide, by decide⟩ rfl rfl (by first | exact Nat.le_of_ble_eq_true rfl | simp [rv_cat, cat_i, cat_l, cat_r, cat_n]) dX8_fetch_79 ⟨by decide, by decide⟩ rfl (fun H locs hM => ?_)
              obtain ⟨hB18, h⟩ := k_gd h
              cases h
              exact m_zret hx hb hr hlk hM hB18 rfl rfl dX8_fetch_82
          · replace h := (k_if h).1 c13
            refine lv_aload_n hx hb dX8_fetch_61 rfl (lv_at hl 0 rfl) ?_
            refine lv_bipush (v := 7) hx hb dX8_fetch_62 (by decide) ?_
            obtain ⟨w19, hzw19, h⟩ := k_bd h
            refine m_callV (C := RX8) (T := TX8) (N := 33) (ci := 8) (n := 1) (As := [.int (7 : Int32)]) (rest := []) (st1 := (.int w19.1 :: [])) E hM hl.1 ok1 (by decide) rfl rfl (c_X8_no l D cy sz H0 (sI (sI u r 1 (0 : Int32)) r 0 (0 : Int32)) r (7 : Int32) hzw19) wl_X8_100 wm_X8_no ws_X8_no wi_X8 wd_X8_no rfl rfl (by decide +kernel) ⟨by decide, by decide⟩ rfl rfl (by first | exact Nat.le_of_ble_eq_true rfl | simp [rv_cat, cat_i, cat_l, cat_r, cat_n]) dX8_fetch_64 ⟨by decide, by decide⟩ rfl (fun H locs hM => ?_)
            obtain ⟨hB20, h⟩ := k_gd h
            cases h
            exact m_zret hx hb hr hlk hM hB20 rfl rfl dX8_fetch_67
        · replace h := (k_if h).2 c12
          refine lv_aload_n hx hb dX8_fetch_45 rfl (lv_at hl 0 rfl) ?_
          refine lv_iconst (v := 5) hx hb dX8_fetch_46 (by decide) ?_
          obtain ⟨w21, hzw21, h⟩ := k_bd h
          refine m_callV (C := RX8) (T := TX8) (N := 33) (ci := 8) (n := 1) (As := [.int (5 : Int32)]) (rest := []) (st1 := (.int w21.1 :: [])) E hM hl.1 ok1 (by decide) rfl rfl (c_X8_no l D cy sz H0 (sI (sI u r 1 (0 : Int32)) r 0 (0 : Int32)) r (5 : Int32) hzw21) wl_X8_100 wm_X8_no ws_X8_no wi_X8 wd_X8_no rfl rfl (by decide +kernel) ⟨by decide, by decide⟩ rfl rfl (by first | exact Nat.le_of_ble_eq_true rfl | simp [rv_cat, cat_i, cat_l, cat_r, cat_n]) dX8_fetch_47 ⟨by decide, by decide⟩ rfl (fun H locs hM => ?_)
          obtain ⟨hB22, h⟩ := k_gd h
          cases h
          exact m_zret hx hb hr hlk hM hB22 rfl rfl dX8_fetch_50
    · replace h := (k_if h).1 c7
      refine lv_aload_n hx hb dX8_fetch_25 rfl (lv_at hl 0 rfl) ?_
      refine lv_iconst (v := 2) hx hb dX8_fetch_26 (by decide) ?_
      obtain ⟨w23, hzw23, h⟩ := k_bd h
      refine m_callV (C := RX8) (T := TX8) (N := 33) (ci := 8) (n := 1) (As := [.int (2 : Int32)]) (rest := []) (st1 := (.int w23.1 :: [])) E hM hl.1 ok1 (by decide) rfl rfl (c_X8_no l D cy sz H0 (sI (sI u r 1 (0 : Int32)) r 0 (0 : Int32)) r (2 : Int32) hzw23) wl_X8_100 wm_X8_no ws_X8_no wi_X8 wd_X8_no rfl rfl (by decide +kernel) ⟨by decide, by decide⟩ rfl rfl (by first | exact Nat.le_of_ble_eq_true rfl | simp [rv_cat, cat_i, cat_l, cat_r, cat_n]) dX8_fetch_27 ⟨by decide, by decide⟩ rfl (fun H locs hM => ?_)
      obtain ⟨hB24, h⟩ := k_gd h
      cases h
      exact m_zret hx hb hr hlk hM hB24 rfl rfl dX8_fetch_30

abbrev rm_X8_back : Room := { frames := 2, cells := 0, slots := 0, locals := 72 }
def f_X8_back (r : Nat) (p1 : Int32) (p2 : Int32) (u : Mm) : Option ((Int32) × Mm) := gd (okO u r 8) (bd (f_X8_isThing r p1 (sI (sI u r 1 (0 : Int32)) r 0 (0 : Int32))) (fun w2 => (if w2 = 0 then bd (f_X8_no r (2 : Int32) (sI (sI u r 1 (0 : Int32)) r 0 (0 : Int32))) (fun w19 => gd (isB w19.1) (some (w19.1, w19.2))) else bd (f_X8_lastTick r (sI (sI u r 1 (0 : Int32)) r 0 (0 : Int32))) (fun w4 => (if p2 < w4 then bd (f_X8_no r (5 : Int32) (sI (sI u r 1 (0 : Int32)) r 0 (0 : Int32))) (fun w6 => gd (isB w6.1) (some (w6.1, w6.2))) else (if p2 ≤ (100000 : Int32) then (if (gI (sI (sI u r 1 (0 : Int32)) r 0 (0 : Int32)) r 22) = (200 : Int32) then bd (f_X8_no r (7 : Int32) (sI (sI u r 1 (0 : Int32)) r 0 (0 : Int32))) (fun w15 => gd (isB w15.1) (some (w15.1, w15.2))) else bd (f_X8_isOut r p1 (sI (sI u r 1 (0 : Int32)) r 0 (0 : Int32))) (fun w10 => (if w10 = 0 then bd (f_X8_no r (10 : Int32) (sI (sI u r 1 (0 : Int32)) r 0 (0 : Int32))) (fun w13 => gd (isB w13.1) (some (w13.1, w13.2))) else bd (f_X8_enter r p1 (-1 : Int32) p2 (sI (sI u r 1 (0 : Int32)) r 0 (0 : Int32))) (fun w12 => some ((1 : Int32), w12))))) else bd (f_X8_no r (5 : Int32) (sI (sI u r 1 (0 : Int32)) r 0 (0 : Int32))) (fun w17 => gd (isB w17.1) (some (w17.1, w17.2)))))))))
set_option maxHeartbeats 4000000 in
set_option maxRecDepth 100000 in
theorem c_X8_back (l : Launch) (D : va_G) (cy : Nat → ClassId) (sz : Nat) (H0 : Heap) (u : Mm) (r : Nat) (p1 : Int32) (p2 : Int32) {res : (Int32) × Mm} (h : f_X8_back r p1 p2 u = some res) : Ctr l yX8_back cX8_back 3 (some .boolean) rm_X8_back 0 0 D cy sz H0 u [.ref (sz + r), .int p1, .int p2] (some (.int res.1)) res.2 := by
  refine m_start (lv := [(0, .ref (sz + r)), (1, .int p1), (2, .int p2)]) (by decide) (by first | exact Nat.le_of_ble_eq_true rfl | simp [lg_sl, rv_cat, cat_i, cat_l, cat_r, cat_n]) (by first | rfl | simp [lv_args, rv_cat, cat_i, cat_l, cat_r, cat_n]) ?_
  intro p e s m below meth c ls E hr hlk hinit hM hl
  obtain ⟨hx, hb, hml, hown, hts, hKK⟩ := id E
  obtain ⟨H, hH⟩ : ∃ H, H = s.heap := ⟨_, rfl⟩
  obtain ⟨locs, hlocs⟩ : ∃ L : List Loc, L = [] := ⟨_, rfl⟩
  rw [← hH, ← hlocs] at hM ⊢
  unfold f_X8_back at h
  refine lv_aload_n hx hb dX8_back_0 rfl (lv_at hl 0 rfl) ?_
  refine lv_iconst (v := 0) hx hb dX8_back_1 (by decide) ?_
  obtain ⟨ok1, h⟩ := k_gd h
  refine ps_X8_93 (v := (0 : Int32)) E hM ok1 dX8_back_2 (fun H locs hM => ?_)
  refine lv_aload_n hx hb dX8_back_5 rfl (lv_at hl 0 rfl) ?_
  refine lv_iconst (v := 0) hx hb dX8_back_6 (by decide) ?_
  refine ps_X8_97 (v := (0 : Int32)) E hM ok1 dX8_back_7 (fun H locs hM => ?_)
  refine lv_aload_n hx hb dX8_back_10 rfl (lv_at hl 0 rfl) ?_
  refine lv_iload_n hx hb dX8_back_11 rfl (lv_at hl 1 rfl) ?_
  obtain ⟨w2, hzw2, h⟩ := k_bd h
  refine m_callV (C := RX8) (T := TX8) (N := 33) (ci := 8) (n := 1) (As := [.int p1]) (rest := []) (st1 := (.int w2 :: [])) E hM hl.1 ok1 (by decide) rfl rfl (c_X8_isThing l D cy sz H0 (sI (sI u r 1 (0 : Int32)) r 0 (0 : Int32)) r p1 hzw2) wl_X8_124 wm_X8_isThing ws_X8_isThing wi_X8 wd_X8_isThing rfl rfl (by decide +kernel) ⟨by decide, by decide⟩ rfl rfl (by first | exact Nat.le_of_ble_eq_true rfl | simp [rv_cat, cat_i, cat_l, cat_r, cat_n]) dX8_back_12 ⟨by decide, by decide⟩ rfl (fun H locs hM => ?_)
  refine lv_if_ne (tgt := 24) hx hb dX8_back_15 (by decide) (fun c3 => ?_) (fun c3 => ?_)
  · replace h := (k_if h).2 c3
    refine lv_iload_n hx hb dX8_back_24 rfl (lv_at hl 2 rfl) ?_
    refine lv_aload_n hx hb dX8_back_25 rfl (lv_at hl 0 rfl) ?_
    obtain ⟨w4, hzw4, h⟩ := k_bd h
    refine m_callV (C := RX8) (T := TX8) (N := 33) (ci := 8) (n := 0) (As := []) (rest := [.int p2]) (st1 := (.int w4 :: [.int p2])) E hM hl.1 ok1 (by decide) rfl rfl (c_X8_lastTick l D cy sz H0 (sI (sI u r 1 (0 : Int32)) r 0 (0 : Int32)) r hzw4) wl_X8_172 wm_X8_lastTick ws_X8_lastTick wi_X8 wd_X8_lastTick rfl rfl (by decide +kernel) ⟨by decide, by decide⟩ rfl rfl (by first | exact Nat.le_of_ble_eq_true rfl | simp [rv_cat, cat_i, cat_l, cat_r, cat_n]) dX8_back_26 ⟨by decide, by decide⟩ rfl (fun H locs hM => ?_)
    refine lv_icmp_lt (tgt := 38) hx hb dX8_back_29 (by decide) (fun c5 => ?_) (fun c5 => ?_)
    · replace h := (k_if h).1 c5
      refine lv_aload_n hx hb dX8_back_38 rfl (lv_at hl 0 rfl) ?_
      refine lv_iconst (v := 5) hx hb dX8_back_39 (by decide) ?_
      obtain ⟨w6, hzw6, h⟩ := k_bd h
      refine m_callV (C := RX8) (T := TX8) (N := 33) (ci := 8) (n := 1) (As := [.int (5 : Int32)]) (rest := []) (st1 := (.int w6.1 :: [])) E hM hl.1 ok1 (by decide) rfl rfl (c_X8_no l D cy sz H0 (sI (sI u r 1 (0 : Int32)) r 0 (0 : Int32)) r (5 : Int32) hzw6) wl_X8_100 wm_X8_no ws_X8_no wi_X8 wd_X8_no rfl rfl (by decide +kernel) ⟨by decide, by decide⟩ rfl rfl (by first | exact Nat.le_of_ble_eq_true rfl | simp [rv_cat, cat_i, cat_l, cat_r, cat_n]) dX8_back_40 ⟨by decide, by decide⟩ rfl (fun H locs hM => ?_)
      obtain ⟨hB7, h⟩ := k_gd h
      cases h
      exact m_zret hx hb hr hlk hM hB7 rfl rfl dX8_back_43
    · replace h := (k_if h).2 c5
      refine lv_iload_n hx hb dX8_back_32 rfl (lv_at hl 2 rfl) ?_
      refine lv_ldc hx hb hown (hts _ wk_X8_133) dX8_back_33 ?_
      refine lv_icmp_le (tgt := 44) hx hb dX8_back_35 (by decide) (fun c8 => ?_) (fun c8 => ?_)
      · replace h := (k_if h).1 c8
        refine lv_aload_n hx hb dX8_back_44 rfl (lv_at hl 0 rfl) ?_
        refine gs_X8_166 E hM ok1 dX8_back_45 ?_
        refine lv_sipush (v := 200) hx hb dX8_back_48 (by decide) ?_
        refine lv_icmp_ne (tgt := 61) hx hb dX8_back_51 (by decide) (fun c9 => ?_) (fun c9 => ?_)
        · replace h := (k_if h).2 c9
          refine lv_aload_n hx hb dX8_back_61 rfl (lv_at hl 0 rfl) ?_
          refine lv_iload_n hx hb dX8_back_62 rfl (lv_at hl 1 rfl) ?_
          obtain ⟨w10, hzw10, h⟩ := k_bd h
          refine m_callV (C := RX8) (T := TX8) (N := 33) (ci := 8) (n := 1) (As := [.int p1]) (rest := []) (st1 := (.int w10 :: [])) E hM hl.1 ok1 (by decide) rfl rfl (c_X8_isOut l D cy sz H0 (sI (sI u r 1 (0 : Int32)) r 0 (0 : Int32)) r p1 hzw10) wl_X8_176 wm_X8_isOut ws_X8_isOut wi_X8 wd_X8_isOut rfl rfl (by decide +kernel) ⟨by decide, by decide⟩ rfl rfl (by first | exact Nat.le_of_ble_eq_true rfl | simp [rv_cat, cat_i, cat_l, cat_r, cat_n]) dX8_back_63 ⟨by decide, by decide⟩ rfl (fun H locs hM => ?_)
          refine lv_if_ne (tgt := 76) hx hb dX8_back_66 (by decide) (fun c11 => ?_) (fun c11 => ?_)
          · replace h := (k_if h).2 c11
            refine lv_aload_n hx hb dX8_back_76 rfl (lv_at hl 0 rfl) ?_
            refine lv_iload_n hx hb dX8_back_77 rfl (lv_at hl 1 rfl) ?_
            refine lv_iconst (v := (-1)) hx hb dX8_back_78 (by decide) ?_
            refine lv_iload_n hx hb dX8_back_79 rfl (lv_at hl 2 rfl) ?_
            obtain ⟨w12, hzw12, h⟩ := k_bd h
            refine m_callV (C := RX8) (T := TX8) (N := 33) (ci := 8) (n := 3) (As := [.int p1, .int (-1 : Int32), .int p2]) (rest := []) (st1 := []) E hM hl.1 ok1 (by decide) rfl rfl (c_X8_enter l D cy sz H0 (sI (sI u r 1 (0 : Int32)) r 0 (0 : Int32)) r p1 (-1 : Int32) p2 hzw12) wl_X8_179 wm_X8_enter ws_X8_enter wi_X8 wd_X8_enter rfl rfl (by decide +kernel) ⟨by decide, by decide⟩ rfl rfl (by first | exact Nat.le_of_ble_eq_true rfl | simp [rv_cat, cat_i, cat_l, cat_r, cat_n]) dX8_back_80 ⟨by decide, by decide⟩ rfl (fun H locs hM => ?_)
            refine lv_iconst (v := 1) hx hb dX8_back_83 (by decide) ?_
            cases h
            exact m_zret hx hb hr hlk hM (by decide) rfl rfl dX8_back_84
          · replace h := (k_if h).1 c11
            refine lv_aload_n hx hb dX8_back_69 rfl (lv_at hl 0 rfl) ?_
            refine lv_bipush (v := 10) hx hb dX8_back_70 (by decide) ?_
            obtain ⟨w13, hzw13, h⟩ := k_bd h
            refine m_callV (C := RX8) (T := TX8) (N := 33) (ci := 8) (n := 1) (As := [.int (10 : Int32)]) (rest := []) (st1 := (.int w13.1 :: [])) E hM hl.1 ok1 (by decide) rfl rfl (c_X8_no l D cy sz H0 (sI (sI u r 1 (0 : Int32)) r 0 (0 : Int32)) r (10 : Int32) hzw13) wl_X8_100 wm_X8_no ws_X8_no wi_X8 wd_X8_no rfl rfl (by decide +kernel) ⟨by decide, by decide⟩ rfl rfl (by first | exact Nat.le_of_ble_eq_true rfl | simp [rv_cat, cat_i, cat_l, cat_r, cat_n]) dX8_back_72 ⟨by decide, by decide⟩ rfl (fun H locs hM => ?_)
            obtain ⟨hB14, h⟩ := k_gd h
            cases h
            exact m_zret hx hb hr hlk hM hB14 rfl rfl dX8_back_75
        · replace h := (k_if h).1 c9
          refine lv_aload_n hx hb dX8_back_54 rfl (lv_at hl 0 rfl) ?_
          refine lv_bipush (v := 7) hx hb dX8_back_55 (by decide) ?_
          obtain ⟨w15, hzw15, h⟩ := k_bd h
          refine m_callV (C := RX8) (T := TX8) (N := 33) (ci := 8) (n := 1) (As := [.int (7 : Int32)]) (rest := []) (st1 := (.int w15.1 :: [])) E hM hl.1 ok1 (by decide) rfl rfl (c_X8_no l D cy sz H0 (sI (sI u r 1 (0 : Int32)) r 0 (0 : Int32)) r (7 : Int32) hzw15) wl_X8_100 wm_X8_no ws_X8_no wi_X8 wd_X8_no rfl rfl (by decide +kernel) ⟨by decide, by decide⟩ rfl rfl (by first | exact Nat.le_of_ble_eq_true rfl | simp [rv_cat, cat_i, cat_l, cat_r, cat_n]) dX8_back_57 ⟨by decide, by decide⟩ rfl (fun H locs hM => ?_)
          obtain ⟨hB16, h⟩ := k_gd h
          cases h
          exact m_zret hx hb hr hlk hM hB16 rfl rfl dX8_back_60
      · replace h := (k_if h).2 c8
        refine lv_aload_n hx hb dX8_back_38 rfl (lv_at hl 0 rfl) ?_
        refine lv_iconst (v := 5) hx hb dX8_back_39 (by decide) ?_
        obtain ⟨w17, hzw17, h⟩ := k_bd h
        refine m_callV (C := RX8) (T := TX8) (N := 33) (ci := 8) (n := 1) (As := [.int (5 : Int32)]) (rest := []) (st1 := (.int w17.1 :: [])) E hM hl.1 ok1 (by decide) rfl rfl (c_X8_no l D cy sz H0 (sI (sI u r 1 (0 : Int32)) r 0 (0 : Int32)) r (5 : Int32) hzw17) wl_X8_100 wm_X8_no ws_X8_no wi_X8 wd_X8_no rfl rfl (by decide +kernel) ⟨by decide, by decide⟩ rfl rfl (by first | exact Nat.le_of_ble_eq_true rfl | simp [rv_cat, cat_i, cat_l, cat_r, cat_n]) dX8_back_40 ⟨by decide, by decide⟩ rfl (fun H locs hM => ?_)
        obtain ⟨hB18, h⟩ := k_gd h
        cases h
        exact m_zret hx hb hr hlk hM hB18 rfl rfl dX8_back_43
  · replace h := (k_if h).1 c3
    refine lv_aload_n hx hb dX8_back_18 rfl (lv_at hl 0 rfl) ?_
    refine lv_iconst (v := 2) hx hb dX8_back_19 (by decide) ?_
    obtain ⟨w19, hzw19, h⟩ := k_bd h
    refine m_callV (C := RX8) (T := TX8) (N := 33) (ci := 8) (n := 1) (As := [.int (2 : Int32)]) (rest := []) (st1 := (.int w19.1 :: [])) E hM hl.1 ok1 (by decide) rfl rfl (c_X8_no l D cy sz H0 (sI (sI u r 1 (0 : Int32)) r 0 (0 : Int32)) r (2 : Int32) hzw19) wl_X8_100 wm_X8_no ws_X8_no wi_X8 wd_X8_no rfl rfl (by decide +kernel) ⟨by decide, by decide⟩ rfl rfl (by first | exact Nat.le_of_ble_eq_true rfl | simp [rv_cat, cat_i, cat_l, cat_r, cat_n]) dX8_back_20 ⟨by decide, by decide⟩ rfl (fun H locs hM => ?_)
    obtain ⟨hB20, h⟩ := k_gd h
    cases h
    exact m_zret hx hb hr hlk hM hB20 rfl rfl dX8_back_23

abbrev rm_X8_where : Room := { frames := 1, cells := 0, slots := 0, locals := 36 }
def L_X8_where_42 (b0 : Nat) (b1 : Int32) (b2 : Int32) (u : Mm) (k : Int32 → Option ((Int32) × Mm)) : Nat → Int32 → Option ((Int32) × Mm)
  | 0, _ => none
  | n + 1, a3 => (if a3 < 0 then k a3 else gd (okO u b0 8) (bd (f_X8_latest b0 a3 b2 u) (fun w9 => (if w9 < 0 then bb (gR u b0 9) (fun x11 => cs x11 none (fun k12 => gd (okA u k12 9 a3) (bb ((gI u k12 (Int32.toNatClampNeg a3))) (fun v14 => L_X8_where_42 b0 b1 b2 u k n v14)))) else bb (gR u b0 24) (fun x15 => cs x15 none (fun k16 => gd (okA u k16 9 w9) ((if (gI u k16 (Int32.toNatClampNeg w9)) < 0 then bb (gR u b0 9) (fun x19 => cs x19 none (fun k20 => gd (okA u k20 9 a3) (bb ((gI u k20 (Int32.toNatClampNeg a3))) (fun v22 => L_X8_where_42 b0 b1 b2 u k n v22)))) else bb (gR u b0 24) (fun x23 => cs x23 none (fun k24 => gd (okA u k24 9 w9) (some ((gI u k24 (Int32.toNatClampNeg w9)), u))))))))))))
set_option maxHeartbeats 4000000 in
set_option maxRecDepth 100000 in
theorem lp_X8_where_42 {p : Program} {l : Launch} {e : Env} {s : State} {m : MethodId} {args : Array Value} {below : List Frame} {meth : Method} {c : Code} {D : va_G} {cy : Nat → ClassId} {sz : Nat} {H0 : Heap} {b0 : Nat} {b1 : Int32} {b2 : Int32} {u : Mm} {k : Int32 → Option ((Int32) × Mm)} {res : (Int32) × Mm} (hr : meth.sig.returnType = (some .int)) (hlk : meth.locks = false) (E : EE p s m args c cX8_where 5 RX8 D cy) : ∀ (n : Nat) (a3 : Int32) (H : Heap) (locs : List Loc) (ls : Array Slot), MM D cy sz H0 u H locs → lv_has ls 5 [(0, .ref (sz + b0)), (1, .int b1), (2, .int b2), (3, .int a3)] → L_X8_where_42 b0 b1 b2 u k n a3 = some res → (∀ (a3 : Int32) (H : Heap) (locs : List Loc) (ls : Array Slot), MM D cy sz H0 u H locs → lv_has ls 5 [(0, .ref (sz + b0)), (1, .int b1), (2, .int b2), (3, .int a3)] → k a3 = some res → W p l e rm_X8_where s m args below meth c H locs 0 0 (MQ below (Post D cy sz H0 (some (.int res.1)) res.2) args s 0 0 (fun q => sz ≤ q)) (F0 m 87 ls [])) → W p l e rm_X8_where s m args below meth c H locs 0 0 (MQ below (Post D cy sz H0 (some (.int res.1)) res.2) args s 0 0 (fun q => sz ≤ q)) (F0 m 42 ls []) := by
  obtain ⟨hx, hb, hml, hown, hts, hKK⟩ := id E
  intro n
  induction n with
  | zero => intros; rename_i h _; cases h
  | succ n ih =>
    intro a3 H locs ls hM hl h hk
    rw [L_X8_where_42] at h
    refine lv_iload_n hx hb dX8_where_42 rfl (lv_at hl 3 rfl) ?_
    refine lv_if_lt (tgt := 87) hx hb dX8_where_43 (by decide) (fun c7 => ?_) (fun c7 => ?_)
    · replace h := (k_if h).1 c7
      exact hk a3 H locs ls hM (lv_sub hl [0, 1, 2, 3] rfl) h
    · replace h := (k_if h).2 c7
      refine lv_aload_n hx hb dX8_where_46 rfl (lv_at hl 0 rfl) ?_
      refine lv_iload_n hx hb dX8_where_47 rfl (lv_at hl 3 rfl) ?_
      refine lv_iload_n hx hb dX8_where_48 rfl (lv_at hl 2 rfl) ?_
      obtain ⟨ok8, h⟩ := k_gd h
      obtain ⟨w9, hzw9, h⟩ := k_bd h
      refine m_callV (C := RX8) (T := TX8) (N := 33) (ci := 8) (n := 2) (As := [.int a3, .int b2]) (rest := []) (st1 := (.int w9 :: [])) E hM hl.1 ok8 (by decide) rfl rfl (c_X8_latest l D cy sz H0 u b0 a3 b2 hzw9) wl_X8_169 wm_X8_latest ws_X8_latest wi_X8 wd_X8_latest rfl rfl (by decide +kernel) ⟨by decide, by decide⟩ rfl rfl (by first | exact Nat.le_of_ble_eq_true rfl | simp [rv_cat, cat_i, cat_l, cat_r, cat_n]) dX8_where_49 ⟨by decide, by decide⟩ rfl (fun H locs hM => ?_)
      refine lv_istore (i := 4) (lv' := [(4, .int w9), (0, .ref (sz + b0)), (1, .int b1), (2, .int b2), (3, .int a3)]) hx hb dX8_where_52 hl (by decide) (by first | rfl | simp [rv_cat, cat_i, cat_l, cat_r, cat_n]) (fun ls hl => ?_)
      refine lv_iload hx hb dX8_where_54 (lv_at hl 0 rfl) ?_
      refine lv_if_lt (tgt := 77) hx hb dX8_where_56 (by decide) (fun c10 => ?_) (fun c10 => ?_)
      · replace h := (k_if h).1 c10
        refine lv_aload_n hx hb dX8_where_77 rfl (lv_at hl 1 rfl) ?_
        refine gs_X8_27 E hM ok8 dX8_where_78 (fun x11 hxx11 => ?_)
        replace h := k_bb h x11 hxx11.symm
        refine lv_iload_n hx hb dX8_where_81 rfl (lv_at hl 4 rfl) ?_
        rcases x11 with _ | k12
        · cases h
        rw [cs_s] at h
        obtain ⟨ok13, h⟩ := k_gd h
        refine m_iald E hM ok13 dX8_where_82 ?_
        refine lv_topi (fun v14 hvv14 => ?_)
        replace h := k_bb h v14 hvv14
        refine lv_istore_n (i := 3) (lv' := [(3, .int v14), (4, .int w9), (0, .ref (sz + b0)), (1, .int b1), (2, .int b2)]) hx hb dX8_where_83 rfl hl (by decide) (by first | rfl | simp [rv_cat, cat_i, cat_l, cat_r, cat_n]) (fun ls hl => ?_)
        refine lv_goto (tgt := 42) hx hb dX8_where_84 (by decide) ?_
        exact ih v14 H locs ls hM (lv_sub hl [2, 3, 4, 0] rfl) h hk
      · replace h := (k_if h).2 c10
        refine lv_aload_n hx hb dX8_where_59 rfl (lv_at hl 1 rfl) ?_
        refine gs_X8_69 E hM ok8 dX8_where_60 (fun x15 hxx15 => ?_)
        replace h := k_bb h x15 hxx15.symm
        refine lv_iload hx hb dX8_where_63 (lv_at hl 0 rfl) ?_
        rcases x15 with _ | k16
        · cases h
        rw [cs_s] at h
        obtain ⟨ok17, h⟩ := k_gd h
        refine m_iald E hM ok17 dX8_where_65 ?_
        refine lv_if_lt (tgt := 77) hx hb dX8_where_66 (by decide) (fun c18 => ?_) (fun c18 => ?_)
        · replace h := (k_if h).1 c18
          refine lv_aload_n hx hb dX8_where_77 rfl (lv_at hl 1 rfl) ?_
          refine gs_X8_27 E hM ok8 dX8_where_78 (fun x19 hxx19 => ?_)
          replace h := k_bb h x19 hxx19.symm
          refine lv_iload_n hx hb dX8_where_81 rfl (lv_at hl 4 rfl) ?_
          rcases x19 with _ | k20
          · cases h
          rw [cs_s] at h
          obtain ⟨ok21, h⟩ := k_gd h
          refine m_iald E hM ok21 dX8_where_82 ?_
          refine lv_topi (fun v22 hvv22 => ?_)
          replace h := k_bb h v22 hvv22
          refine lv_istore_n (i := 3) (lv' := [(3, .int v22), (4, .int w9), (0, .ref (sz + b0)), (1, .int b1), (2, .int b2)]) hx hb dX8_where_83 rfl hl (by decide) (by first | rfl | simp [rv_cat, cat_i, cat_l, cat_r, cat_n]) (fun ls hl => ?_)
          refine lv_goto (tgt := 42) hx hb dX8_where_84 (by decide) ?_
          exact ih v22 H locs ls hM (lv_sub hl [2, 3, 4, 0] rfl) h hk
        · replace h := (k_if h).2 c18
          refine lv_aload_n hx hb dX8_where_69 rfl (lv_at hl 1 rfl) ?_
          refine gs_X8_69 E hM ok8 dX8_where_70 (fun x23 hxx23 => ?_)
          replace h := k_bb h x23 hxx23.symm
          refine lv_iload hx hb dX8_where_73 (lv_at hl 0 rfl) ?_
          rcases x23 with _ | k24
          · cases h
          rw [cs_s] at h
          obtain ⟨ok25, h⟩ := k_gd h
          refine m_iald E hM ok25 dX8_where_75 ?_
          cases h
          exact m_iret hx hb hr hlk hM rfl rfl dX8_where_76

def f_X8_where (r : Nat) (p1 : Int32) (p2 : Int32) (u : Mm) : Option ((Int32) × Mm) := gd (okO u r 8) (bd (f_X8_isThing r p1 (sI (sI u r 1 (0 : Int32)) r 0 (0 : Int32))) (fun w2 => (if w2 = 0 then bd (f_X8_refuse r (2 : Int32) (sI (sI u r 1 (0 : Int32)) r 0 (0 : Int32))) (fun w28 => some (w28.1, w28.2)) else (if p2 < 0 then bd (f_X8_refuse r (5 : Int32) (sI (sI u r 1 (0 : Int32)) r 0 (0 : Int32))) (fun w5 => some (w5.1, w5.2)) else (if p2 ≤ (100000 : Int32) then L_X8_where_42 r p1 p2 (sI (sI u r 1 (0 : Int32)) r 0 (0 : Int32)) (fun a26 => some ((-1 : Int32), (sI (sI u r 1 (0 : Int32)) r 0 (0 : Int32)))) 1000 p1  else bd (f_X8_refuse r (5 : Int32) (sI (sI u r 1 (0 : Int32)) r 0 (0 : Int32))) (fun w27 => some (w27.1, w27.2)))))))
set_option maxHeartbeats 4000000 in
set_option maxRecDepth 100000 in
theorem c_X8_where (l : Launch) (D : va_G) (cy : Nat → ClassId) (sz : Nat) (H0 : Heap) (u : Mm) (r : Nat) (p1 : Int32) (p2 : Int32) {res : (Int32) × Mm} (h : f_X8_where r p1 p2 u = some res) : Ctr l yX8_where cX8_where 5 (some .int) rm_X8_where 0 0 D cy sz H0 u [.ref (sz + r), .int p1, .int p2] (some (.int res.1)) res.2 := by
  refine m_start (lv := [(0, .ref (sz + r)), (1, .int p1), (2, .int p2)]) (by decide) (by first | exact Nat.le_of_ble_eq_true rfl | simp [lg_sl, rv_cat, cat_i, cat_l, cat_r, cat_n]) (by first | rfl | simp [lv_args, rv_cat, cat_i, cat_l, cat_r, cat_n]) ?_
  intro p e s m below meth c ls E hr hlk hinit hM hl
  obtain ⟨hx, hb, hml, hown, hts, hKK⟩ := id E
  obtain ⟨H, hH⟩ : ∃ H, H = s.heap := ⟨_, rfl⟩
  obtain ⟨locs, hlocs⟩ : ∃ L : List Loc, L = [] := ⟨_, rfl⟩
  rw [← hH, ← hlocs] at hM ⊢
  unfold f_X8_where at h
  refine lv_aload_n hx hb dX8_where_0 rfl (lv_at hl 0 rfl) ?_
  refine lv_iconst (v := 0) hx hb dX8_where_1 (by decide) ?_
  obtain ⟨ok1, h⟩ := k_gd h
  refine ps_X8_93 (v := (0 : Int32)) E hM ok1 dX8_where_2 (fun H locs hM => ?_)
  refine lv_aload_n hx hb dX8_where_5 rfl (lv_at hl 0 rfl) ?_
  refine lv_iconst (v := 0) hx hb dX8_where_6 (by decide) ?_
  refine ps_X8_97 (v := (0 : Int32)) E hM ok1 dX8_where_7 (fun H locs hM => ?_)
  refine lv_aload_n hx hb dX8_where_10 rfl (lv_at hl 0 rfl) ?_
  refine lv_iload_n hx hb dX8_where_11 rfl (lv_at hl 1 rfl) ?_
  obtain ⟨w2, hzw2, h⟩ := k_bd h
  refine m_callV (C := RX8) (T := TX8) (N := 33) (ci := 8) (n := 1) (As := [.int p1]) (rest := []) (st1 := (.int w2 :: [])) E hM hl.1 ok1 (by decide) rfl rfl (c_X8_isThing l D cy sz H0 (sI (sI u r 1 (0 : Int32)) r 0 (0 : Int32)) r p1 hzw2) wl_X8_124 wm_X8_isThing ws_X8_isThing wi_X8 wd_X8_isThing rfl rfl (by decide +kernel) ⟨by decide, by decide⟩ rfl rfl (by first | exact Nat.le_of_ble_eq_true rfl | simp [rv_cat, cat_i, cat_l, cat_r, cat_n]) dX8_where_12 ⟨by decide, by decide⟩ rfl (fun H locs hM => ?_)
  refine lv_if_ne (tgt := 24) hx hb dX8_where_15 (by decide) (fun c3 => ?_) (fun c3 => ?_)
  · replace h := (k_if h).2 c3
    refine lv_iload_n hx hb dX8_where_24 rfl (lv_at hl 2 rfl) ?_
    refine lv_if_lt (tgt := 34) hx hb dX8_where_25 (by decide) (fun c4 => ?_) (fun c4 => ?_)
    · replace h := (k_if h).1 c4
      refine lv_aload_n hx hb dX8_where_34 rfl (lv_at hl 0 rfl) ?_
      refine lv_iconst (v := 5) hx hb dX8_where_35 (by decide) ?_
      obtain ⟨w5, hzw5, h⟩ := k_bd h
      refine m_callV (C := RX8) (T := TX8) (N := 33) (ci := 8) (n := 1) (As := [.int (5 : Int32)]) (rest := []) (st1 := (.int w5.1 :: [])) E hM hl.1 ok1 (by decide) rfl rfl (c_X8_refuse l D cy sz H0 (sI (sI u r 1 (0 : Int32)) r 0 (0 : Int32)) r (5 : Int32) hzw5) wl_X8_121 wm_X8_refuse ws_X8_refuse wi_X8 wd_X8_refuse rfl rfl (by decide +kernel) ⟨by decide, by decide⟩ rfl rfl (by first | exact Nat.le_of_ble_eq_true rfl | simp [rv_cat, cat_i, cat_l, cat_r, cat_n]) dX8_where_36 ⟨by decide, by decide⟩ rfl (fun H locs hM => ?_)
      cases h
      exact m_iret hx hb hr hlk hM rfl rfl dX8_where_39
    · replace h := (k_if h).2 c4
      refine lv_iload_n hx hb dX8_where_28 rfl (lv_at hl 2 rfl) ?_
      refine lv_ldc hx hb hown (hts _ wk_X8_133) dX8_where_29 ?_
      refine lv_icmp_le (tgt := 40) hx hb dX8_where_31 (by decide) (fun c6 => ?_) (fun c6 => ?_)
      · replace h := (k_if h).1 c6
        refine lv_iload_n hx hb dX8_where_40 rfl (lv_at hl 1 rfl) ?_
        refine lv_istore_n (i := 3) (lv' := [(3, .int p1), (0, .ref (sz + r)), (1, .int p1), (2, .int p2)]) hx hb dX8_where_41 rfl hl (by decide) (by first | rfl | simp [rv_cat, cat_i, cat_l, cat_r, cat_n]) (fun ls hl => ?_)
        refine lp_X8_where_42 hr hlk  E 1000 p1 H locs ls hM (lv_sub hl [1, 2, 3, 0] rfl) h (fun a26 H locs ls hM hl h => ?_)
        refine lv_iconst (v := (-1)) hx hb dX8_where_87 (by decide) ?_
        cases h
        exact m_iret hx hb hr hlk hM rfl rfl dX8_where_88
      · replace h := (k_if h).2 c6
        refine lv_aload_n hx hb dX8_where_34 rfl (lv_at hl 0 rfl) ?_
        refine lv_iconst (v := 5) hx hb dX8_where_35 (by decide) ?_
        obtain ⟨w27, hzw27, h⟩ := k_bd h
        refine m_callV (C := RX8) (T := TX8) (N := 33) (ci := 8) (n := 1) (As := [.int (5 : Int32)]) (rest := []) (st1 := (.int w27.1 :: [])) E hM hl.1 ok1 (by decide) rfl rfl (c_X8_refuse l D cy sz H0 (sI (sI u r 1 (0 : Int32)) r 0 (0 : Int32)) r (5 : Int32) hzw27) wl_X8_121 wm_X8_refuse ws_X8_refuse wi_X8 wd_X8_refuse rfl rfl (by decide +kernel) ⟨by decide, by decide⟩ rfl rfl (by first | exact Nat.le_of_ble_eq_true rfl | simp [rv_cat, cat_i, cat_l, cat_r, cat_n]) dX8_where_36 ⟨by decide, by decide⟩ rfl (fun H locs hM => ?_)
        cases h
        exact m_iret hx hb hr hlk hM rfl rfl dX8_where_39
  · replace h := (k_if h).1 c3
    refine lv_aload_n hx hb dX8_where_18 rfl (lv_at hl 0 rfl) ?_
    refine lv_iconst (v := 2) hx hb dX8_where_19 (by decide) ?_
    obtain ⟨w28, hzw28, h⟩ := k_bd h
    refine m_callV (C := RX8) (T := TX8) (N := 33) (ci := 8) (n := 1) (As := [.int (2 : Int32)]) (rest := []) (st1 := (.int w28.1 :: [])) E hM hl.1 ok1 (by decide) rfl rfl (c_X8_refuse l D cy sz H0 (sI (sI u r 1 (0 : Int32)) r 0 (0 : Int32)) r (2 : Int32) hzw28) wl_X8_121 wm_X8_refuse ws_X8_refuse wi_X8 wd_X8_refuse rfl rfl (by decide +kernel) ⟨by decide, by decide⟩ rfl rfl (by first | exact Nat.le_of_ble_eq_true rfl | simp [rv_cat, cat_i, cat_l, cat_r, cat_n]) dX8_where_20 ⟨by decide, by decide⟩ rfl (fun H locs hM => ?_)
    cases h
    exact m_iret hx hb hr hlk hM rfl rfl dX8_where_23

abbrev rm_X8_boxed : Room := { frames := 1, cells := 0, slots := 0, locals := 36 }
def f_X8_boxed (r : Nat) (p1 : Int32) (p2 : Int32) (u : Mm) : Option (Int32) := gd (okO u r 8) (bd (f_X8_isThing r p1 u) (fun w2 => (if w2 = 0 then some (2 : Int32) else (if p2 < (-1 : Int32) then some (2 : Int32) else (if p2 < (40 : Int32) then bb (gR u r 8) (fun x6 => cs x6 none (fun k7 => gd (okA u k7 9 p1) ((if (gI u k7 (Int32.toNatClampNeg p1)) = (1 : Int32) then some (0 : Int32) else some (8 : Int32))))) else some (2 : Int32))))))
set_option maxHeartbeats 4000000 in
set_option maxRecDepth 100000 in
theorem c_X8_boxed (l : Launch) (D : va_G) (cy : Nat → ClassId) (sz : Nat) (H0 : Heap) (u : Mm) (r : Nat) (p1 : Int32) (p2 : Int32) {res : Int32} (h : f_X8_boxed r p1 p2 u = some res) : Ctr l yX8_boxed cX8_boxed 3 (some .int) rm_X8_boxed 0 0 D cy sz H0 u [.ref (sz + r), .int p1, .int p2] (some (.int res)) u := by
  refine m_start (lv := [(0, .ref (sz + r)), (1, .int p1), (2, .int p2)]) (by decide) (by first | exact Nat.le_of_ble_eq_true rfl | simp [lg_sl, rv_cat, cat_i, cat_l, cat_r, cat_n]) (by first | rfl | simp [lv_args, rv_cat, cat_i, cat_l, cat_r, cat_n]) ?_
  intro p e s m below meth c ls E hr hlk hinit hM hl
  obtain ⟨hx, hb, hml, hown, hts, hKK⟩ := id E
  obtain ⟨H, hH⟩ : ∃ H, H = s.heap := ⟨_, rfl⟩
  obtain ⟨locs, hlocs⟩ : ∃ L : List Loc, L = [] := ⟨_, rfl⟩
  rw [← hH, ← hlocs] at hM ⊢
  unfold f_X8_boxed at h
  refine lv_aload_n hx hb dX8_boxed_0 rfl (lv_at hl 0 rfl) ?_
  refine lv_iload_n hx hb dX8_boxed_1 rfl (lv_at hl 1 rfl) ?_
  obtain ⟨ok1, h⟩ := k_gd h
  obtain ⟨w2, hzw2, h⟩ := k_bd h
  refine m_callV (C := RX8) (T := TX8) (N := 33) (ci := 8) (n := 1) (As := [.int p1]) (rest := []) (st1 := (.int w2 :: [])) E hM hl.1 ok1 (by decide) rfl rfl (c_X8_isThing l D cy sz H0 u r p1 hzw2) wl_X8_124 wm_X8_isThing ws_X8_isThing wi_X8 wd_X8_isThing rfl rfl (by decide +kernel) ⟨by decide, by decide⟩ rfl rfl (by first | exact Nat.le_of_ble_eq_true rfl | simp [rv_cat, cat_i, cat_l, cat_r, cat_n]) dX8_boxed_2 ⟨by decide, by decide⟩ rfl (fun H locs hM => ?_)
  refine lv_if_eq (tgt := 19) hx hb dX8_boxed_5 (by decide) (fun c3 => ?_) (fun c3 => ?_)
  · replace h := (k_if h).1 c3
    refine lv_iconst (v := 2) hx hb dX8_boxed_19 (by decide) ?_
    cases h
    exact m_iret hx hb hr hlk hM rfl rfl dX8_boxed_20
  · replace h := (k_if h).2 c3
    refine lv_iload_n hx hb dX8_boxed_8 rfl (lv_at hl 2 rfl) ?_
    refine lv_iconst (v := (-1)) hx hb dX8_boxed_9 (by decide) ?_
    refine lv_icmp_lt (tgt := 19) hx hb dX8_boxed_10 (by decide) (fun c4 => ?_) (fun c4 => ?_)
    · replace h := (k_if h).1 c4
      refine lv_iconst (v := 2) hx hb dX8_boxed_19 (by decide) ?_
      cases h
      exact m_iret hx hb hr hlk hM rfl rfl dX8_boxed_20
    · replace h := (k_if h).2 c4
      refine lv_iload_n hx hb dX8_boxed_13 rfl (lv_at hl 2 rfl) ?_
      refine lv_bipush (v := 40) hx hb dX8_boxed_14 (by decide) ?_
      refine lv_icmp_lt (tgt := 21) hx hb dX8_boxed_16 (by decide) (fun c5 => ?_) (fun c5 => ?_)
      · replace h := (k_if h).1 c5
        refine lv_aload_n hx hb dX8_boxed_21 rfl (lv_at hl 0 rfl) ?_
        refine gs_X8_24 E hM ok1 dX8_boxed_22 (fun x6 hxx6 => ?_)
        replace h := k_bb h x6 hxx6.symm
        refine lv_iload_n hx hb dX8_boxed_25 rfl (lv_at hl 1 rfl) ?_
        rcases x6 with _ | k7
        · cases h
        rw [cs_s] at h
        obtain ⟨ok8, h⟩ := k_gd h
        refine m_iald E hM ok8 dX8_boxed_26 ?_
        refine lv_iconst (v := 1) hx hb dX8_boxed_27 (by decide) ?_
        refine lv_icmp_ne (tgt := 35) hx hb dX8_boxed_28 (by decide) (fun c9 => ?_) (fun c9 => ?_)
        · replace h := (k_if h).2 c9
          refine lv_bipush (v := 8) hx hb dX8_boxed_35 (by decide) ?_
          cases h
          exact m_iret hx hb hr hlk hM rfl rfl dX8_boxed_37
        · replace h := (k_if h).1 c9
          refine lv_iconst (v := 0) hx hb dX8_boxed_31 (by decide) ?_
          refine lv_goto (tgt := 37) hx hb dX8_boxed_32 (by decide) ?_
          cases h
          exact m_iret hx hb hr hlk hM rfl rfl dX8_boxed_37
      · replace h := (k_if h).2 c5
        refine lv_iconst (v := 2) hx hb dX8_boxed_19 (by decide) ?_
        cases h
        exact m_iret hx hb hr hlk hM rfl rfl dX8_boxed_20

abbrev rm_X8_stand : Room := { frames := 2, cells := 0, slots := 0, locals := 72 }
def L_X8_stand_26 (b0 : Nat) (b1 : Int32) (b2 : Int32) (u : Mm) (k : Int32 → Option ((Int32) × Mm)) : Nat → Int32 → Option ((Int32) × Mm)
  | 0, _ => none
  | n + 1, a3 => gd (okO u b0 8) ((if (gI u b0 7) ≤ a3 then k a3 else (if b2 < 0 then bb (a3 + (1)) (fun v7 => L_X8_stand_26 b0 b1 b2 u k n v7) else (if a3 = b1 then bb (a3 + (1)) (fun v9 => L_X8_stand_26 b0 b1 b2 u k n v9) else bb (gR u b0 18) (fun x10 => cs x10 none (fun k11 => gd (okA u k11 9 a3) ((if (gI u k11 (Int32.toNatClampNeg a3)) = b2 then bd (f_X8_no b0 (10 : Int32) u) (fun w15 => gd (isB w15.1) (some (w15.1, w15.2))) else bb (a3 + (1)) (fun v14 => L_X8_stand_26 b0 b1 b2 u k n v14)))))))))
set_option maxHeartbeats 4000000 in
set_option maxRecDepth 100000 in
theorem lp_X8_stand_26 {p : Program} {l : Launch} {e : Env} {s : State} {m : MethodId} {args : Array Value} {below : List Frame} {meth : Method} {c : Code} {D : va_G} {cy : Nat → ClassId} {sz : Nat} {H0 : Heap} {b0 : Nat} {b1 : Int32} {b2 : Int32} {u : Mm} {k : Int32 → Option ((Int32) × Mm)} {res : (Int32) × Mm} (hr : meth.sig.returnType = (some .boolean)) (hlk : meth.locks = false) (E : EE p s m args c cX8_stand 4 RX8 D cy) : ∀ (n : Nat) (a3 : Int32) (H : Heap) (locs : List Loc) (ls : Array Slot), MM D cy sz H0 u H locs → lv_has ls 4 [(0, .ref (sz + b0)), (1, .int b1), (2, .int b2), (3, .int a3)] → L_X8_stand_26 b0 b1 b2 u k n a3 = some res → (∀ (a3 : Int32) (H : Heap) (locs : List Loc) (ls : Array Slot), MM D cy sz H0 u H locs → lv_has ls 4 [(0, .ref (sz + b0)), (1, .int b1), (2, .int b2), (3, .int a3)] → k a3 = some res → W p l e rm_X8_stand s m args below meth c H locs 0 0 (MQ below (Post D cy sz H0 (some (.int res.1)) res.2) args s 0 0 (fun q => sz ≤ q)) (F0 m 66 ls [])) → W p l e rm_X8_stand s m args below meth c H locs 0 0 (MQ below (Post D cy sz H0 (some (.int res.1)) res.2) args s 0 0 (fun q => sz ≤ q)) (F0 m 26 ls []) := by
  obtain ⟨hx, hb, hml, hown, hts, hKK⟩ := id E
  intro n
  induction n with
  | zero => intros; rename_i h _; cases h
  | succ n ih =>
    intro a3 H locs ls hM hl h hk
    rw [L_X8_stand_26] at h
    refine lv_iload_n hx hb dX8_stand_26 rfl (lv_at hl 3 rfl) ?_
    refine lv_aload_n hx hb dX8_stand_27 rfl (lv_at hl 0 rfl) ?_
    obtain ⟨ok4, h⟩ := k_gd h
    refine gs_X8_118 E hM ok4 dX8_stand_28 ?_
    refine lv_icmp_ge (tgt := 66) hx hb dX8_stand_31 (by decide) (fun c5 => ?_) (fun c5 => ?_)
    · replace h := (k_if h).1 c5
      exact hk a3 H locs ls hM (lv_sub hl [0, 1, 2, 3] rfl) h
    · replace h := (k_if h).2 c5
      refine lv_iload_n hx hb dX8_stand_34 rfl (lv_at hl 2 rfl) ?_
      refine lv_if_lt (tgt := 60) hx hb dX8_stand_35 (by decide) (fun c6 => ?_) (fun c6 => ?_)
      · replace h := (k_if h).1 c6
        obtain ⟨v7, hvv7⟩ : ∃ y : Int32, y = a3 + (1) := ⟨_, rfl⟩
        replace h := k_bb h v7 hvv7
        refine lv_iinc (v := v7) (lv' := [(3, .int v7), (0, .ref (sz + b0)), (1, .int b1), (2, .int b2)]) hx hb dX8_stand_60 hl (k := 3) rfl (by rw [hvv7]; rfl) (by decide) (by first | rfl | simp [rv_cat, cat_i, cat_l, cat_r, cat_n]) (fun ls hl => ?_)
        refine lv_goto (tgt := 26) hx hb dX8_stand_63 (by decide) ?_
        exact ih v7 H locs ls hM (lv_sub hl [1, 2, 3, 0] rfl) h hk
      · replace h := (k_if h).2 c6
        refine lv_iload_n hx hb dX8_stand_38 rfl (lv_at hl 3 rfl) ?_
        refine lv_iload_n hx hb dX8_stand_39 rfl (lv_at hl 1 rfl) ?_
        refine lv_icmp_eq (tgt := 60) hx hb dX8_stand_40 (by decide) (fun c8 => ?_) (fun c8 => ?_)
        · replace h := (k_if h).1 c8
          obtain ⟨v9, hvv9⟩ : ∃ y : Int32, y = a3 + (1) := ⟨_, rfl⟩
          replace h := k_bb h v9 hvv9
          refine lv_iinc (v := v9) (lv' := [(3, .int v9), (0, .ref (sz + b0)), (1, .int b1), (2, .int b2)]) hx hb dX8_stand_60 hl (k := 3) rfl (by rw [hvv9]; rfl) (by decide) (by first | rfl | simp [rv_cat, cat_i, cat_l, cat_r, cat_n]) (fun ls hl => ?_)
          refine lv_goto (tgt := 26) hx hb dX8_stand_63 (by decide) ?_
          exact ih v9 H locs ls hM (lv_sub hl [1, 2, 3, 0] rfl) h hk
        · replace h := (k_if h).2 c8
          refine lv_aload_n hx hb dX8_stand_43 rfl (lv_at hl 0 rfl) ?_
          refine gs_X8_54 E hM ok4 dX8_stand_44 (fun x10 hxx10 => ?_)
          replace h := k_bb h x10 hxx10.symm
          refine lv_iload_n hx hb dX8_stand_47 rfl (lv_at hl 3 rfl) ?_
          rcases x10 with _ | k11
          · cases h
          rw [cs_s] at h
          obtain ⟨ok12, h⟩ := k_gd h
          refine m_iald E hM ok12 dX8_stand_48 ?_
          refine lv_iload_n hx hb dX8_stand_49 rfl (lv_at hl 2 rfl) ?_
          refine lv_icmp_ne (tgt := 60) hx hb dX8_stand_50 (by decide) (fun c13 => ?_) (fun c13 => ?_)
          · replace h := (k_if h).2 c13
            obtain ⟨v14, hvv14⟩ : ∃ y : Int32, y = a3 + (1) := ⟨_, rfl⟩
            replace h := k_bb h v14 hvv14
            refine lv_iinc (v := v14) (lv' := [(3, .int v14), (0, .ref (sz + b0)), (1, .int b1), (2, .int b2)]) hx hb dX8_stand_60 hl (k := 3) rfl (by rw [hvv14]; rfl) (by decide) (by first | rfl | simp [rv_cat, cat_i, cat_l, cat_r, cat_n]) (fun ls hl => ?_)
            refine lv_goto (tgt := 26) hx hb dX8_stand_63 (by decide) ?_
            exact ih v14 H locs ls hM (lv_sub hl [1, 2, 3, 0] rfl) h hk
          · replace h := (k_if h).1 c13
            refine lv_aload_n hx hb dX8_stand_53 rfl (lv_at hl 0 rfl) ?_
            refine lv_bipush (v := 10) hx hb dX8_stand_54 (by decide) ?_
            obtain ⟨w15, hzw15, h⟩ := k_bd h
            refine m_callV (C := RX8) (T := TX8) (N := 33) (ci := 8) (n := 1) (As := [.int (10 : Int32)]) (rest := []) (st1 := (.int w15.1 :: [])) E hM hl.1 ok4 (by decide) rfl rfl (c_X8_no l D cy sz H0 u b0 (10 : Int32) hzw15) wl_X8_100 wm_X8_no ws_X8_no wi_X8 wd_X8_no rfl rfl (by decide +kernel) ⟨by decide, by decide⟩ rfl rfl (by first | exact Nat.le_of_ble_eq_true rfl | simp [rv_cat, cat_i, cat_l, cat_r, cat_n]) dX8_stand_56 ⟨by decide, by decide⟩ rfl (fun H locs hM => ?_)
            obtain ⟨hB16, h⟩ := k_gd h
            cases h
            exact m_zret hx hb hr hlk hM hB16 rfl rfl dX8_stand_59

def f_X8_stand (r : Nat) (p1 : Int32) (p2 : Int32) (u : Mm) : Option ((Int32) × Mm) := gd (okO u r 8) (bd (f_X8_boxed r p1 p2 (sI u r 1 (0 : Int32))) (fun w2 => (if (gI (sI (sI u r 1 (0 : Int32)) r 0 w2) r 0) ≤ 0 then L_X8_stand_26 r p1 p2 (sI (sI u r 1 (0 : Int32)) r 0 w2) (fun a17 => bb (gR (sI (sI u r 1 (0 : Int32)) r 0 w2) r 18) (fun x18 => cs x18 none (fun k19 => gd (okA (sI (sI u r 1 (0 : Int32)) r 0 w2) k19 9 p1) (some ((1 : Int32), (sI (sI (sI u r 1 (0 : Int32)) r 0 w2) k19 (Int32.toNatClampNeg p1) p2)))))) 1000 (0 : Int32)  else some ((0 : Int32), (sI (sI u r 1 (0 : Int32)) r 0 w2)))))
set_option maxHeartbeats 4000000 in
set_option maxRecDepth 100000 in
theorem c_X8_stand (l : Launch) (D : va_G) (cy : Nat → ClassId) (sz : Nat) (H0 : Heap) (u : Mm) (r : Nat) (p1 : Int32) (p2 : Int32) {res : (Int32) × Mm} (h : f_X8_stand r p1 p2 u = some res) : Ctr l yX8_stand cX8_stand 4 (some .boolean) rm_X8_stand 0 0 D cy sz H0 u [.ref (sz + r), .int p1, .int p2] (some (.int res.1)) res.2 := by
  refine m_start (lv := [(0, .ref (sz + r)), (1, .int p1), (2, .int p2)]) (by decide) (by first | exact Nat.le_of_ble_eq_true rfl | simp [lg_sl, rv_cat, cat_i, cat_l, cat_r, cat_n]) (by first | rfl | simp [lv_args, rv_cat, cat_i, cat_l, cat_r, cat_n]) ?_
  intro p e s m below meth c ls E hr hlk hinit hM hl
  obtain ⟨hx, hb, hml, hown, hts, hKK⟩ := id E
  obtain ⟨H, hH⟩ : ∃ H, H = s.heap := ⟨_, rfl⟩
  obtain ⟨locs, hlocs⟩ : ∃ L : List Loc, L = [] := ⟨_, rfl⟩
  rw [← hH, ← hlocs] at hM ⊢
  unfold f_X8_stand at h
  refine lv_aload_n hx hb dX8_stand_0 rfl (lv_at hl 0 rfl) ?_
  refine lv_iconst (v := 0) hx hb dX8_stand_1 (by decide) ?_
  obtain ⟨ok1, h⟩ := k_gd h
  refine ps_X8_93 (v := (0 : Int32)) E hM ok1 dX8_stand_2 (fun H locs hM => ?_)
  refine lv_aload_n hx hb dX8_stand_5 rfl (lv_at hl 0 rfl) ?_
  refine lv_aload_n hx hb dX8_stand_6 rfl (lv_at hl 0 rfl) ?_
  refine lv_iload_n hx hb dX8_stand_7 rfl (lv_at hl 1 rfl) ?_
  refine lv_iload_n hx hb dX8_stand_8 rfl (lv_at hl 2 rfl) ?_
  obtain ⟨w2, hzw2, h⟩ := k_bd h
  refine m_callV (C := RX8) (T := TX8) (N := 33) (ci := 8) (n := 2) (As := [.int p1, .int p2]) (rest := [.ref (sz + r)]) (st1 := (.int w2 :: [.ref (sz + r)])) E hM hl.1 ok1 (by decide) rfl rfl (c_X8_boxed l D cy sz H0 (sI u r 1 (0 : Int32)) r p1 p2 hzw2) wl_X8_183 wm_X8_boxed ws_X8_boxed wi_X8 wd_X8_boxed rfl rfl (by decide +kernel) ⟨by decide, by decide⟩ rfl rfl (by first | exact Nat.le_of_ble_eq_true rfl | simp [rv_cat, cat_i, cat_l, cat_r, cat_n]) dX8_stand_9 ⟨by decide, by decide⟩ rfl (fun H locs hM => ?_)
  refine ps_X8_97 (v := w2) E hM ok1 dX8_stand_12 (fun H locs hM => ?_)
  refine lv_aload_n hx hb dX8_stand_15 rfl (lv_at hl 0 rfl) ?_
  refine gs_X8_97 E hM ok1 dX8_stand_16 ?_
  refine lv_if_le (tgt := 24) hx hb dX8_stand_19 (by decide) (fun c3 => ?_) (fun c3 => ?_)
  · replace h := (k_if h).1 c3
    refine lv_iconst (v := 0) hx hb dX8_stand_24 (by decide) ?_
    refine lv_istore_n (i := 3) (lv' := [(3, .int (0 : Int32)), (0, .ref (sz + r)), (1, .int p1), (2, .int p2)]) hx hb dX8_stand_25 rfl hl (by decide) (by first | rfl | simp [rv_cat, cat_i, cat_l, cat_r, cat_n]) (fun ls hl => ?_)
    refine lp_X8_stand_26 hr hlk  E 1000 (0 : Int32) H locs ls hM (lv_sub hl [1, 2, 3, 0] rfl) h (fun a17 H locs ls hM hl h => ?_)
    refine lv_aload_n hx hb dX8_stand_66 rfl (lv_at hl 0 rfl) ?_
    refine gs_X8_54 E hM ok1 dX8_stand_67 (fun x18 hxx18 => ?_)
    replace h := k_bb h x18 hxx18.symm
    refine lv_iload_n hx hb dX8_stand_70 rfl (lv_at hl 1 rfl) ?_
    refine lv_iload_n hx hb dX8_stand_71 rfl (lv_at hl 2 rfl) ?_
    rcases x18 with _ | k19
    · cases h
    rw [cs_s] at h
    obtain ⟨ok20, h⟩ := k_gd h
    refine m_iast E hM ok20 dX8_stand_72 (fun H locs hM => ?_)
    refine lv_iconst (v := 1) hx hb dX8_stand_73 (by decide) ?_
    cases h
    exact m_zret hx hb hr hlk hM (by decide) rfl rfl dX8_stand_74
  · replace h := (k_if h).2 c3
    refine lv_iconst (v := 0) hx hb dX8_stand_22 (by decide) ?_
    cases h
    exact m_zret hx hb hr hlk hM (by decide) rfl rfl dX8_stand_23

abbrev rm_X8_goal : Room := { frames := 2, cells := 0, slots := 0, locals := 72 }
def L_X8_goal_26 (b0 : Nat) (b1 : Int32) (b2 : Int32) (u : Mm) (k : Int32 → Option ((Int32) × Mm)) : Nat → Int32 → Option ((Int32) × Mm)
  | 0, _ => none
  | n + 1, a3 => gd (okO u b0 8) ((if (gI u b0 7) ≤ a3 then k a3 else (if b2 < 0 then bb (a3 + (1)) (fun v7 => L_X8_goal_26 b0 b1 b2 u k n v7) else (if a3 = b1 then bb (a3 + (1)) (fun v9 => L_X8_goal_26 b0 b1 b2 u k n v9) else bb (gR u b0 19) (fun x10 => cs x10 none (fun k11 => gd (okA u k11 9 a3) ((if (gI u k11 (Int32.toNatClampNeg a3)) = b2 then bd (f_X8_no b0 (10 : Int32) u) (fun w15 => gd (isB w15.1) (some (w15.1, w15.2))) else bb (a3 + (1)) (fun v14 => L_X8_goal_26 b0 b1 b2 u k n v14)))))))))
set_option maxHeartbeats 4000000 in
set_option maxRecDepth 100000 in
theorem lp_X8_goal_26 {p : Program} {l : Launch} {e : Env} {s : State} {m : MethodId} {args : Array Value} {below : List Frame} {meth : Method} {c : Code} {D : va_G} {cy : Nat → ClassId} {sz : Nat} {H0 : Heap} {b0 : Nat} {b1 : Int32} {b2 : Int32} {u : Mm} {k : Int32 → Option ((Int32) × Mm)} {res : (Int32) × Mm} (hr : meth.sig.returnType = (some .boolean)) (hlk : meth.locks = false) (E : EE p s m args c cX8_goal 4 RX8 D cy) : ∀ (n : Nat) (a3 : Int32) (H : Heap) (locs : List Loc) (ls : Array Slot), MM D cy sz H0 u H locs → lv_has ls 4 [(0, .ref (sz + b0)), (1, .int b1), (2, .int b2), (3, .int a3)] → L_X8_goal_26 b0 b1 b2 u k n a3 = some res → (∀ (a3 : Int32) (H : Heap) (locs : List Loc) (ls : Array Slot), MM D cy sz H0 u H locs → lv_has ls 4 [(0, .ref (sz + b0)), (1, .int b1), (2, .int b2), (3, .int a3)] → k a3 = some res → W p l e rm_X8_goal s m args below meth c H locs 0 0 (MQ below (Post D cy sz H0 (some (.int res.1)) res.2) args s 0 0 (fun q => sz ≤ q)) (F0 m 66 ls [])) → W p l e rm_X8_goal s m args below meth c H locs 0 0 (MQ below (Post D cy sz H0 (some (.int res.1)) res.2) args s 0 0 (fun q => sz ≤ q)) (F0 m 26 ls []) := by
  obtain ⟨hx, hb, hml, hown, hts, hKK⟩ := id E
  intro n
  induction n with
  | zero => intros; rename_i h _; cases h
  | succ n ih =>
    intro a3 H locs ls hM hl h hk
    rw [L_X8_goal_26] at h
    refine lv_iload_n hx hb dX8_goal_26 rfl (lv_at hl 3 rfl) ?_
    refine lv_aload_n hx hb dX8_goal_27 rfl (lv_at hl 0 rfl) ?_
    obtain ⟨ok4, h⟩ := k_gd h
    refine gs_X8_118 E hM ok4 dX8_goal_28 ?_
    refine lv_icmp_ge (tgt := 66) hx hb dX8_goal_31 (by decide) (fun c5 => ?_) (fun c5 => ?_)
    · replace h := (k_if h).1 c5
      exact hk a3 H locs ls hM (lv_sub hl [0, 1, 2, 3] rfl) h
    · replace h := (k_if h).2 c5
      refine lv_iload_n hx hb dX8_goal_34 rfl (lv_at hl 2 rfl) ?_
      refine lv_if_lt (tgt := 60) hx hb dX8_goal_35 (by decide) (fun c6 => ?_) (fun c6 => ?_)
      · replace h := (k_if h).1 c6
        obtain ⟨v7, hvv7⟩ : ∃ y : Int32, y = a3 + (1) := ⟨_, rfl⟩
        replace h := k_bb h v7 hvv7
        refine lv_iinc (v := v7) (lv' := [(3, .int v7), (0, .ref (sz + b0)), (1, .int b1), (2, .int b2)]) hx hb dX8_goal_60 hl (k := 3) rfl (by rw [hvv7]; rfl) (by decide) (by first | rfl | simp [rv_cat, cat_i, cat_l, cat_r, cat_n]) (fun ls hl => ?_)
        refine lv_goto (tgt := 26) hx hb dX8_goal_63 (by decide) ?_
        exact ih v7 H locs ls hM (lv_sub hl [1, 2, 3, 0] rfl) h hk
      · replace h := (k_if h).2 c6
        refine lv_iload_n hx hb dX8_goal_38 rfl (lv_at hl 3 rfl) ?_
        refine lv_iload_n hx hb dX8_goal_39 rfl (lv_at hl 1 rfl) ?_
        refine lv_icmp_eq (tgt := 60) hx hb dX8_goal_40 (by decide) (fun c8 => ?_) (fun c8 => ?_)
        · replace h := (k_if h).1 c8
          obtain ⟨v9, hvv9⟩ : ∃ y : Int32, y = a3 + (1) := ⟨_, rfl⟩
          replace h := k_bb h v9 hvv9
          refine lv_iinc (v := v9) (lv' := [(3, .int v9), (0, .ref (sz + b0)), (1, .int b1), (2, .int b2)]) hx hb dX8_goal_60 hl (k := 3) rfl (by rw [hvv9]; rfl) (by decide) (by first | rfl | simp [rv_cat, cat_i, cat_l, cat_r, cat_n]) (fun ls hl => ?_)
          refine lv_goto (tgt := 26) hx hb dX8_goal_63 (by decide) ?_
          exact ih v9 H locs ls hM (lv_sub hl [1, 2, 3, 0] rfl) h hk
        · replace h := (k_if h).2 c8
          refine lv_aload_n hx hb dX8_goal_43 rfl (lv_at hl 0 rfl) ?_
          refine gs_X8_57 E hM ok4 dX8_goal_44 (fun x10 hxx10 => ?_)
          replace h := k_bb h x10 hxx10.symm
          refine lv_iload_n hx hb dX8_goal_47 rfl (lv_at hl 3 rfl) ?_
          rcases x10 with _ | k11
          · cases h
          rw [cs_s] at h
          obtain ⟨ok12, h⟩ := k_gd h
          refine m_iald E hM ok12 dX8_goal_48 ?_
          refine lv_iload_n hx hb dX8_goal_49 rfl (lv_at hl 2 rfl) ?_
          refine lv_icmp_ne (tgt := 60) hx hb dX8_goal_50 (by decide) (fun c13 => ?_) (fun c13 => ?_)
          · replace h := (k_if h).2 c13
            obtain ⟨v14, hvv14⟩ : ∃ y : Int32, y = a3 + (1) := ⟨_, rfl⟩
            replace h := k_bb h v14 hvv14
            refine lv_iinc (v := v14) (lv' := [(3, .int v14), (0, .ref (sz + b0)), (1, .int b1), (2, .int b2)]) hx hb dX8_goal_60 hl (k := 3) rfl (by rw [hvv14]; rfl) (by decide) (by first | rfl | simp [rv_cat, cat_i, cat_l, cat_r, cat_n]) (fun ls hl => ?_)
            refine lv_goto (tgt := 26) hx hb dX8_goal_63 (by decide) ?_
            exact ih v14 H locs ls hM (lv_sub hl [1, 2, 3, 0] rfl) h hk
          · replace h := (k_if h).1 c13
            refine lv_aload_n hx hb dX8_goal_53 rfl (lv_at hl 0 rfl) ?_
            refine lv_bipush (v := 10) hx hb dX8_goal_54 (by decide) ?_
            obtain ⟨w15, hzw15, h⟩ := k_bd h
            refine m_callV (C := RX8) (T := TX8) (N := 33) (ci := 8) (n := 1) (As := [.int (10 : Int32)]) (rest := []) (st1 := (.int w15.1 :: [])) E hM hl.1 ok4 (by decide) rfl rfl (c_X8_no l D cy sz H0 u b0 (10 : Int32) hzw15) wl_X8_100 wm_X8_no ws_X8_no wi_X8 wd_X8_no rfl rfl (by decide +kernel) ⟨by decide, by decide⟩ rfl rfl (by first | exact Nat.le_of_ble_eq_true rfl | simp [rv_cat, cat_i, cat_l, cat_r, cat_n]) dX8_goal_56 ⟨by decide, by decide⟩ rfl (fun H locs hM => ?_)
            obtain ⟨hB16, h⟩ := k_gd h
            cases h
            exact m_zret hx hb hr hlk hM hB16 rfl rfl dX8_goal_59

def f_X8_goal (r : Nat) (p1 : Int32) (p2 : Int32) (u : Mm) : Option ((Int32) × Mm) := gd (okO u r 8) (bd (f_X8_boxed r p1 p2 (sI u r 1 (0 : Int32))) (fun w2 => (if (gI (sI (sI u r 1 (0 : Int32)) r 0 w2) r 0) ≤ 0 then L_X8_goal_26 r p1 p2 (sI (sI u r 1 (0 : Int32)) r 0 w2) (fun a17 => bb (gR (sI (sI u r 1 (0 : Int32)) r 0 w2) r 19) (fun x18 => cs x18 none (fun k19 => gd (okA (sI (sI u r 1 (0 : Int32)) r 0 w2) k19 9 p1) (some ((1 : Int32), (sI (sI (sI u r 1 (0 : Int32)) r 0 w2) k19 (Int32.toNatClampNeg p1) p2)))))) 1000 (0 : Int32)  else some ((0 : Int32), (sI (sI u r 1 (0 : Int32)) r 0 w2)))))
set_option maxHeartbeats 4000000 in
set_option maxRecDepth 100000 in
theorem c_X8_goal (l : Launch) (D : va_G) (cy : Nat → ClassId) (sz : Nat) (H0 : Heap) (u : Mm) (r : Nat) (p1 : Int32) (p2 : Int32) {res : (Int32) × Mm} (h : f_X8_goal r p1 p2 u = some res) : Ctr l yX8_goal cX8_goal 4 (some .boolean) rm_X8_goal 0 0 D cy sz H0 u [.ref (sz + r), .int p1, .int p2] (some (.int res.1)) res.2 := by
  refine m_start (lv := [(0, .ref (sz + r)), (1, .int p1), (2, .int p2)]) (by decide) (by first | exact Nat.le_of_ble_eq_true rfl | simp [lg_sl, rv_cat, cat_i, cat_l, cat_r, cat_n]) (by first | rfl | simp [lv_args, rv_cat, cat_i, cat_l, cat_r, cat_n]) ?_
  intro p e s m below meth c ls E hr hlk hinit hM hl
  obtain ⟨hx, hb, hml, hown, hts, hKK⟩ := id E
  obtain ⟨H, hH⟩ : ∃ H, H = s.heap := ⟨_, rfl⟩
  obtain ⟨locs, hlocs⟩ : ∃ L : List Loc, L = [] := ⟨_, rfl⟩
  rw [← hH, ← hlocs] at hM ⊢
  unfold f_X8_goal at h
  refine lv_aload_n hx hb dX8_goal_0 rfl (lv_at hl 0 rfl) ?_
  refine lv_iconst (v := 0) hx hb dX8_goal_1 (by decide) ?_
  obtain ⟨ok1, h⟩ := k_gd h
  refine ps_X8_93 (v := (0 : Int32)) E hM ok1 dX8_goal_2 (fun H locs hM => ?_)
  refine lv_aload_n hx hb dX8_goal_5 rfl (lv_at hl 0 rfl) ?_
  refine lv_aload_n hx hb dX8_goal_6 rfl (lv_at hl 0 rfl) ?_
  refine lv_iload_n hx hb dX8_goal_7 rfl (lv_at hl 1 rfl) ?_
  refine lv_iload_n hx hb dX8_goal_8 rfl (lv_at hl 2 rfl) ?_
  obtain ⟨w2, hzw2, h⟩ := k_bd h
  refine m_callV (C := RX8) (T := TX8) (N := 33) (ci := 8) (n := 2) (As := [.int p1, .int p2]) (rest := [.ref (sz + r)]) (st1 := (.int w2 :: [.ref (sz + r)])) E hM hl.1 ok1 (by decide) rfl rfl (c_X8_boxed l D cy sz H0 (sI u r 1 (0 : Int32)) r p1 p2 hzw2) wl_X8_183 wm_X8_boxed ws_X8_boxed wi_X8 wd_X8_boxed rfl rfl (by decide +kernel) ⟨by decide, by decide⟩ rfl rfl (by first | exact Nat.le_of_ble_eq_true rfl | simp [rv_cat, cat_i, cat_l, cat_r, cat_n]) dX8_goal_9 ⟨by decide, by decide⟩ rfl (fun H locs hM => ?_)
  refine ps_X8_97 (v := w2) E hM ok1 dX8_goal_12 (fun H locs hM => ?_)
  refine lv_aload_n hx hb dX8_goal_15 rfl (lv_at hl 0 rfl) ?_
  refine gs_X8_97 E hM ok1 dX8_goal_16 ?_
  refine lv_if_le (tgt := 24) hx hb dX8_goal_19 (by decide) (fun c3 => ?_) (fun c3 => ?_)
  · replace h := (k_if h).1 c3
    refine lv_iconst (v := 0) hx hb dX8_goal_24 (by decide) ?_
    refine lv_istore_n (i := 3) (lv' := [(3, .int (0 : Int32)), (0, .ref (sz + r)), (1, .int p1), (2, .int p2)]) hx hb dX8_goal_25 rfl hl (by decide) (by first | rfl | simp [rv_cat, cat_i, cat_l, cat_r, cat_n]) (fun ls hl => ?_)
    refine lp_X8_goal_26 hr hlk  E 1000 (0 : Int32) H locs ls hM (lv_sub hl [1, 2, 3, 0] rfl) h (fun a17 H locs ls hM hl h => ?_)
    refine lv_aload_n hx hb dX8_goal_66 rfl (lv_at hl 0 rfl) ?_
    refine gs_X8_57 E hM ok1 dX8_goal_67 (fun x18 hxx18 => ?_)
    replace h := k_bb h x18 hxx18.symm
    refine lv_iload_n hx hb dX8_goal_70 rfl (lv_at hl 1 rfl) ?_
    refine lv_iload_n hx hb dX8_goal_71 rfl (lv_at hl 2 rfl) ?_
    rcases x18 with _ | k19
    · cases h
    rw [cs_s] at h
    obtain ⟨ok20, h⟩ := k_gd h
    refine m_iast E hM ok20 dX8_goal_72 (fun H locs hM => ?_)
    refine lv_iconst (v := 1) hx hb dX8_goal_73 (by decide) ?_
    cases h
    exact m_zret hx hb hr hlk hM (by decide) rfl rfl dX8_goal_74
  · replace h := (k_if h).2 c3
    refine lv_iconst (v := 0) hx hb dX8_goal_22 (by decide) ?_
    cases h
    exact m_zret hx hb hr hlk hM (by decide) rfl rfl dX8_goal_23

abbrev rm_X8_isAway : Room := { frames := 0, cells := 0, slots := 0, locals := 0 }
def f_X8_isAway (r : Nat) (p1 : Int32) (u : Mm) : Option (Int32) := gd (okO u r 8) (bb (gR u r 27) (fun x2 => cs x2 none (fun k3 => gd (okA u k3 9 p1) ((if (gI u k3 (Int32.toNatClampNeg p1)) < 0 then some (0 : Int32) else bb (gR u r 19) (fun x6 => cs x6 none (fun k7 => gd (okA u k7 9 p1) ((if (gI u k7 (Int32.toNatClampNeg p1)) < 0 then some (0 : Int32) else bb (gR u r 27) (fun x10 => cs x10 none (fun k11 => gd (okA u k11 9 p1) (bb (gR u r 19) (fun x13 => cs x13 none (fun k14 => gd (okA u k14 9 p1) ((if (gI u k11 (Int32.toNatClampNeg p1)) = (gI u k14 (Int32.toNatClampNeg p1)) then some (0 : Int32) else some (1 : Int32)))))))))))))))))
set_option maxHeartbeats 4000000 in
set_option maxRecDepth 100000 in
theorem c_X8_isAway (l : Launch) (D : va_G) (cy : Nat → ClassId) (sz : Nat) (H0 : Heap) (u : Mm) (r : Nat) (p1 : Int32) {res : Int32} (h : f_X8_isAway r p1 u = some res) : Ctr l yX8_isAway cX8_isAway 2 (some .boolean) rm_X8_isAway 0 0 D cy sz H0 u [.ref (sz + r), .int p1] (some (.int res)) u := by
  refine m_start (lv := [(0, .ref (sz + r)), (1, .int p1)]) (by decide) (by first | exact Nat.le_of_ble_eq_true rfl | simp [lg_sl, rv_cat, cat_i, cat_l, cat_r, cat_n]) (by first | rfl | simp [lv_args, rv_cat, cat_i, cat_l, cat_r, cat_n]) ?_
  intro p e s m below meth c ls E hr hlk hinit hM hl
  obtain ⟨hx, hb, hml, hown, hts, hKK⟩ := id E
  obtain ⟨H, hH⟩ : ∃ H, H = s.heap := ⟨_, rfl⟩
  obtain ⟨locs, hlocs⟩ : ∃ L : List Loc, L = [] := ⟨_, rfl⟩
  rw [← hH, ← hlocs] at hM ⊢
  unfold f_X8_isAway at h
  refine lv_aload_n hx hb dX8_isAway_0 rfl (lv_at hl 0 rfl) ?_
  obtain ⟨ok1, h⟩ := k_gd h
  refine gs_X8_78 E hM ok1 dX8_isAway_1 (fun x2 hxx2 => ?_)
  replace h := k_bb h x2 hxx2.symm
  refine lv_iload_n hx hb dX8_isAway_4 rfl (lv_at hl 1 rfl) ?_
  rcases x2 with _ | k3
  · cases h
  rw [cs_s] at h
  obtain ⟨ok4, h⟩ := k_gd h
  refine m_iald E hM ok4 dX8_isAway_5 ?_
  refine lv_if_lt (tgt := 37) hx hb dX8_isAway_6 (by decide) (fun c5 => ?_) (fun c5 => ?_)
  · replace h := (k_if h).1 c5
    refine lv_iconst (v := 0) hx hb dX8_isAway_37 (by decide) ?_
    cases h
    exact m_zret hx hb hr hlk hM (by decide) rfl rfl dX8_isAway_38
  · replace h := (k_if h).2 c5
    refine lv_aload_n hx hb dX8_isAway_9 rfl (lv_at hl 0 rfl) ?_
    refine gs_X8_57 E hM ok1 dX8_isAway_10 (fun x6 hxx6 => ?_)
    replace h := k_bb h x6 hxx6.symm
    refine lv_iload_n hx hb dX8_isAway_13 rfl (lv_at hl 1 rfl) ?_
    rcases x6 with _ | k7
    · cases h
    rw [cs_s] at h
    obtain ⟨ok8, h⟩ := k_gd h
    refine m_iald E hM ok8 dX8_isAway_14 ?_
    refine lv_if_lt (tgt := 37) hx hb dX8_isAway_15 (by decide) (fun c9 => ?_) (fun c9 => ?_)
    · replace h := (k_if h).1 c9
      refine lv_iconst (v := 0) hx hb dX8_isAway_37 (by decide) ?_
      cases h
      exact m_zret hx hb hr hlk hM (by decide) rfl rfl dX8_isAway_38
    · replace h := (k_if h).2 c9
      refine lv_aload_n hx hb dX8_isAway_18 rfl (lv_at hl 0 rfl) ?_
      refine gs_X8_78 E hM ok1 dX8_isAway_19 (fun x10 hxx10 => ?_)
      replace h := k_bb h x10 hxx10.symm
      refine lv_iload_n hx hb dX8_isAway_22 rfl (lv_at hl 1 rfl) ?_
      rcases x10 with _ | k11
      · cases h
      rw [cs_s] at h
      obtain ⟨ok12, h⟩ := k_gd h
      refine m_iald E hM ok12 dX8_isAway_23 ?_
      refine lv_aload_n hx hb dX8_isAway_24 rfl (lv_at hl 0 rfl) ?_
      refine gs_X8_57 E hM ok1 dX8_isAway_25 (fun x13 hxx13 => ?_)
      replace h := k_bb h x13 hxx13.symm
      refine lv_iload_n hx hb dX8_isAway_28 rfl (lv_at hl 1 rfl) ?_
      rcases x13 with _ | k14
      · cases h
      rw [cs_s] at h
      obtain ⟨ok15, h⟩ := k_gd h
      refine m_iald E hM ok15 dX8_isAway_29 ?_
      refine lv_icmp_eq (tgt := 37) hx hb dX8_isAway_30 (by decide) (fun c16 => ?_) (fun c16 => ?_)
      · replace h := (k_if h).1 c16
        refine lv_iconst (v := 0) hx hb dX8_isAway_37 (by decide) ?_
        cases h
        exact m_zret hx hb hr hlk hM (by decide) rfl rfl dX8_isAway_38
      · replace h := (k_if h).2 c16
        refine lv_iconst (v := 1) hx hb dX8_isAway_33 (by decide) ?_
        refine lv_goto (tgt := 38) hx hb dX8_isAway_34 (by decide) ?_
        cases h
        exact m_zret hx hb hr hlk hM (by decide) rfl rfl dX8_isAway_38

abbrev rm_X8_take : Room := { frames := 0, cells := 0, slots := 0, locals := 0 }
def f_X8_take (r : Nat) (p1 : Int32) (p2 : Int32) (u : Mm) : Option (Mm) := gd (okO u r 8) (bb (gR u r 28) (fun x2 => cs x2 none (fun k3 => gd (okA u k3 9 (gI u r 31)) (bb (gR (sI u k3 (Int32.toNatClampNeg (gI u r 31)) p1) r 29) (fun x5 => bb (gR (sI u k3 (Int32.toNatClampNeg (gI u r 31)) p1) r 27) (fun x6 => cs x6 none (fun k7 => gd (okA (sI u k3 (Int32.toNatClampNeg (gI u r 31)) p1) k7 9 p1) (cs x5 none (fun k9 => gd (okA (sI u k3 (Int32.toNatClampNeg (gI u r 31)) p1) k9 9 (gI (sI u k3 (Int32.toNatClampNeg (gI u r 31)) p1) r 31)) (bb (gR (sI (sI u k3 (Int32.toNatClampNeg (gI u r 31)) p1) k9 (Int32.toNatClampNeg (gI (sI u k3 (Int32.toNatClampNeg (gI u r 31)) p1) r 31)) (gI (sI u k3 (Int32.toNatClampNeg (gI u r 31)) p1) k7 (Int32.toNatClampNeg p1))) r 30) (fun x11 => cs x11 none (fun k12 => gd (okA (sI (sI u k3 (Int32.toNatClampNeg (gI u r 31)) p1) k9 (Int32.toNatClampNeg (gI (sI u k3 (Int32.toNatClampNeg (gI u r 31)) p1) r 31)) (gI (sI u k3 (Int32.toNatClampNeg (gI u r 31)) p1) k7 (Int32.toNatClampNeg p1))) k12 9 (gI (sI (sI u k3 (Int32.toNatClampNeg (gI u r 31)) p1) k9 (Int32.toNatClampNeg (gI (sI u k3 (Int32.toNatClampNeg (gI u r 31)) p1) r 31)) (gI (sI u k3 (Int32.toNatClampNeg (gI u r 31)) p1) k7 (Int32.toNatClampNeg p1))) r 31)) (bb (gR (sI (sI (sI (sI u k3 (Int32.toNatClampNeg (gI u r 31)) p1) k9 (Int32.toNatClampNeg (gI (sI u k3 (Int32.toNatClampNeg (gI u r 31)) p1) r 31)) (gI (sI u k3 (Int32.toNatClampNeg (gI u r 31)) p1) k7 (Int32.toNatClampNeg p1))) k12 (Int32.toNatClampNeg (gI (sI (sI u k3 (Int32.toNatClampNeg (gI u r 31)) p1) k9 (Int32.toNatClampNeg (gI (sI u k3 (Int32.toNatClampNeg (gI u r 31)) p1) r 31)) (gI (sI u k3 (Int32.toNatClampNeg (gI u r 31)) p1) k7 (Int32.toNatClampNeg p1))) r 31)) p2) r 31 ((gI (sI (sI (sI u k3 (Int32.toNatClampNeg (gI u r 31)) p1) k9 (Int32.toNatClampNeg (gI (sI u k3 (Int32.toNatClampNeg (gI u r 31)) p1) r 31)) (gI (sI u k3 (Int32.toNatClampNeg (gI u r 31)) p1) k7 (Int32.toNatClampNeg p1))) k12 (Int32.toNatClampNeg (gI (sI (sI u k3 (Int32.toNatClampNeg (gI u r 31)) p1) k9 (Int32.toNatClampNeg (gI (sI u k3 (Int32.toNatClampNeg (gI u r 31)) p1) r 31)) (gI (sI u k3 (Int32.toNatClampNeg (gI u r 31)) p1) k7 (Int32.toNatClampNeg p1))) r 31)) p2) r 31) + (1 : Int32))) r 26) (fun x14 => bb (gR (sI (sI (sI (sI u k3 (Int32.toNatClampNeg (gI u r 31)) p1) k9 (Int32.toNatClampNeg (gI (sI u k3 (Int32.toNatClampNeg (gI u r 31)) p1) r 31)) (gI (sI u k3 (Int32.toNatClampNeg (gI u r 31)) p1) k7 (Int32.toNatClampNeg p1))) k12 (Int32.toNatClampNeg (gI (sI (sI u k3 (Int32.toNatClampNeg (gI u r 31)) p1) k9 (Int32.toNatClampNeg (gI (sI u k3 (Int32.toNatClampNeg (gI u r 31)) p1) r 31)) (gI (sI u k3 (Int32.toNatClampNeg (gI u r 31)) p1) k7 (Int32.toNatClampNeg p1))) r 31)) p2) r 31 ((gI (sI (sI (sI u k3 (Int32.toNatClampNeg (gI u r 31)) p1) k9 (Int32.toNatClampNeg (gI (sI u k3 (Int32.toNatClampNeg (gI u r 31)) p1) r 31)) (gI (sI u k3 (Int32.toNatClampNeg (gI u r 31)) p1) k7 (Int32.toNatClampNeg p1))) k12 (Int32.toNatClampNeg (gI (sI (sI u k3 (Int32.toNatClampNeg (gI u r 31)) p1) k9 (Int32.toNatClampNeg (gI (sI u k3 (Int32.toNatClampNeg (gI u r 31)) p1) r 31)) (gI (sI u k3 (Int32.toNatClampNeg (gI u r 31)) p1) k7 (Int32.toNatClampNeg p1))) r 31)) p2) r 31) + (1 : Int32))) r 27) (fun x15 => cs x15 none (fun k16 => gd (okA (sI (sI (sI (sI u k3 (Int32.toNatClampNeg (gI u r 31)) p1) k9 (Int32.toNatClampNeg (gI (sI u k3 (Int32.toNatClampNeg (gI u r 31)) p1) r 31)) (gI (sI u k3 (Int32.toNatClampNeg (gI u r 31)) p1) k7 (Int32.toNatClampNeg p1))) k12 (Int32.toNatClampNeg (gI (sI (sI u k3 (Int32.toNatClampNeg (gI u r 31)) p1) k9 (Int32.toNatClampNeg (gI (sI u k3 (Int32.toNatClampNeg (gI u r 31)) p1) r 31)) (gI (sI u k3 (Int32.toNatClampNeg (gI u r 31)) p1) k7 (Int32.toNatClampNeg p1))) r 31)) p2) r 31 ((gI (sI (sI (sI u k3 (Int32.toNatClampNeg (gI u r 31)) p1) k9 (Int32.toNatClampNeg (gI (sI u k3 (Int32.toNatClampNeg (gI u r 31)) p1) r 31)) (gI (sI u k3 (Int32.toNatClampNeg (gI u r 31)) p1) k7 (Int32.toNatClampNeg p1))) k12 (Int32.toNatClampNeg (gI (sI (sI u k3 (Int32.toNatClampNeg (gI u r 31)) p1) k9 (Int32.toNatClampNeg (gI (sI u k3 (Int32.toNatClampNeg (gI u r 31)) p1) r 31)) (gI (sI u k3 (Int32.toNatClampNeg (gI u r 31)) p1) k7 (Int32.toNatClampNeg p1))) r 31)) p2) r 31) + (1 : Int32))) k16 9 p1) (cs x14 none (fun k18 => gd (okA (sI (sI (sI (sI u k3 (Int32.toNatClampNeg (gI u r 31)) p1) k9 (Int32.toNatClampNeg (gI (sI u k3 (Int32.toNatClampNeg (gI u r 31)) p1) r 31)) (gI (sI u k3 (Int32.toNatClampNeg (gI u r 31)) p1) k7 (Int32.toNatClampNeg p1))) k12 (Int32.toNatClampNeg (gI (sI (sI u k3 (Int32.toNatClampNeg (gI u r 31)) p1) k9 (Int32.toNatClampNeg (gI (sI u k3 (Int32.toNatClampNeg (gI u r 31)) p1) r 31)) (gI (sI u k3 (Int32.toNatClampNeg (gI u r 31)) p1) k7 (Int32.toNatClampNeg p1))) r 31)) p2) r 31 ((gI (sI (sI (sI u k3 (Int32.toNatClampNeg (gI u r 31)) p1) k9 (Int32.toNatClampNeg (gI (sI u k3 (Int32.toNatClampNeg (gI u r 31)) p1) r 31)) (gI (sI u k3 (Int32.toNatClampNeg (gI u r 31)) p1) k7 (Int32.toNatClampNeg p1))) k12 (Int32.toNatClampNeg (gI (sI (sI u k3 (Int32.toNatClampNeg (gI u r 31)) p1) k9 (Int32.toNatClampNeg (gI (sI u k3 (Int32.toNatClampNeg (gI u r 31)) p1) r 31)) (gI (sI u k3 (Int32.toNatClampNeg (gI u r 31)) p1) k7 (Int32.toNatClampNeg p1))) r 31)) p2) r 31) + (1 : Int32))) k18 9 (gI (sI (sI (sI (sI u k3 (Int32.toNatClampNeg (gI u r 31)) p1) k9 (Int32.toNatClampNeg (gI (sI u k3 (Int32.toNatClampNeg (gI u r 31)) p1) r 31)) (gI (sI u k3 (Int32.toNatClampNeg (gI u r 31)) p1) k7 (Int32.toNatClampNeg p1))) k12 (Int32.toNatClampNeg (gI (sI (sI u k3 (Int32.toNatClampNeg (gI u r 31)) p1) k9 (Int32.toNatClampNeg (gI (sI u k3 (Int32.toNatClampNeg (gI u r 31)) p1) r 31)) (gI (sI u k3 (Int32.toNatClampNeg (gI u r 31)) p1) k7 (Int32.toNatClampNeg p1))) r 31)) p2) r 31 ((gI (sI (sI (sI u k3 (Int32.toNatClampNeg (gI u r 31)) p1) k9 (Int32.toNatClampNeg (gI (sI u k3 (Int32.toNatClampNeg (gI u r 31)) p1) r 31)) (gI (sI u k3 (Int32.toNatClampNeg (gI u r 31)) p1) k7 (Int32.toNatClampNeg p1))) k12 (Int32.toNatClampNeg (gI (sI (sI u k3 (Int32.toNatClampNeg (gI u r 31)) p1) k9 (Int32.toNatClampNeg (gI (sI u k3 (Int32.toNatClampNeg (gI u r 31)) p1) r 31)) (gI (sI u k3 (Int32.toNatClampNeg (gI u r 31)) p1) k7 (Int32.toNatClampNeg p1))) r 31)) p2) r 31) + (1 : Int32))) k16 (Int32.toNatClampNeg p1))) (bb (gR (sI (sI (sI (sI (sI u k3 (Int32.toNatClampNeg (gI u r 31)) p1) k9 (Int32.toNatClampNeg (gI (sI u k3 (Int32.toNatClampNeg (gI u r 31)) p1) r 31)) (gI (sI u k3 (Int32.toNatClampNeg (gI u r 31)) p1) k7 (Int32.toNatClampNeg p1))) k12 (Int32.toNatClampNeg (gI (sI (sI u k3 (Int32.toNatClampNeg (gI u r 31)) p1) k9 (Int32.toNatClampNeg (gI (sI u k3 (Int32.toNatClampNeg (gI u r 31)) p1) r 31)) (gI (sI u k3 (Int32.toNatClampNeg (gI u r 31)) p1) k7 (Int32.toNatClampNeg p1))) r 31)) p2) r 31 ((gI (sI (sI (sI u k3 (Int32.toNatClampNeg (gI u r 31)) p1) k9 (Int32.toNatClampNeg (gI (sI u k3 (Int32.toNatClampNeg (gI u r 31)) p1) r 31)) (gI (sI u k3 (Int32.toNatClampNeg (gI u r 31)) p1) k7 (Int32.toNatClampNeg p1))) k12 (Int32.toNatClampNeg (gI (sI (sI u k3 (Int32.toNatClampNeg (gI u r 31)) p1) k9 (Int32.toNatClampNeg (gI (sI u k3 (Int32.toNatClampNeg (gI u r 31)) p1) r 31)) (gI (sI u k3 (Int32.toNatClampNeg (gI u r 31)) p1) k7 (Int32.toNatClampNeg p1))) r 31)) p2) r 31) + (1 : Int32))) k18 (Int32.toNatClampNeg (gI (sI (sI (sI (sI u k3 (Int32.toNatClampNeg (gI u r 31)) p1) k9 (Int32.toNatClampNeg (gI (sI u k3 (Int32.toNatClampNeg (gI u r 31)) p1) r 31)) (gI (sI u k3 (Int32.toNatClampNeg (gI u r 31)) p1) k7 (Int32.toNatClampNeg p1))) k12 (Int32.toNatClampNeg (gI (sI (sI u k3 (Int32.toNatClampNeg (gI u r 31)) p1) k9 (Int32.toNatClampNeg (gI (sI u k3 (Int32.toNatClampNeg (gI u r 31)) p1) r 31)) (gI (sI u k3 (Int32.toNatClampNeg (gI u r 31)) p1) k7 (Int32.toNatClampNeg p1))) r 31)) p2) r 31 ((gI (sI (sI (sI u k3 (Int32.toNatClampNeg (gI u r 31)) p1) k9 (Int32.toNatClampNeg (gI (sI u k3 (Int32.toNatClampNeg (gI u r 31)) p1) r 31)) (gI (sI u k3 (Int32.toNatClampNeg (gI u r 31)) p1) k7 (Int32.toNatClampNeg p1))) k12 (Int32.toNatClampNeg (gI (sI (sI u k3 (Int32.toNatClampNeg (gI u r 31)) p1) k9 (Int32.toNatClampNeg (gI (sI u k3 (Int32.toNatClampNeg (gI u r 31)) p1) r 31)) (gI (sI u k3 (Int32.toNatClampNeg (gI u r 31)) p1) k7 (Int32.toNatClampNeg p1))) r 31)) p2) r 31) + (1 : Int32))) k16 (Int32.toNatClampNeg p1))) (-1 : Int32)) r 26) (fun x20 => cs x20 none (fun k21 => gd (okA (sI (sI (sI (sI (sI u k3 (Int32.toNatClampNeg (gI u r 31)) p1) k9 (Int32.toNatClampNeg (gI (sI u k3 (Int32.toNatClampNeg (gI u r 31)) p1) r 31)) (gI (sI u k3 (Int32.toNatClampNeg (gI u r 31)) p1) k7 (Int32.toNatClampNeg p1))) k12 (Int32.toNatClampNeg (gI (sI (sI u k3 (Int32.toNatClampNeg (gI u r 31)) p1) k9 (Int32.toNatClampNeg (gI (sI u k3 (Int32.toNatClampNeg (gI u r 31)) p1) r 31)) (gI (sI u k3 (Int32.toNatClampNeg (gI u r 31)) p1) k7 (Int32.toNatClampNeg p1))) r 31)) p2) r 31 ((gI (sI (sI (sI u k3 (Int32.toNatClampNeg (gI u r 31)) p1) k9 (Int32.toNatClampNeg (gI (sI u k3 (Int32.toNatClampNeg (gI u r 31)) p1) r 31)) (gI (sI u k3 (Int32.toNatClampNeg (gI u r 31)) p1) k7 (Int32.toNatClampNeg p1))) k12 (Int32.toNatClampNeg (gI (sI (sI u k3 (Int32.toNatClampNeg (gI u r 31)) p1) k9 (Int32.toNatClampNeg (gI (sI u k3 (Int32.toNatClampNeg (gI u r 31)) p1) r 31)) (gI (sI u k3 (Int32.toNatClampNeg (gI u r 31)) p1) k7 (Int32.toNatClampNeg p1))) r 31)) p2) r 31) + (1 : Int32))) k18 (Int32.toNatClampNeg (gI (sI (sI (sI (sI u k3 (Int32.toNatClampNeg (gI u r 31)) p1) k9 (Int32.toNatClampNeg (gI (sI u k3 (Int32.toNatClampNeg (gI u r 31)) p1) r 31)) (gI (sI u k3 (Int32.toNatClampNeg (gI u r 31)) p1) k7 (Int32.toNatClampNeg p1))) k12 (Int32.toNatClampNeg (gI (sI (sI u k3 (Int32.toNatClampNeg (gI u r 31)) p1) k9 (Int32.toNatClampNeg (gI (sI u k3 (Int32.toNatClampNeg (gI u r 31)) p1) r 31)) (gI (sI u k3 (Int32.toNatClampNeg (gI u r 31)) p1) k7 (Int32.toNatClampNeg p1))) r 31)) p2) r 31 ((gI (sI (sI (sI u k3 (Int32.toNatClampNeg (gI u r 31)) p1) k9 (Int32.toNatClampNeg (gI (sI u k3 (Int32.toNatClampNeg (gI u r 31)) p1) r 31)) (gI (sI u k3 (Int32.toNatClampNeg (gI u r 31)) p1) k7 (Int32.toNatClampNeg p1))) k12 (Int32.toNatClampNeg (gI (sI (sI u k3 (Int32.toNatClampNeg (gI u r 31)) p1) k9 (Int32.toNatClampNeg (gI (sI u k3 (Int32.toNatClampNeg (gI u r 31)) p1) r 31)) (gI (sI u k3 (Int32.toNatClampNeg (gI u r 31)) p1) k7 (Int32.toNatClampNeg p1))) r 31)) p2) r 31) + (1 : Int32))) k16 (Int32.toNatClampNeg p1))) (-1 : Int32)) k21 9 p2) (bb (gR (sI (sI (sI (sI (sI (sI u k3 (Int32.toNatClampNeg (gI u r 31)) p1) k9 (Int32.toNatClampNeg (gI (sI u k3 (Int32.toNatClampNeg (gI u r 31)) p1) r 31)) (gI (sI u k3 (Int32.toNatClampNeg (gI u r 31)) p1) k7 (Int32.toNatClampNeg p1))) k12 (Int32.toNatClampNeg (gI (sI (sI u k3 (Int32.toNatClampNeg (gI u r 31)) p1) k9 (Int32.toNatClampNeg (gI (sI u k3 (Int32.toNatClampNeg (gI u r 31)) p1) r 31)) (gI (sI u k3 (Int32.toNatClampNeg (gI u r 31)) p1) k7 (Int32.toNatClampNeg p1))) r 31)) p2) r 31 ((gI (sI (sI (sI u k3 (Int32.toNatClampNeg (gI u r 31)) p1) k9 (Int32.toNatClampNeg (gI (sI u k3 (Int32.toNatClampNeg (gI u r 31)) p1) r 31)) (gI (sI u k3 (Int32.toNatClampNeg (gI u r 31)) p1) k7 (Int32.toNatClampNeg p1))) k12 (Int32.toNatClampNeg (gI (sI (sI u k3 (Int32.toNatClampNeg (gI u r 31)) p1) k9 (Int32.toNatClampNeg (gI (sI u k3 (Int32.toNatClampNeg (gI u r 31)) p1) r 31)) (gI (sI u k3 (Int32.toNatClampNeg (gI u r 31)) p1) k7 (Int32.toNatClampNeg p1))) r 31)) p2) r 31) + (1 : Int32))) k18 (Int32.toNatClampNeg (gI (sI (sI (sI (sI u k3 (Int32.toNatClampNeg (gI u r 31)) p1) k9 (Int32.toNatClampNeg (gI (sI u k3 (Int32.toNatClampNeg (gI u r 31)) p1) r 31)) (gI (sI u k3 (Int32.toNatClampNeg (gI u r 31)) p1) k7 (Int32.toNatClampNeg p1))) k12 (Int32.toNatClampNeg (gI (sI (sI u k3 (Int32.toNatClampNeg (gI u r 31)) p1) k9 (Int32.toNatClampNeg (gI (sI u k3 (Int32.toNatClampNeg (gI u r 31)) p1) r 31)) (gI (sI u k3 (Int32.toNatClampNeg (gI u r 31)) p1) k7 (Int32.toNatClampNeg p1))) r 31)) p2) r 31 ((gI (sI (sI (sI u k3 (Int32.toNatClampNeg (gI u r 31)) p1) k9 (Int32.toNatClampNeg (gI (sI u k3 (Int32.toNatClampNeg (gI u r 31)) p1) r 31)) (gI (sI u k3 (Int32.toNatClampNeg (gI u r 31)) p1) k7 (Int32.toNatClampNeg p1))) k12 (Int32.toNatClampNeg (gI (sI (sI u k3 (Int32.toNatClampNeg (gI u r 31)) p1) k9 (Int32.toNatClampNeg (gI (sI u k3 (Int32.toNatClampNeg (gI u r 31)) p1) r 31)) (gI (sI u k3 (Int32.toNatClampNeg (gI u r 31)) p1) k7 (Int32.toNatClampNeg p1))) r 31)) p2) r 31) + (1 : Int32))) k16 (Int32.toNatClampNeg p1))) (-1 : Int32)) k21 (Int32.toNatClampNeg p2) p1) r 27) (fun x23 => cs x23 none (fun k24 => gd (okA (sI (sI (sI (sI (sI (sI u k3 (Int32.toNatClampNeg (gI u r 31)) p1) k9 (Int32.toNatClampNeg (gI (sI u k3 (Int32.toNatClampNeg (gI u r 31)) p1) r 31)) (gI (sI u k3 (Int32.toNatClampNeg (gI u r 31)) p1) k7 (Int32.toNatClampNeg p1))) k12 (Int32.toNatClampNeg (gI (sI (sI u k3 (Int32.toNatClampNeg (gI u r 31)) p1) k9 (Int32.toNatClampNeg (gI (sI u k3 (Int32.toNatClampNeg (gI u r 31)) p1) r 31)) (gI (sI u k3 (Int32.toNatClampNeg (gI u r 31)) p1) k7 (Int32.toNatClampNeg p1))) r 31)) p2) r 31 ((gI (sI (sI (sI u k3 (Int32.toNatClampNeg (gI u r 31)) p1) k9 (Int32.toNatClampNeg (gI (sI u k3 (Int32.toNatClampNeg (gI u r 31)) p1) r 31)) (gI (sI u k3 (Int32.toNatClampNeg (gI u r 31)) p1) k7 (Int32.toNatClampNeg p1))) k12 (Int32.toNatClampNeg (gI (sI (sI u k3 (Int32.toNatClampNeg (gI u r 31)) p1) k9 (Int32.toNatClampNeg (gI (sI u k3 (Int32.toNatClampNeg (gI u r 31)) p1) r 31)) (gI (sI u k3 (Int32.toNatClampNeg (gI u r 31)) p1) k7 (Int32.toNatClampNeg p1))) r 31)) p2) r 31) + (1 : Int32))) k18 (Int32.toNatClampNeg (gI (sI (sI (sI (sI u k3 (Int32.toNatClampNeg (gI u r 31)) p1) k9 (Int32.toNatClampNeg (gI (sI u k3 (Int32.toNatClampNeg (gI u r 31)) p1) r 31)) (gI (sI u k3 (Int32.toNatClampNeg (gI u r 31)) p1) k7 (Int32.toNatClampNeg p1))) k12 (Int32.toNatClampNeg (gI (sI (sI u k3 (Int32.toNatClampNeg (gI u r 31)) p1) k9 (Int32.toNatClampNeg (gI (sI u k3 (Int32.toNatClampNeg (gI u r 31)) p1) r 31)) (gI (sI u k3 (Int32.toNatClampNeg (gI u r 31)) p1) k7 (Int32.toNatClampNeg p1))) r 31)) p2) r 31 ((gI (sI (sI (sI u k3 (Int32.toNatClampNeg (gI u r 31)) p1) k9 (Int32.toNatClampNeg (gI (sI u k3 (Int32.toNatClampNeg (gI u r 31)) p1) r 31)) (gI (sI u k3 (Int32.toNatClampNeg (gI u r 31)) p1) k7 (Int32.toNatClampNeg p1))) k12 (Int32.toNatClampNeg (gI (sI (sI u k3 (Int32.toNatClampNeg (gI u r 31)) p1) k9 (Int32.toNatClampNeg (gI (sI u k3 (Int32.toNatClampNeg (gI u r 31)) p1) r 31)) (gI (sI u k3 (Int32.toNatClampNeg (gI u r 31)) p1) k7 (Int32.toNatClampNeg p1))) r 31)) p2) r 31) + (1 : Int32))) k16 (Int32.toNatClampNeg p1))) (-1 : Int32)) k21 (Int32.toNatClampNeg p2) p1) k24 9 p1) (some (sI (sI (sI (sI (sI (sI (sI u k3 (Int32.toNatClampNeg (gI u r 31)) p1) k9 (Int32.toNatClampNeg (gI (sI u k3 (Int32.toNatClampNeg (gI u r 31)) p1) r 31)) (gI (sI u k3 (Int32.toNatClampNeg (gI u r 31)) p1) k7 (Int32.toNatClampNeg p1))) k12 (Int32.toNatClampNeg (gI (sI (sI u k3 (Int32.toNatClampNeg (gI u r 31)) p1) k9 (Int32.toNatClampNeg (gI (sI u k3 (Int32.toNatClampNeg (gI u r 31)) p1) r 31)) (gI (sI u k3 (Int32.toNatClampNeg (gI u r 31)) p1) k7 (Int32.toNatClampNeg p1))) r 31)) p2) r 31 ((gI (sI (sI (sI u k3 (Int32.toNatClampNeg (gI u r 31)) p1) k9 (Int32.toNatClampNeg (gI (sI u k3 (Int32.toNatClampNeg (gI u r 31)) p1) r 31)) (gI (sI u k3 (Int32.toNatClampNeg (gI u r 31)) p1) k7 (Int32.toNatClampNeg p1))) k12 (Int32.toNatClampNeg (gI (sI (sI u k3 (Int32.toNatClampNeg (gI u r 31)) p1) k9 (Int32.toNatClampNeg (gI (sI u k3 (Int32.toNatClampNeg (gI u r 31)) p1) r 31)) (gI (sI u k3 (Int32.toNatClampNeg (gI u r 31)) p1) k7 (Int32.toNatClampNeg p1))) r 31)) p2) r 31) + (1 : Int32))) k18 (Int32.toNatClampNeg (gI (sI (sI (sI (sI u k3 (Int32.toNatClampNeg (gI u r 31)) p1) k9 (Int32.toNatClampNeg (gI (sI u k3 (Int32.toNatClampNeg (gI u r 31)) p1) r 31)) (gI (sI u k3 (Int32.toNatClampNeg (gI u r 31)) p1) k7 (Int32.toNatClampNeg p1))) k12 (Int32.toNatClampNeg (gI (sI (sI u k3 (Int32.toNatClampNeg (gI u r 31)) p1) k9 (Int32.toNatClampNeg (gI (sI u k3 (Int32.toNatClampNeg (gI u r 31)) p1) r 31)) (gI (sI u k3 (Int32.toNatClampNeg (gI u r 31)) p1) k7 (Int32.toNatClampNeg p1))) r 31)) p2) r 31 ((gI (sI (sI (sI u k3 (Int32.toNatClampNeg (gI u r 31)) p1) k9 (Int32.toNatClampNeg (gI (sI u k3 (Int32.toNatClampNeg (gI u r 31)) p1) r 31)) (gI (sI u k3 (Int32.toNatClampNeg (gI u r 31)) p1) k7 (Int32.toNatClampNeg p1))) k12 (Int32.toNatClampNeg (gI (sI (sI u k3 (Int32.toNatClampNeg (gI u r 31)) p1) k9 (Int32.toNatClampNeg (gI (sI u k3 (Int32.toNatClampNeg (gI u r 31)) p1) r 31)) (gI (sI u k3 (Int32.toNatClampNeg (gI u r 31)) p1) k7 (Int32.toNatClampNeg p1))) r 31)) p2) r 31) + (1 : Int32))) k16 (Int32.toNatClampNeg p1))) (-1 : Int32)) k21 (Int32.toNatClampNeg p2) p1) k24 (Int32.toNatClampNeg p1) p2))))))))))))))))))))))))))
set_option maxHeartbeats 4000000 in
set_option maxRecDepth 100000 in
theorem c_X8_take (l : Launch) (D : va_G) (cy : Nat → ClassId) (sz : Nat) (H0 : Heap) (u : Mm) (r : Nat) (p1 : Int32) (p2 : Int32) {res : Mm} (h : f_X8_take r p1 p2 u = some res) : Ctr l yX8_take cX8_take 3 none rm_X8_take 0 0 D cy sz H0 u [.ref (sz + r), .int p1, .int p2] none res := by
  refine m_start (lv := [(0, .ref (sz + r)), (1, .int p1), (2, .int p2)]) (by decide) (by first | exact Nat.le_of_ble_eq_true rfl | simp [lg_sl, rv_cat, cat_i, cat_l, cat_r, cat_n]) (by first | rfl | simp [lv_args, rv_cat, cat_i, cat_l, cat_r, cat_n]) ?_
  intro p e s m below meth c ls E hr hlk hinit hM hl
  obtain ⟨hx, hb, hml, hown, hts, hKK⟩ := id E
  obtain ⟨H, hH⟩ : ∃ H, H = s.heap := ⟨_, rfl⟩
  obtain ⟨locs, hlocs⟩ : ∃ L : List Loc, L = [] := ⟨_, rfl⟩
  rw [← hH, ← hlocs] at hM ⊢
  unfold f_X8_take at h
  refine lv_aload_n hx hb dX8_take_0 rfl (lv_at hl 0 rfl) ?_
  obtain ⟨ok1, h⟩ := k_gd h
  refine gs_X8_81 E hM ok1 dX8_take_1 (fun x2 hxx2 => ?_)
  replace h := k_bb h x2 hxx2.symm
  refine lv_aload_n hx hb dX8_take_4 rfl (lv_at hl 0 rfl) ?_
  refine gs_X8_186 E hM ok1 dX8_take_5 ?_
  refine lv_iload_n hx hb dX8_take_8 rfl (lv_at hl 1 rfl) ?_
  rcases x2 with _ | k3
  · cases h
  rw [cs_s] at h
  obtain ⟨ok4, h⟩ := k_gd h
  refine m_iast E hM ok4 dX8_take_9 (fun H locs hM => ?_)
  refine lv_aload_n hx hb dX8_take_10 rfl (lv_at hl 0 rfl) ?_
  refine gs_X8_84 E hM ok1 dX8_take_11 (fun x5 hxx5 => ?_)
  replace h := k_bb h x5 hxx5.symm
  refine lv_aload_n hx hb dX8_take_14 rfl (lv_at hl 0 rfl) ?_
  refine gs_X8_186 E hM ok1 dX8_take_15 ?_
  refine lv_aload_n hx hb dX8_take_18 rfl (lv_at hl 0 rfl) ?_
  refine gs_X8_78 E hM ok1 dX8_take_19 (fun x6 hxx6 => ?_)
  replace h := k_bb h x6 hxx6.symm
  refine lv_iload_n hx hb dX8_take_22 rfl (lv_at hl 1 rfl) ?_
  rcases x6 with _ | k7
  · cases h
  rw [cs_s] at h
  obtain ⟨ok8, h⟩ := k_gd h
  refine m_iald E hM ok8 dX8_take_23 ?_
  rcases x5 with _ | k9
  · cases h
  rw [cs_s] at h
  obtain ⟨ok10, h⟩ := k_gd h
  refine m_iast E hM ok10 dX8_take_24 (fun H locs hM => ?_)
  refine lv_aload_n hx hb dX8_take_25 rfl (lv_at hl 0 rfl) ?_
  refine gs_X8_87 E hM ok1 dX8_take_26 (fun x11 hxx11 => ?_)
  replace h := k_bb h x11 hxx11.symm
  refine lv_aload_n hx hb dX8_take_29 rfl (lv_at hl 0 rfl) ?_
  refine gs_X8_186 E hM ok1 dX8_take_30 ?_
  refine lv_iload_n hx hb dX8_take_33 rfl (lv_at hl 2 rfl) ?_
  rcases x11 with _ | k12
  · cases h
  rw [cs_s] at h
  obtain ⟨ok13, h⟩ := k_gd h
  refine m_iast E hM ok13 dX8_take_34 (fun H locs hM => ?_)
  refine lv_aload_n hx hb dX8_take_35 rfl (lv_at hl 0 rfl) ?_
  refine lv_dup hx hb dX8_take_36 rfl ?_
  refine gs_X8_186 E hM ok1 dX8_take_37 ?_
  refine lv_iconst (v := 1) hx hb dX8_take_40 (by decide) ?_
  refine lv_iadd hx hb dX8_take_41 ?_
  refine ps_X8_186 (v := ((gI (sI (sI (sI u k3 (Int32.toNatClampNeg (gI u r 31)) p1) k9 (Int32.toNatClampNeg (gI (sI u k3 (Int32.toNatClampNeg (gI u r 31)) p1) r 31)) (gI (sI u k3 (Int32.toNatClampNeg (gI u r 31)) p1) k7 (Int32.toNatClampNeg p1))) k12 (Int32.toNatClampNeg (gI (sI (sI u k3 (Int32.toNatClampNeg (gI u r 31)) p1) k9 (Int32.toNatClampNeg (gI (sI u k3 (Int32.toNatClampNeg (gI u r 31)) p1) r 31)) (gI (sI u k3 (Int32.toNatClampNeg (gI u r 31)) p1) k7 (Int32.toNatClampNeg p1))) r 31)) p2) r 31) + (1 : Int32))) E hM ok1 dX8_take_42 (fun H locs hM => ?_)
  refine lv_aload_n hx hb dX8_take_45 rfl (lv_at hl 0 rfl) ?_
  refine gs_X8_75 E hM ok1 dX8_take_46 (fun x14 hxx14 => ?_)
  replace h := k_bb h x14 hxx14.symm
  refine lv_aload_n hx hb dX8_take_49 rfl (lv_at hl 0 rfl) ?_
  refine gs_X8_78 E hM ok1 dX8_take_50 (fun x15 hxx15 => ?_)
  replace h := k_bb h x15 hxx15.symm
  refine lv_iload_n hx hb dX8_take_53 rfl (lv_at hl 1 rfl) ?_
  rcases x15 with _ | k16
  · cases h
  rw [cs_s] at h
  obtain ⟨ok17, h⟩ := k_gd h
  refine m_iald E hM ok17 dX8_take_54 ?_
  refine lv_iconst (v := (-1)) hx hb dX8_take_55 (by decide) ?_
  rcases x14 with _ | k18
  · cases h
  rw [cs_s] at h
  obtain ⟨ok19, h⟩ := k_gd h
  refine m_iast E hM ok19 dX8_take_56 (fun H locs hM => ?_)
  refine lv_aload_n hx hb dX8_take_57 rfl (lv_at hl 0 rfl) ?_
  refine gs_X8_75 E hM ok1 dX8_take_58 (fun x20 hxx20 => ?_)
  replace h := k_bb h x20 hxx20.symm
  refine lv_iload_n hx hb dX8_take_61 rfl (lv_at hl 2 rfl) ?_
  refine lv_iload_n hx hb dX8_take_62 rfl (lv_at hl 1 rfl) ?_
  rcases x20 with _ | k21
  · cases h
  rw [cs_s] at h
  obtain ⟨ok22, h⟩ := k_gd h
  refine m_iast E hM ok22 dX8_take_63 (fun H locs hM => ?_)
  refine lv_aload_n hx hb dX8_take_64 rfl (lv_at hl 0 rfl) ?_
  refine gs_X8_78 E hM ok1 dX8_take_65 (fun x23 hxx23 => ?_)
  replace h := k_bb h x23 hxx23.symm
  refine lv_iload_n hx hb dX8_take_68 rfl (lv_at hl 1 rfl) ?_
  refine lv_iload_n hx hb dX8_take_69 rfl (lv_at hl 2 rfl) ?_
  rcases x23 with _ | k24
  · cases h
  rw [cs_s] at h
  obtain ⟨ok25, h⟩ := k_gd h
  refine m_iast E hM ok25 dX8_take_70 (fun H locs hM => ?_)
  cases h
  exact m_vret hx hb hr hlk hM rfl dX8_take_71

