abbrev rm_X7_carried : Room := { frames := 3, cells := 0, slots := 0, locals := 108 }
def f_X7_carried (r : Nat) (u : Mm) : Option ((Int32) × Mm) := gd (okO u r 7) (bb (gR u r 3) (fun x2 => cs x2 none (fun k3 => gd (okO u k3 4) (bd (f_X4_makePlan k3 u) (fun w5 => (if w5.1 = 0 then gd (okO w5.2 r 7) (bd (f_X7_deny r (12 : Int32) w5.2) (fun w23 => gd (isB w23.1) (some (w23.1, w23.2)))) else gd (okO w5.2 r 7) (bb (gR w5.2 r 3) (fun x8 => cs x8 none (fun k9 => gd (okO w5.2 k9 4) (bb (gR w5.2 k9 0) (fun x11 => bb (gR w5.2 r 3) (fun x12 => cs x12 none (fun k13 => gd (okO w5.2 k13 4) (bb (gR w5.2 k13 1) (fun x15 => cs x11 none (fun k16 => gd (okO w5.2 k16 1) (bd (f_X1_copyFrom k16 x15 w5.2) (fun w18 => gd (okO w18 r 7) (bd (f_X7_grant r w18) (fun w20 => gd (isB w20.1) (some (w20.1, w20.2))))))))))))))))))))))
set_option maxHeartbeats 4000000 in
set_option maxRecDepth 100000 in
theorem c_X7_carried (l : Launch) (D : va_G) (cy : Nat → ClassId) (sz : Nat) (H0 : Heap) (u : Mm) (r : Nat) {res : (Int32) × Mm} (h : f_X7_carried r u = some res) : Ctr l yX7_carried cX7_carried 1 (some .boolean) rm_X7_carried 0 0 D cy sz H0 u [.ref (sz + r)] (some (.int res.1)) res.2 := by
  refine m_start (lv := [(0, .ref (sz + r))]) (by decide) (by first | exact Nat.le_of_ble_eq_true rfl | simp [lg_sl, rv_cat, cat_i, cat_l, cat_r, cat_n]) (by first | rfl | simp [lv_args, rv_cat, cat_i, cat_l, cat_r, cat_n]) ?_
  intro p e s m below meth c ls E hr hlk hinit hM hl
  obtain ⟨hx, hb, hml, hown, hts, hKK⟩ := id E
  obtain ⟨H, hH⟩ : ∃ H, H = s.heap := ⟨_, rfl⟩
  obtain ⟨locs, hlocs⟩ : ∃ L : List Loc, L = [] := ⟨_, rfl⟩
  rw [← hH, ← hlocs] at hM ⊢
  unfold f_X7_carried at h
  refine lv_aload_n hx hb dX7_carried_0 rfl (lv_at hl 0 rfl) ?_
  obtain ⟨ok1, h⟩ := k_gd h
  refine gs_X7_32 E hM ok1 dX7_carried_1 (fun x2 hxx2 => ?_)
  replace h := k_bb h x2 hxx2.symm
  rcases x2 with _ | k3
  · cases h
  rw [cs_s] at h
  obtain ⟨ok4, h⟩ := k_gd h
  obtain ⟨w5, hzw5, h⟩ := k_bd h
  refine m_callV (C := RX4) (T := TX4) (N := 7) (ci := 4) (n := 0) (As := []) (rest := []) (st1 := (.int w5.1 :: [])) E hM hl.1 ok4 (by decide) rfl rfl (c_X4_makePlan l D cy sz H0 u k3 hzw5) wl_X7_258 wm_X4_makePlan ws_X4_makePlan wi_X4 wd_X4_makePlan rfl rfl (by decide +kernel) ⟨by decide, by decide⟩ rfl rfl (by first | exact Nat.le_of_ble_eq_true rfl | simp [rv_cat, cat_i, cat_l, cat_r, cat_n]) dX7_carried_4 ⟨by decide, by decide⟩ rfl (fun H locs hM => ?_)
  refine lv_if_ne (tgt := 17) hx hb dX7_carried_7 (by decide) (fun c6 => ?_) (fun c6 => ?_)
  · replace h := (k_if h).2 c6
    refine lv_aload_n hx hb dX7_carried_17 rfl (lv_at hl 0 rfl) ?_
    obtain ⟨ok7, h⟩ := k_gd h
    refine gs_X7_32 E hM ok7 dX7_carried_18 (fun x8 hxx8 => ?_)
    replace h := k_bb h x8 hxx8.symm
    rcases x8 with _ | k9
    · cases h
    rw [cs_s] at h
    obtain ⟨ok10, h⟩ := k_gd h
    refine gs_X7_143 E hM ok10 dX7_carried_21 (fun x11 hxx11 => ?_)
    replace h := k_bb h x11 hxx11.symm
    refine lv_aload_n hx hb dX7_carried_24 rfl (lv_at hl 0 rfl) ?_
    refine gs_X7_32 E hM ok7 dX7_carried_25 (fun x12 hxx12 => ?_)
    replace h := k_bb h x12 hxx12.symm
    rcases x12 with _ | k13
    · cases h
    rw [cs_s] at h
    obtain ⟨ok14, h⟩ := k_gd h
    refine gs_X7_273 E hM ok14 dX7_carried_28 (fun x15 hxx15 => ?_)
    replace h := k_bb h x15 hxx15.symm
    rcases x11 with _ | k16
    · cases h
    rw [cs_s] at h
    obtain ⟨ok17, h⟩ := k_gd h
    obtain ⟨w18, hzw18, h⟩ := k_bd h
    refine m_callV (C := RX1) (T := TX1) (N := 2) (ci := 1) (n := 1) (As := [rv sz x15]) (rest := []) (st1 := []) E hM hl.1 ok17 (by decide) rfl rfl (c_X1_copyFrom l D cy sz H0 w5.2 k16 x15 hzw18) wl_X7_276 wm_X1_copyFrom ws_X1_copyFrom wi_X1 wd_X1_copyFrom rfl rfl (by decide +kernel) ⟨by decide, by decide⟩ rfl rfl (by first | exact Nat.le_of_ble_eq_true rfl | simp [rv_cat, cat_i, cat_l, cat_r, cat_n]) dX7_carried_31 ⟨by decide, by decide⟩ rfl (fun H locs hM => ?_)
    refine lv_aload_n hx hb dX7_carried_34 rfl (lv_at hl 0 rfl) ?_
    obtain ⟨ok19, h⟩ := k_gd h
    obtain ⟨w20, hzw20, h⟩ := k_bd h
    refine m_callV (C := RX7) (T := TX7) (N := 8) (ci := 7) (n := 0) (As := []) (rest := []) (st1 := (.int w20.1 :: [])) E hM hl.1 ok19 (by decide) rfl rfl (c_X7_grant l D cy sz H0 w18 r hzw20) wl_X7_71 wm_X7_grant ws_X7_grant wi_X7 wd_X7_grant rfl rfl (by decide +kernel) ⟨by decide, by decide⟩ rfl rfl (by first | exact Nat.le_of_ble_eq_true rfl | simp [rv_cat, cat_i, cat_l, cat_r, cat_n]) dX7_carried_35 ⟨by decide, by decide⟩ rfl (fun H locs hM => ?_)
    obtain ⟨hB21, h⟩ := k_gd h
    cases h
    exact m_zret hx hb hr hlk hM hB21 rfl rfl dX7_carried_38
  · replace h := (k_if h).1 c6
    refine lv_aload_n hx hb dX7_carried_10 rfl (lv_at hl 0 rfl) ?_
    refine lv_bipush (v := 12) hx hb dX7_carried_11 (by decide) ?_
    obtain ⟨ok22, h⟩ := k_gd h
    obtain ⟨w23, hzw23, h⟩ := k_bd h
    refine m_callV (C := RX7) (T := TX7) (N := 8) (ci := 7) (n := 1) (As := [.int (12 : Int32)]) (rest := []) (st1 := (.int w23.1 :: [])) E hM hl.1 ok22 (by decide) rfl rfl (c_X7_deny l D cy sz H0 w5.2 r (12 : Int32) hzw23) wl_X7_63 wm_X7_deny ws_X7_deny wi_X7 wd_X7_deny rfl rfl (by decide +kernel) ⟨by decide, by decide⟩ rfl rfl (by first | exact Nat.le_of_ble_eq_true rfl | simp [rv_cat, cat_i, cat_l, cat_r, cat_n]) dX7_carried_13 ⟨by decide, by decide⟩ rfl (fun H locs hM => ?_)
    obtain ⟨hB24, h⟩ := k_gd h
    cases h
    exact m_zret hx hb hr hlk hM hB24 rfl rfl dX7_carried_16

abbrev rm_X7_commonDivisor : Room := { frames := 0, cells := 0, slots := 0, locals := 0 }
def L_X7_commonDivisor_9 (b0 : Int64) (b2 : Int64) (u : Mm) (k : Int64 → Int64 → Int32 → Option (Int64)) : Nat → Int64 → Int64 → Int32 → Option (Int64)
  | 0, _, _, _ => none
  | n + 1, a4, a6, a8 => (if (200 : Int32) ≤ a8 then k a4 a6 a8 else (if (lg_cmp a6 (0 : Int64)) = 0 then k a4 a6 a8 else gd (decide (¬ a6 = 0)) (bb ((a4 - a4 / a6 * a6)) (fun v4 => bb (a8 + (1)) (fun v5 => L_X7_commonDivisor_9 b0 b2 u k n a6 v4 v5)))))
set_option maxHeartbeats 4000000 in
set_option maxRecDepth 100000 in
theorem lp_X7_commonDivisor_9 {p : Program} {l : Launch} {e : Env} {s : State} {m : MethodId} {args : Array Value} {below : List Frame} {meth : Method} {c : Code} {D : va_G} {cy : Nat → ClassId} {sz : Nat} {H0 : Heap} {b0 : Int64} {b2 : Int64} {u : Mm} {k : Int64 → Int64 → Int32 → Option (Int64)} {res : Int64} (hr : meth.sig.returnType = (some .long)) (hlk : meth.locks = false) (E : EE p s m args c cX7_commonDivisor 11 RX7 D cy) : ∀ (n : Nat) (a4 : Int64) (a6 : Int64) (a8 : Int32) (H : Heap) (locs : List Loc) (ls : Array Slot), MM D cy sz H0 u H locs → lv_has ls 11 [(0, .long b0), (2, .long b2), (4, .long a4), (6, .long a6), (8, .int a8)] → L_X7_commonDivisor_9 b0 b2 u k n a4 a6 a8 = some res → (∀ (a4 : Int64) (a6 : Int64) (a8 : Int32) (H : Heap) (locs : List Loc) (ls : Array Slot), MM D cy sz H0 u H locs → lv_has ls 11 [(0, .long b0), (2, .long b2), (4, .long a4), (6, .long a6), (8, .int a8)] → k a4 a6 a8 = some res → W p l e rm_X7_commonDivisor s m args below meth c H locs 0 0 (MQ below (Post D cy sz H0 (some (.long res)) u) args s 0 0 (fun q => sz ≤ q)) (F0 m 45 ls [])) → W p l e rm_X7_commonDivisor s m args below meth c H locs 0 0 (MQ below (Post D cy sz H0 (some (.long res)) u) args s 0 0 (fun q => sz ≤ q)) (F0 m 9 ls []) := by
  obtain ⟨hx, hb, hml, hown, hts, hKK⟩ := id E
  intro n
  induction n with
  | zero => intros; rename_i h _; cases h
  | succ n ih =>
    intro a4 a6 a8 H locs ls hM hl h hk
    rw [L_X7_commonDivisor_9] at h
    refine lv_iload hx hb dX7_commonDivisor_9 (lv_at hl 4 rfl) ?_
    refine lv_sipush (v := 200) hx hb dX7_commonDivisor_11 (by decide) ?_
    refine lv_icmp_ge (tgt := 45) hx hb dX7_commonDivisor_14 (by decide) (fun c1 => ?_) (fun c1 => ?_)
    · replace h := (k_if h).1 c1
      exact hk a4 a6 a8 H locs ls hM (lv_sub hl [0, 1, 2, 3, 4] rfl) h
    · replace h := (k_if h).2 c1
      refine lv_lload hx hb dX7_commonDivisor_17 (lv_at hl 3 rfl) ?_
      refine lv_lconst (v := 0) hx hb dX7_commonDivisor_19 (by decide) ?_
      refine W.lcmp hx hb dX7_commonDivisor_20 ?_
      refine lv_if_eq (tgt := 45) hx hb dX7_commonDivisor_21 (by decide) (fun c2 => ?_) (fun c2 => ?_)
      · replace h := (k_if h).1 c2
        exact hk a4 a6 a8 H locs ls hM (lv_sub hl [0, 1, 2, 3, 4] rfl) h
      · replace h := (k_if h).2 c2
        refine lv_lload hx hb dX7_commonDivisor_24 (lv_at hl 2 rfl) ?_
        refine lv_lload hx hb dX7_commonDivisor_26 (lv_at hl 3 rfl) ?_
        obtain ⟨nz3, h⟩ := k_gd h
        refine lv_lrem hx hb dX7_commonDivisor_28 (of_decide_eq_true nz3) ?_
        refine lv_topl (fun v4 hvv4 => ?_)
        replace h := k_bb h v4 hvv4
        refine lv_lstore (i := 9) (lv' := [(9, .long v4), (0, .long b0), (2, .long b2), (4, .long a4), (6, .long a6), (8, .int a8)]) hx hb dX7_commonDivisor_29 hl (by decide) (by first | rfl | simp [rv_cat, cat_i, cat_l, cat_r, cat_n]) (fun ls hl => ?_)
        refine lv_lload hx hb dX7_commonDivisor_31 (lv_at hl 4 rfl) ?_
        refine lv_lstore (i := 4) (lv' := [(4, .long a6), (9, .long v4), (0, .long b0), (2, .long b2), (6, .long a6), (8, .int a8)]) hx hb dX7_commonDivisor_33 hl (by decide) (by first | rfl | simp [rv_cat, cat_i, cat_l, cat_r, cat_n]) (fun ls hl => ?_)
        refine lv_lload hx hb dX7_commonDivisor_35 (lv_at hl 1 rfl) ?_
        refine lv_lstore (i := 6) (lv' := [(6, .long v4), (4, .long a6), (9, .long v4), (0, .long b0), (2, .long b2), (8, .int a8)]) hx hb dX7_commonDivisor_37 hl (by decide) (by first | rfl | simp [rv_cat, cat_i, cat_l, cat_r, cat_n]) (fun ls hl => ?_)
        obtain ⟨v5, hvv5⟩ : ∃ y : Int32, y = a8 + (1) := ⟨_, rfl⟩
        replace h := k_bb h v5 hvv5
        refine lv_iinc (v := v5) (lv' := [(8, .int v5), (6, .long v4), (4, .long a6), (9, .long v4), (0, .long b0), (2, .long b2)]) hx hb dX7_commonDivisor_39 hl (k := 5) rfl (by rw [hvv5]; rfl) (by decide) (by first | rfl | simp [rv_cat, cat_i, cat_l, cat_r, cat_n]) (fun ls hl => ?_)
        refine lv_goto (tgt := 9) hx hb dX7_commonDivisor_42 (by decide) ?_
        exact ih a6 v4 v5 H locs ls hM (lv_sub hl [4, 5, 2, 1, 0] rfl) h hk

def f_X7_commonDivisor (p1 : Int64) (p2 : Int64) (u : Mm) : Option (Int64) := L_X7_commonDivisor_9 p1 p2 u (fun a6 a7 a8 => some a6) 1000 p1 p2 (0 : Int32) 
set_option maxHeartbeats 4000000 in
set_option maxRecDepth 100000 in
theorem c_X7_commonDivisor (l : Launch) (D : va_G) (cy : Nat → ClassId) (sz : Nat) (H0 : Heap) (u : Mm) (p1 : Int64) (p2 : Int64) {res : Int64} (h : f_X7_commonDivisor p1 p2 u = some res) : Ctr l yX7_commonDivisor cX7_commonDivisor 11 (some .long) rm_X7_commonDivisor 0 0 D cy sz H0 u [.long p1, .long p2] (some (.long res)) u := by
  refine m_start (lv := [(0, .long p1), (2, .long p2)]) (by decide) (by first | exact Nat.le_of_ble_eq_true rfl | simp [lg_sl, rv_cat, cat_i, cat_l, cat_r, cat_n]) (by first | rfl | simp [lv_args, rv_cat, cat_i, cat_l, cat_r, cat_n]) ?_
  intro p e s m below meth c ls E hr hlk hinit hM hl
  obtain ⟨hx, hb, hml, hown, hts, hKK⟩ := id E
  obtain ⟨H, hH⟩ : ∃ H, H = s.heap := ⟨_, rfl⟩
  obtain ⟨locs, hlocs⟩ : ∃ L : List Loc, L = [] := ⟨_, rfl⟩
  rw [← hH, ← hlocs] at hM ⊢
  unfold f_X7_commonDivisor at h
  refine lv_lload_n hx hb dX7_commonDivisor_0 rfl (lv_at hl 0 rfl) ?_
  refine lv_lstore (i := 4) (lv' := [(4, .long p1), (0, .long p1), (2, .long p2)]) hx hb dX7_commonDivisor_1 hl (by decide) (by first | rfl | simp [rv_cat, cat_i, cat_l, cat_r, cat_n]) (fun ls hl => ?_)
  refine lv_lload_n hx hb dX7_commonDivisor_3 rfl (lv_at hl 2 rfl) ?_
  refine lv_lstore (i := 6) (lv' := [(6, .long p2), (4, .long p1), (0, .long p1), (2, .long p2)]) hx hb dX7_commonDivisor_4 hl (by decide) (by first | rfl | simp [rv_cat, cat_i, cat_l, cat_r, cat_n]) (fun ls hl => ?_)
  refine lv_iconst (v := 0) hx hb dX7_commonDivisor_6 (by decide) ?_
  refine lv_istore (i := 8) (lv' := [(8, .int (0 : Int32)), (6, .long p2), (4, .long p1), (0, .long p1), (2, .long p2)]) hx hb dX7_commonDivisor_7 hl (by decide) (by first | rfl | simp [rv_cat, cat_i, cat_l, cat_r, cat_n]) (fun ls hl => ?_)
  refine lp_X7_commonDivisor_9 hr hlk  E 1000 p1 p2 (0 : Int32) H locs ls hM (lv_sub hl [3, 4, 2, 1, 0] rfl) h (fun a6 a7 a8 H locs ls hM hl h => ?_)
  refine lv_lload hx hb dX7_commonDivisor_45 (lv_at hl 2 rfl) ?_
  cases h
  exact m_lret hx hb hr hlk hM rfl rfl dX7_commonDivisor_47

abbrev rm_X7_keepFraction : Room := { frames := 1, cells := 0, slots := 0, locals := 36 }
def f_X7_keepFraction (r : Nat) (p1 : Int64) (p2 : Int64) (u : Mm) : Option (Mm) := bd (f_X7_commonDivisor p1 p2 u) (fun w1 => (if (lg_cmp w1 (0 : Int64)) ≤ 0 then some u else gd (decide (¬ w1 = 0)) (gd (okO u r 7) (gd (decide (¬ w1 = 0)) (some (sL (sL u r 6 (p1 / w1)) r 7 (p2 / w1)))))))
set_option maxHeartbeats 4000000 in
set_option maxRecDepth 100000 in
theorem c_X7_keepFraction (l : Launch) (D : va_G) (cy : Nat → ClassId) (sz : Nat) (H0 : Heap) (u : Mm) (r : Nat) (p1 : Int64) (p2 : Int64) {res : Mm} (h : f_X7_keepFraction r p1 p2 u = some res) : Ctr l yX7_keepFraction cX7_keepFraction 7 none rm_X7_keepFraction 0 0 D cy sz H0 u [.ref (sz + r), .long p1, .long p2] none res := by
  refine m_start (lv := [(0, .ref (sz + r)), (1, .long p1), (3, .long p2)]) (by decide) (by first | exact Nat.le_of_ble_eq_true rfl | simp [lg_sl, rv_cat, cat_i, cat_l, cat_r, cat_n]) (by first | rfl | simp [lv_args, rv_cat, cat_i, cat_l, cat_r, cat_n]) ?_
  intro p e s m below meth c ls E hr hlk hinit hM hl
  obtain ⟨hx, hb, hml, hown, hts, hKK⟩ := id E
  obtain ⟨H, hH⟩ : ∃ H, H = s.heap := ⟨_, rfl⟩
  obtain ⟨locs, hlocs⟩ : ∃ L : List Loc, L = [] := ⟨_, rfl⟩
  rw [← hH, ← hlocs] at hM ⊢
  unfold f_X7_keepFraction at h
  refine lv_lload_n hx hb dX7_keepFraction_0 rfl (lv_at hl 1 rfl) ?_
  refine lv_lload_n hx hb dX7_keepFraction_1 rfl (lv_at hl 2 rfl) ?_
  obtain ⟨w1, hzw1, h⟩ := k_bd h
  refine m_callS (n := 2) (As := [.long p1, .long p2]) (rest := []) (st1 := (.long w1 :: [])) E hM hl.1 (c_X7_commonDivisor l D cy sz H0 u p1 p2 hzw1) wl_X7_301 wst_X7_commonDivisor wi_X7 wd_X7_commonDivisor rfl rfl (by decide +kernel) ⟨by decide, by decide⟩ rfl rfl (by first | exact Nat.le_of_ble_eq_true rfl | simp [rv_cat, cat_i, cat_l, cat_r, cat_n]) dX7_keepFraction_2 ⟨by decide, by decide⟩ rfl (fun H locs hM => ?_)
  refine lv_lstore (i := 5) (lv' := [(5, .long w1), (0, .ref (sz + r)), (1, .long p1), (3, .long p2)]) hx hb dX7_keepFraction_5 hl (by decide) (by first | rfl | simp [rv_cat, cat_i, cat_l, cat_r, cat_n]) (fun ls hl => ?_)
  refine lv_lload hx hb dX7_keepFraction_7 (lv_at hl 0 rfl) ?_
  refine lv_lconst (v := 0) hx hb dX7_keepFraction_9 (by decide) ?_
  refine W.lcmp hx hb dX7_keepFraction_10 ?_
  refine lv_if_le (tgt := 30) hx hb dX7_keepFraction_11 (by decide) (fun c2 => ?_) (fun c2 => ?_)
  · replace h := (k_if h).1 c2
    cases h
    exact m_vret hx hb hr hlk hM rfl dX7_keepFraction_30
  · replace h := (k_if h).2 c2
    refine lv_aload_n hx hb dX7_keepFraction_14 rfl (lv_at hl 1 rfl) ?_
    refine lv_lload_n hx hb dX7_keepFraction_15 rfl (lv_at hl 2 rfl) ?_
    refine lv_lload hx hb dX7_keepFraction_16 (lv_at hl 0 rfl) ?_
    obtain ⟨nz3, h⟩ := k_gd h
    refine lv_ldiv hx hb dX7_keepFraction_18 (of_decide_eq_true nz3) ?_
    obtain ⟨ok4, h⟩ := k_gd h
    refine ps_X7_47 (v := (p1 / w1)) E hM ok4 dX7_keepFraction_19 (fun H locs hM => ?_)
    refine lv_aload_n hx hb dX7_keepFraction_22 rfl (lv_at hl 1 rfl) ?_
    refine lv_lload_n hx hb dX7_keepFraction_23 rfl (lv_at hl 3 rfl) ?_
    refine lv_lload hx hb dX7_keepFraction_24 (lv_at hl 0 rfl) ?_
    obtain ⟨nz5, h⟩ := k_gd h
    refine lv_ldiv hx hb dX7_keepFraction_26 (of_decide_eq_true nz5) ?_
    refine ps_X7_51 (v := (p2 / w1)) E hM ok4 dX7_keepFraction_27 (fun H locs hM => ?_)
    cases h
    exact m_vret hx hb hr hlk hM rfl dX7_keepFraction_30

abbrev rm_X7_search : Room := { frames := 2, cells := 0, slots := 0, locals := 72 }
def f_X7_search (r : Nat) (p1 : Int32) (p2 : Int32) (p3 : Int32) (u : Mm) : Option ((Int32) × Mm) := gd (okO u r 7) (bd (f_X7_trayAt r p1 u) (fun w2 => cs w2 (bd (f_X7_refuse r (1 : Int32) u) (fun w4 => some (w4.1, w4.2))) (fun k3 => gd (okO u k3 6) (bd (f_X6_isMissing k3 u) (fun w6 => (if w6 = 0 then bd (f_X7_within p2 (1 : Int32) (20 : Int32) u) (fun w8 => (if w8 = 0 then bd (f_X7_refuse r (5 : Int32) u) (fun w48 => some (w48.1, w48.2)) else bd (f_X6_hasRun k3 (0 : Int32) ((2 : Int32) * p2) u) (fun w10 => (if w10 = 0 then bd (f_X7_refuse r (4 : Int32) u) (fun w47 => some (w47.1, w47.2)) else bb (gR u r 4) (fun x12 => bb (gR u k3 0) (fun x13 => cs x12 none (fun k14 => gd (okO u k14 3) (bd (f_X3_takes k14 x13 p2 u) (fun w16 => (if w16.1 = 0 then gd (okO w16.2 r 7) (bd (f_X7_refuse r (5 : Int32) w16.2) (fun w46 => some (w46.1, w46.2))) else bd (f_X7_within p3 (0 : Int32) (p2 - (1 : Int32)) w16.2) (fun w18 => (if w18 = 0 then gd (okO w16.2 r 7) (bd (f_X7_refuse r (9 : Int32) w16.2) (fun w44 => some (w44.1, w44.2))) else gd (okO w16.2 r 7) (bb (gR w16.2 r 4) (fun x21 => cs x21 none (fun k22 => gd (okO w16.2 k22 3) (bd (f_X3_arrange k22 w16.2) (fun w24 => gd (okO w24 r 7) (bb (gR w24 r 4) (fun x26 => cs x26 none (fun k27 => gd (okO w24 k27 3) (bd (f_X3_weightedCosts k27 w24) (fun w29 => bb (gR w24 r 4) (fun x30 => cs x30 none (fun k31 => gd (okO w24 k31 3) (bd (f_X3_weights k31 w24) (fun w33 => bd (f_X7_keepFraction r w29 w33 w24) (fun w34 => gd (okO w34 r 7) (bb (gR w34 r 4) (fun x36 => cs x36 none (fun k37 => gd (okO w34 k37 3) (bb (gR w34 k37 0) (fun x39 => cs x39 none (fun k40 => gd (okA w34 k40 9 p3) (bd (f_X7_answer r (gI w34 k40 (Int32.toNatClampNeg p3)) w34) (fun w42 => some (w42.1, w42.2)))))))))))))))))))))))))))))))))))) else bd (f_X7_refuse r (3 : Int32) u) (fun w49 => some (w49.1, w49.2))))))))
set_option maxHeartbeats 4000000 in
set_option maxRecDepth 100000 in
theorem c_X7_search (l : Launch) (D : va_G) (cy : Nat → ClassId) (sz : Nat) (H0 : Heap) (u : Mm) (r : Nat) (p1 : Int32) (p2 : Int32) (p3 : Int32) {res : (Int32) × Mm} (h : f_X7_search r p1 p2 p3 u = some res) : Ctr l yX7_search cX7_search 5 (some .int) rm_X7_search 0 0 D cy sz H0 u [.ref (sz + r), .int p1, .int p2, .int p3] (some (.int res.1)) res.2 := by
  refine m_start (lv := [(0, .ref (sz + r)), (1, .int p1), (2, .int p2), (3, .int p3)]) (by decide) (by first | exact Nat.le_of_ble_eq_true rfl | simp [lg_sl, rv_cat, cat_i, cat_l, cat_r, cat_n]) (by first | rfl | simp [lv_args, rv_cat, cat_i, cat_l, cat_r, cat_n]) ?_
  intro p e s m below meth c ls E hr hlk hinit hM hl
  obtain ⟨hx, hb, hml, hown, hts, hKK⟩ := id E
  obtain ⟨H, hH⟩ : ∃ H, H = s.heap := ⟨_, rfl⟩
  obtain ⟨locs, hlocs⟩ : ∃ L : List Loc, L = [] := ⟨_, rfl⟩
  rw [← hH, ← hlocs] at hM ⊢
  unfold f_X7_search at h
  refine lv_aload_n hx hb dX7_search_0 rfl (lv_at hl 0 rfl) ?_
  refine lv_iload_n hx hb dX7_search_1 rfl (lv_at hl 1 rfl) ?_
  obtain ⟨ok1, h⟩ := k_gd h
  obtain ⟨w2, hzw2, h⟩ := k_bd h
  refine m_callV (C := RX7) (T := TX7) (N := 8) (ci := 7) (n := 1) (As := [.int p1]) (rest := []) (st1 := (rv sz w2 :: [])) E hM hl.1 ok1 (by decide) rfl rfl (c_X7_trayAt l D cy sz H0 u r p1 hzw2) wl_X7_55 wm_X7_trayAt ws_X7_trayAt wi_X7 wd_X7_trayAt rfl rfl (by decide +kernel) ⟨by decide, by decide⟩ rfl rfl (by first | exact Nat.le_of_ble_eq_true rfl | simp [rv_cat, cat_i, cat_l, cat_r, cat_n]) dX7_search_2 ⟨by decide, by decide⟩ rfl (fun H locs hM => ?_)
  refine m_astore (i := 4) (lv' := [(4, rv sz w2), (0, .ref (sz + r)), (1, .int p1), (2, .int p2), (3, .int p3)]) hx hb dX7_search_5 hl (by decide) (by first | rfl | simp [rv_cat, cat_i, cat_l, cat_r, cat_n]) (fun ls hl => ?_)
  refine m_aload hx hb dX7_search_7 (lv_at hl 0 rfl) ?_
  rcases w2 with _ | k3
  · rw [cs_n] at h
    refine lv_ifnonnullN hx hb dX7_search_9 ?_
    refine lv_aload_n hx hb dX7_search_12 rfl (lv_at hl 1 rfl) ?_
    refine lv_iconst (v := 1) hx hb dX7_search_13 (by decide) ?_
    obtain ⟨w4, hzw4, h⟩ := k_bd h
    refine m_callV (C := RX7) (T := TX7) (N := 8) (ci := 7) (n := 1) (As := [.int (1 : Int32)]) (rest := []) (st1 := (.int w4.1 :: [])) E hM hl.1 ok1 (by decide) rfl rfl (c_X7_refuse l D cy sz H0 u r (1 : Int32) hzw4) wl_X7_83 wm_X7_refuse ws_X7_refuse wi_X7 wd_X7_refuse rfl rfl (by decide +kernel) ⟨by decide, by decide⟩ rfl rfl (by first | exact Nat.le_of_ble_eq_true rfl | simp [rv_cat, cat_i, cat_l, cat_r, cat_n]) dX7_search_14 ⟨by decide, by decide⟩ rfl (fun H locs hM => ?_)
    cases h
    exact m_iret hx hb hr hlk hM rfl rfl dX7_search_17
  · rw [cs_s] at h
    refine lv_ifnonnull (tgt := 18) hx hb dX7_search_9 (by decide) ?_
    refine lv_aload hx hb dX7_search_18 (lv_at hl 0 rfl) ?_
    obtain ⟨ok5, h⟩ := k_gd h
    obtain ⟨w6, hzw6, h⟩ := k_bd h
    refine m_callV (C := RX6) (T := TX6) (N := 3) (ci := 6) (n := 0) (As := []) (rest := []) (st1 := (.int w6 :: [])) E hM hl.1 ok5 (by decide) rfl rfl (c_X6_isMissing l D cy sz H0 u k3 hzw6) wl_X7_91 wm_X6_isMissing ws_X6_isMissing wi_X6 wd_X6_isMissing rfl rfl (by decide +kernel) ⟨by decide, by decide⟩ rfl rfl (by first | exact Nat.le_of_ble_eq_true rfl | simp [rv_cat, cat_i, cat_l, cat_r, cat_n]) dX7_search_20 ⟨by decide, by decide⟩ rfl (fun H locs hM => ?_)
    refine lv_if_eq (tgt := 32) hx hb dX7_search_23 (by decide) (fun c7 => ?_) (fun c7 => ?_)
    · replace h := (k_if h).1 c7
      refine lv_iload_n hx hb dX7_search_32 rfl (lv_at hl 3 rfl) ?_
      refine lv_iconst (v := 1) hx hb dX7_search_33 (by decide) ?_
      refine lv_bipush (v := 20) hx hb dX7_search_34 (by decide) ?_
      obtain ⟨w8, hzw8, h⟩ := k_bd h
      refine m_callS (n := 3) (As := [.int p2, .int (1 : Int32), .int (20 : Int32)]) (rest := []) (st1 := (.int w8 :: [])) E hM hl.1 (c_X7_within l D cy sz H0 u p2 (1 : Int32) (20 : Int32) hzw8) wl_X7_59 wst_X7_within wi_X7 wd_X7_within rfl rfl (by decide +kernel) ⟨by decide, by decide⟩ rfl rfl (by first | exact Nat.le_of_ble_eq_true rfl | simp [rv_cat, cat_i, cat_l, cat_r, cat_n]) dX7_search_36 ⟨by decide, by decide⟩ rfl (fun H locs hM => ?_)
      refine lv_if_ne (tgt := 48) hx hb dX7_search_39 (by decide) (fun c9 => ?_) (fun c9 => ?_)
      · replace h := (k_if h).2 c9
        refine lv_aload hx hb dX7_search_48 (lv_at hl 0 rfl) ?_
        refine lv_iconst (v := 0) hx hb dX7_search_50 (by decide) ?_
        refine lv_iconst (v := 2) hx hb dX7_search_51 (by decide) ?_
        refine lv_iload_n hx hb dX7_search_52 rfl (lv_at hl 3 rfl) ?_
        refine lv_imul hx hb dX7_search_53 ?_
        obtain ⟨w10, hzw10, h⟩ := k_bd h
        refine m_callV (C := RX6) (T := TX6) (N := 3) (ci := 6) (n := 2) (As := [.int (0 : Int32), .int ((2 : Int32) * p2)]) (rest := []) (st1 := (.int w10 :: [])) E hM hl.1 ok5 (by decide) rfl rfl (c_X6_hasRun l D cy sz H0 u k3 (0 : Int32) ((2 : Int32) * p2) hzw10) wl_X7_97 wm_X6_hasRun ws_X6_hasRun wi_X6 wd_X6_hasRun rfl rfl (by decide +kernel) ⟨by decide, by decide⟩ rfl rfl (by first | exact Nat.le_of_ble_eq_true rfl | simp [rv_cat, cat_i, cat_l, cat_r, cat_n]) dX7_search_54 ⟨by decide, by decide⟩ rfl (fun H locs hM => ?_)
        refine lv_if_ne (tgt := 66) hx hb dX7_search_57 (by decide) (fun c11 => ?_) (fun c11 => ?_)
        · replace h := (k_if h).2 c11
          refine lv_aload_n hx hb dX7_search_66 rfl (lv_at hl 1 rfl) ?_
          refine gs_X7_39 E hM ok1 dX7_search_67 (fun x12 hxx12 => ?_)
          replace h := k_bb h x12 hxx12.symm
          refine lv_aload hx hb dX7_search_70 (lv_at hl 0 rfl) ?_
          refine gs_X7_87 E hM ok5 dX7_search_72 (fun x13 hxx13 => ?_)
          replace h := k_bb h x13 hxx13.symm
          refine lv_iload_n hx hb dX7_search_75 rfl (lv_at hl 3 rfl) ?_
          rcases x12 with _ | k14
          · cases h
          rw [cs_s] at h
          obtain ⟨ok15, h⟩ := k_gd h
          obtain ⟨w16, hzw16, h⟩ := k_bd h
          refine m_callV (C := RX3) (T := TX3) (N := 4) (ci := 3) (n := 2) (As := [rv sz x13, .int p2]) (rest := []) (st1 := (.int w16.1 :: [])) E hM hl.1 ok15 (by decide) rfl rfl (c_X3_takes l D cy sz H0 u k14 x13 p2 hzw16) wl_X7_280 wm_X3_takes ws_X3_takes wi_X3 wd_X3_takes rfl rfl (by decide +kernel) ⟨by decide, by decide⟩ rfl rfl (by first | exact Nat.le_of_ble_eq_true rfl | simp [rv_cat, cat_i, cat_l, cat_r, cat_n]) dX7_search_76 ⟨by decide, by decide⟩ rfl (fun H locs hM => ?_)
          refine lv_if_ne (tgt := 88) hx hb dX7_search_79 (by decide) (fun c17 => ?_) (fun c17 => ?_)
          · replace h := (k_if h).2 c17
            refine lv_iload_n hx hb dX7_search_88 rfl (lv_at hl 4 rfl) ?_
            refine lv_iconst (v := 0) hx hb dX7_search_89 (by decide) ?_
            refine lv_iload_n hx hb dX7_search_90 rfl (lv_at hl 3 rfl) ?_
            refine lv_iconst (v := 1) hx hb dX7_search_91 (by decide) ?_
            refine lv_isub hx hb dX7_search_92 ?_
            obtain ⟨w18, hzw18, h⟩ := k_bd h
            refine m_callS (n := 3) (As := [.int p3, .int (0 : Int32), .int (p2 - (1 : Int32))]) (rest := []) (st1 := (.int w18 :: [])) E hM hl.1 (c_X7_within l D cy sz H0 w16.2 p3 (0 : Int32) (p2 - (1 : Int32)) hzw18) wl_X7_59 wst_X7_within wi_X7 wd_X7_within rfl rfl (by decide +kernel) ⟨by decide, by decide⟩ rfl rfl (by first | exact Nat.le_of_ble_eq_true rfl | simp [rv_cat, cat_i, cat_l, cat_r, cat_n]) dX7_search_93 ⟨by decide, by decide⟩ rfl (fun H locs hM => ?_)
            refine lv_if_ne (tgt := 106) hx hb dX7_search_96 (by decide) (fun c19 => ?_) (fun c19 => ?_)
            · replace h := (k_if h).2 c19
              refine lv_aload_n hx hb dX7_search_106 rfl (lv_at hl 1 rfl) ?_
              obtain ⟨ok20, h⟩ := k_gd h
              refine gs_X7_39 E hM ok20 dX7_search_107 (fun x21 hxx21 => ?_)
              replace h := k_bb h x21 hxx21.symm
              rcases x21 with _ | k22
              · cases h
              rw [cs_s] at h
              obtain ⟨ok23, h⟩ := k_gd h
              obtain ⟨w24, hzw24, h⟩ := k_bd h
              refine m_callV (C := RX3) (T := TX3) (N := 4) (ci := 3) (n := 0) (As := []) (rest := []) (st1 := []) E hM hl.1 ok23 (by decide) rfl rfl (c_X3_arrange l D cy sz H0 w16.2 k22 hzw24) wl_X7_284 wm_X3_arrange ws_X3_arrange wi_X3 wd_X3_arrange rfl rfl (by decide +kernel) ⟨by decide, by decide⟩ rfl rfl (by first | exact Nat.le_of_ble_eq_true rfl | simp [rv_cat, cat_i, cat_l, cat_r, cat_n]) dX7_search_110 ⟨by decide, by decide⟩ rfl (fun H locs hM => ?_)
              refine lv_aload_n hx hb dX7_search_113 rfl (lv_at hl 1 rfl) ?_
              refine lv_aload_n hx hb dX7_search_114 rfl (lv_at hl 1 rfl) ?_
              obtain ⟨ok25, h⟩ := k_gd h
              refine gs_X7_39 E hM ok25 dX7_search_115 (fun x26 hxx26 => ?_)
              replace h := k_bb h x26 hxx26.symm
              rcases x26 with _ | k27
              · cases h
              rw [cs_s] at h
              obtain ⟨ok28, h⟩ := k_gd h
              obtain ⟨w29, hzw29, h⟩ := k_bd h
              refine m_callV (C := RX3) (T := TX3) (N := 4) (ci := 3) (n := 0) (As := []) (rest := [.ref (sz + r)]) (st1 := (.long w29 :: [.ref (sz + r)])) E hM hl.1 ok28 (by decide) rfl rfl (c_X3_weightedCosts l D cy sz H0 w24 k27 hzw29) wl_X7_287 wm_X3_weightedCosts ws_X3_weightedCosts wi_X3 wd_X3_weightedCosts rfl rfl (by decide +kernel) ⟨by decide, by decide⟩ rfl rfl (by first | exact Nat.le_of_ble_eq_true rfl | simp [rv_cat, cat_i, cat_l, cat_r, cat_n]) dX7_search_118 ⟨by decide, by decide⟩ rfl (fun H locs hM => ?_)
              refine lv_aload_n hx hb dX7_search_121 rfl (lv_at hl 1 rfl) ?_
              refine gs_X7_39 E hM ok25 dX7_search_122 (fun x30 hxx30 => ?_)
              replace h := k_bb h x30 hxx30.symm
              rcases x30 with _ | k31
              · cases h
              rw [cs_s] at h
              obtain ⟨ok32, h⟩ := k_gd h
              obtain ⟨w33, hzw33, h⟩ := k_bd h
              refine m_callV (C := RX3) (T := TX3) (N := 4) (ci := 3) (n := 0) (As := []) (rest := [.long w29, .ref (sz + r)]) (st1 := (.long w33 :: [.long w29, .ref (sz + r)])) E hM hl.1 ok32 (by decide) rfl rfl (c_X3_weights l D cy sz H0 w24 k31 hzw33) wl_X7_291 wm_X3_weights ws_X3_weights wi_X3 wd_X3_weights rfl rfl (by decide +kernel) ⟨by decide, by decide⟩ rfl rfl (by first | exact Nat.le_of_ble_eq_true rfl | simp [rv_cat, cat_i, cat_l, cat_r, cat_n]) dX7_search_125 ⟨by decide, by decide⟩ rfl (fun H locs hM => ?_)
              obtain ⟨w34, hzw34, h⟩ := k_bd h
              refine m_callV (C := RX7) (T := TX7) (N := 8) (ci := 7) (n := 2) (As := [.long w29, .long w33]) (rest := []) (st1 := []) E hM hl.1 ok25 (by decide) rfl rfl (c_X7_keepFraction l D cy sz H0 w24 r w29 w33 hzw34) wl_X7_294 wm_X7_keepFraction ws_X7_keepFraction wi_X7 wd_X7_keepFraction rfl rfl (by decide +kernel) ⟨by decide, by decide⟩ rfl rfl (by first | exact Nat.le_of_ble_eq_true rfl | simp [rv_cat, cat_i, cat_l, cat_r, cat_n]) dX7_search_128 ⟨by decide, by decide⟩ rfl (fun H locs hM => ?_)
              refine lv_aload_n hx hb dX7_search_131 rfl (lv_at hl 1 rfl) ?_
              refine lv_aload_n hx hb dX7_search_132 rfl (lv_at hl 1 rfl) ?_
              obtain ⟨ok35, h⟩ := k_gd h
              refine gs_X7_39 E hM ok35 dX7_search_133 (fun x36 hxx36 => ?_)
              replace h := k_bb h x36 hxx36.symm
              rcases x36 with _ | k37
              · cases h
              rw [cs_s] at h
              obtain ⟨ok38, h⟩ := k_gd h
              refine gs_X7_298 E hM ok38 dX7_search_136 (fun x39 hxx39 => ?_)
              replace h := k_bb h x39 hxx39.symm
              refine lv_iload_n hx hb dX7_search_139 rfl (lv_at hl 4 rfl) ?_
              rcases x39 with _ | k40
              · cases h
              rw [cs_s] at h
              obtain ⟨ok41, h⟩ := k_gd h
              refine m_iald E hM ok41 dX7_search_140 ?_
              obtain ⟨w42, hzw42, h⟩ := k_bd h
              refine m_callV (C := RX7) (T := TX7) (N := 8) (ci := 7) (n := 1) (As := [.int (gI w34 k40 (Int32.toNatClampNeg p3))]) (rest := []) (st1 := (.int w42.1 :: [])) E hM hl.1 ok35 (by decide) rfl rfl (c_X7_answer l D cy sz H0 w34 r (gI w34 k40 (Int32.toNatClampNeg p3)) hzw42) wl_X7_126 wm_X7_answer ws_X7_answer wi_X7 wd_X7_answer rfl rfl (by decide +kernel) ⟨by decide, by decide⟩ rfl rfl (by first | exact Nat.le_of_ble_eq_true rfl | simp [rv_cat, cat_i, cat_l, cat_r, cat_n]) dX7_search_141 ⟨by decide, by decide⟩ rfl (fun H locs hM => ?_)
              cases h
              exact m_iret hx hb hr hlk hM rfl rfl dX7_search_144
            · replace h := (k_if h).1 c19
              refine lv_aload_n hx hb dX7_search_99 rfl (lv_at hl 1 rfl) ?_
              refine lv_bipush (v := 9) hx hb dX7_search_100 (by decide) ?_
              obtain ⟨ok43, h⟩ := k_gd h
              obtain ⟨w44, hzw44, h⟩ := k_bd h
              refine m_callV (C := RX7) (T := TX7) (N := 8) (ci := 7) (n := 1) (As := [.int (9 : Int32)]) (rest := []) (st1 := (.int w44.1 :: [])) E hM hl.1 ok43 (by decide) rfl rfl (c_X7_refuse l D cy sz H0 w16.2 r (9 : Int32) hzw44) wl_X7_83 wm_X7_refuse ws_X7_refuse wi_X7 wd_X7_refuse rfl rfl (by decide +kernel) ⟨by decide, by decide⟩ rfl rfl (by first | exact Nat.le_of_ble_eq_true rfl | simp [rv_cat, cat_i, cat_l, cat_r, cat_n]) dX7_search_102 ⟨by decide, by decide⟩ rfl (fun H locs hM => ?_)
              cases h
              exact m_iret hx hb hr hlk hM rfl rfl dX7_search_105
          · replace h := (k_if h).1 c17
            refine lv_aload_n hx hb dX7_search_82 rfl (lv_at hl 1 rfl) ?_
            refine lv_iconst (v := 5) hx hb dX7_search_83 (by decide) ?_
            obtain ⟨ok45, h⟩ := k_gd h
            obtain ⟨w46, hzw46, h⟩ := k_bd h
            refine m_callV (C := RX7) (T := TX7) (N := 8) (ci := 7) (n := 1) (As := [.int (5 : Int32)]) (rest := []) (st1 := (.int w46.1 :: [])) E hM hl.1 ok45 (by decide) rfl rfl (c_X7_refuse l D cy sz H0 w16.2 r (5 : Int32) hzw46) wl_X7_83 wm_X7_refuse ws_X7_refuse wi_X7 wd_X7_refuse rfl rfl (by decide +kernel) ⟨by decide, by decide⟩ rfl rfl (by first | exact Nat.le_of_ble_eq_true rfl | simp [rv_cat, cat_i, cat_l, cat_r, cat_n]) dX7_search_84 ⟨by decide, by decide⟩ rfl (fun H locs hM => ?_)
            cases h
            exact m_iret hx hb hr hlk hM rfl rfl dX7_search_87
        · replace h := (k_if h).1 c11
          refine lv_aload_n hx hb dX7_search_60 rfl (lv_at hl 1 rfl) ?_
          refine lv_iconst (v := 4) hx hb dX7_search_61 (by decide) ?_
          obtain ⟨w47, hzw47, h⟩ := k_bd h
          refine m_callV (C := RX7) (T := TX7) (N := 8) (ci := 7) (n := 1) (As := [.int (4 : Int32)]) (rest := []) (st1 := (.int w47.1 :: [])) E hM hl.1 ok1 (by decide) rfl rfl (c_X7_refuse l D cy sz H0 u r (4 : Int32) hzw47) wl_X7_83 wm_X7_refuse ws_X7_refuse wi_X7 wd_X7_refuse rfl rfl (by decide +kernel) ⟨by decide, by decide⟩ rfl rfl (by first | exact Nat.le_of_ble_eq_true rfl | simp [rv_cat, cat_i, cat_l, cat_r, cat_n]) dX7_search_62 ⟨by decide, by decide⟩ rfl (fun H locs hM => ?_)
          cases h
          exact m_iret hx hb hr hlk hM rfl rfl dX7_search_65
      · replace h := (k_if h).1 c9
        refine lv_aload_n hx hb dX7_search_42 rfl (lv_at hl 1 rfl) ?_
        refine lv_iconst (v := 5) hx hb dX7_search_43 (by decide) ?_
        obtain ⟨w48, hzw48, h⟩ := k_bd h
        refine m_callV (C := RX7) (T := TX7) (N := 8) (ci := 7) (n := 1) (As := [.int (5 : Int32)]) (rest := []) (st1 := (.int w48.1 :: [])) E hM hl.1 ok1 (by decide) rfl rfl (c_X7_refuse l D cy sz H0 u r (5 : Int32) hzw48) wl_X7_83 wm_X7_refuse ws_X7_refuse wi_X7 wd_X7_refuse rfl rfl (by decide +kernel) ⟨by decide, by decide⟩ rfl rfl (by first | exact Nat.le_of_ble_eq_true rfl | simp [rv_cat, cat_i, cat_l, cat_r, cat_n]) dX7_search_44 ⟨by decide, by decide⟩ rfl (fun H locs hM => ?_)
        cases h
        exact m_iret hx hb hr hlk hM rfl rfl dX7_search_47
    · replace h := (k_if h).2 c7
      refine lv_aload_n hx hb dX7_search_26 rfl (lv_at hl 1 rfl) ?_
      refine lv_iconst (v := 3) hx hb dX7_search_27 (by decide) ?_
      obtain ⟨w49, hzw49, h⟩ := k_bd h
      refine m_callV (C := RX7) (T := TX7) (N := 8) (ci := 7) (n := 1) (As := [.int (3 : Int32)]) (rest := []) (st1 := (.int w49.1 :: [])) E hM hl.1 ok1 (by decide) rfl rfl (c_X7_refuse l D cy sz H0 u r (3 : Int32) hzw49) wl_X7_83 wm_X7_refuse ws_X7_refuse wi_X7 wd_X7_refuse rfl rfl (by decide +kernel) ⟨by decide, by decide⟩ rfl rfl (by first | exact Nat.le_of_ble_eq_true rfl | simp [rv_cat, cat_i, cat_l, cat_r, cat_n]) dX7_search_28 ⟨by decide, by decide⟩ rfl (fun H locs hM => ?_)
      cases h
      exact m_iret hx hb hr hlk hM rfl rfl dX7_search_31

abbrev rm_X7_upper : Room := { frames := 0, cells := 0, slots := 0, locals := 0 }
def f_X7_upper (r : Nat) (u : Mm) : Option (Int64) := gd (okO u r 7) (some (gL u r 6))
set_option maxHeartbeats 4000000 in
set_option maxRecDepth 100000 in
theorem c_X7_upper (l : Launch) (D : va_G) (cy : Nat → ClassId) (sz : Nat) (H0 : Heap) (u : Mm) (r : Nat) {res : Int64} (h : f_X7_upper r u = some res) : Ctr l yX7_upper cX7_upper 1 (some .long) rm_X7_upper 0 0 D cy sz H0 u [.ref (sz + r)] (some (.long res)) u := by
  refine m_start (lv := [(0, .ref (sz + r))]) (by decide) (by first | exact Nat.le_of_ble_eq_true rfl | simp [lg_sl, rv_cat, cat_i, cat_l, cat_r, cat_n]) (by first | rfl | simp [lv_args, rv_cat, cat_i, cat_l, cat_r, cat_n]) ?_
  intro p e s m below meth c ls E hr hlk hinit hM hl
  obtain ⟨hx, hb, hml, hown, hts, hKK⟩ := id E
  obtain ⟨H, hH⟩ : ∃ H, H = s.heap := ⟨_, rfl⟩
  obtain ⟨locs, hlocs⟩ : ∃ L : List Loc, L = [] := ⟨_, rfl⟩
  rw [← hH, ← hlocs] at hM ⊢
  unfold f_X7_upper at h
  refine lv_aload_n hx hb dX7_upper_0 rfl (lv_at hl 0 rfl) ?_
  obtain ⟨ok1, h⟩ := k_gd h
  refine gs_X7_47 E hM ok1 dX7_upper_1 ?_
  cases h
  exact m_lret hx hb hr hlk hM rfl rfl dX7_upper_4

abbrev rm_X7_lower : Room := { frames := 0, cells := 0, slots := 0, locals := 0 }
def f_X7_lower (r : Nat) (u : Mm) : Option (Int64) := gd (okO u r 7) (some (gL u r 7))
set_option maxHeartbeats 4000000 in
set_option maxRecDepth 100000 in
theorem c_X7_lower (l : Launch) (D : va_G) (cy : Nat → ClassId) (sz : Nat) (H0 : Heap) (u : Mm) (r : Nat) {res : Int64} (h : f_X7_lower r u = some res) : Ctr l yX7_lower cX7_lower 1 (some .long) rm_X7_lower 0 0 D cy sz H0 u [.ref (sz + r)] (some (.long res)) u := by
  refine m_start (lv := [(0, .ref (sz + r))]) (by decide) (by first | exact Nat.le_of_ble_eq_true rfl | simp [lg_sl, rv_cat, cat_i, cat_l, cat_r, cat_n]) (by first | rfl | simp [lv_args, rv_cat, cat_i, cat_l, cat_r, cat_n]) ?_
  intro p e s m below meth c ls E hr hlk hinit hM hl
  obtain ⟨hx, hb, hml, hown, hts, hKK⟩ := id E
  obtain ⟨H, hH⟩ : ∃ H, H = s.heap := ⟨_, rfl⟩
  obtain ⟨locs, hlocs⟩ : ∃ L : List Loc, L = [] := ⟨_, rfl⟩
  rw [← hH, ← hlocs] at hM ⊢
  unfold f_X7_lower at h
  refine lv_aload_n hx hb dX7_lower_0 rfl (lv_at hl 0 rfl) ?_
  obtain ⟨ok1, h⟩ := k_gd h
  refine gs_X7_51 E hM ok1 dX7_lower_1 ?_
  cases h
  exact m_lret hx hb hr hlk hM rfl rfl dX7_lower_4

abbrev rm_X8_init : Room := { frames := 1, cells := 26, slots := 3628, locals := 36 }
def L_X8_init_225 (b0 : Nat) (k : Int32 → Mm → Option (Mm)) : Nat → Int32 → Mm → Option (Mm)
  | 0, _, _ => none
  | n + 1, a1, u => (if (4 : Int32) ≤ a1 then k a1 u else gd (okO u b0 8) (bb (gR u b0 5) (fun x56 => cs x56 none (fun k57 => gd (okA u k57 9 a1) (bb (a1 + (1)) (fun v59 => L_X8_init_225 b0 k n v59 (sI u k57 (Int32.toNatClampNeg a1) (-1 : Int32))))))))
set_option maxHeartbeats 4000000 in
set_option maxRecDepth 100000 in
theorem lp_X8_init_225 {p : Program} {l : Launch} {e : Env} {s : State} {m : MethodId} {args : Array Value} {below : List Frame} {meth : Method} {c : Code} {D : va_G} {cy : Nat → ClassId} {sz : Nat} {H0 : Heap} {b0 : Nat} {k : Int32 → Mm → Option (Mm)} {res : Mm} (hr : meth.sig.returnType = none) (hlk : meth.locks = false) (E : EE p s m args c cX8_init 2 RX8 D cy) : ∀ (n : Nat) (a1 : Int32) (u : Mm) (H : Heap) (locs : List Loc) (ls : Array Slot), MM D cy sz H0 u H locs → lv_has ls 2 [(0, .ref (sz + b0)), (1, .int a1)] → L_X8_init_225 b0 k n a1 u = some res → (∀ (a1 : Int32) (u : Mm) (H : Heap) (locs : List Loc) (ls : Array Slot), MM D cy sz H0 u H locs → lv_has ls 2 [(0, .ref (sz + b0)), (1, .int a1)] → k a1 u = some res → W p l e rm_X8_init s m args below meth c H locs 26 3628 (MQ below (Post D cy sz H0 none res) args s 26 3628 (fun q => sz ≤ q)) (F0 m 243 ls [])) → W p l e rm_X8_init s m args below meth c H locs 26 3628 (MQ below (Post D cy sz H0 none res) args s 26 3628 (fun q => sz ≤ q)) (F0 m 225 ls []) := by
  obtain ⟨hx, hb, hml, hown, hts, hKK⟩ := id E
  intro n
  induction n with
  | zero => intros; rename_i h _; cases h
  | succ n ih =>
    intro a1 u H locs ls hM hl h hk
    rw [L_X8_init_225] at h
    refine lv_iload_n hx hb dX8_init_225 rfl (lv_at hl 1 rfl) ?_
    refine lv_iconst (v := 4) hx hb dX8_init_226 (by decide) ?_
    refine lv_icmp_ge (tgt := 243) hx hb dX8_init_227 (by decide) (fun c54 => ?_) (fun c54 => ?_)
    · replace h := (k_if h).1 c54
      exact hk a1 u H locs ls hM (lv_sub hl [0, 1] rfl) h
    · replace h := (k_if h).2 c54
      refine lv_aload_n hx hb dX8_init_230 rfl (lv_at hl 0 rfl) ?_
      obtain ⟨ok55, h⟩ := k_gd h
      refine gs_X8_17 E hM ok55 dX8_init_231 (fun x56 hxx56 => ?_)
      replace h := k_bb h x56 hxx56.symm
      refine lv_iload_n hx hb dX8_init_234 rfl (lv_at hl 1 rfl) ?_
      refine lv_iconst (v := (-1)) hx hb dX8_init_235 (by decide) ?_
      rcases x56 with _ | k57
      · cases h
      rw [cs_s] at h
      obtain ⟨ok58, h⟩ := k_gd h
      refine m_iast E hM ok58 dX8_init_236 (fun H locs hM => ?_)
      obtain ⟨v59, hvv59⟩ : ∃ y : Int32, y = a1 + (1) := ⟨_, rfl⟩
      replace h := k_bb h v59 hvv59
      refine lv_iinc (v := v59) (lv' := [(1, .int v59), (0, .ref (sz + b0))]) hx hb dX8_init_237 hl (k := 1) rfl (by rw [hvv59]; rfl) (by decide) (by first | rfl | simp [rv_cat, cat_i, cat_l, cat_r, cat_n]) (fun ls hl => ?_)
      refine lv_goto (tgt := 225) hx hb dX8_init_240 (by decide) ?_
      exact ih v59 (sI u k57 (Int32.toNatClampNeg a1) (-1 : Int32)) H locs ls hM (lv_sub hl [1, 0] rfl) h hk

def f_X8_init (r : Nat) (u : Mm) : Option (Mm) := gd (okO u r 8) (gd (okM (sL u r 3 (1 : Int64)) 9 4) (bb ((sL u r 3 (1 : Int64)).1) (fun q3 => gd (okM (sR (nw (sL u r 3 (1 : Int64))) r 4 (some q3)) 9 4) (bb ((sR (nw (sL u r 3 (1 : Int64))) r 4 (some q3)).1) (fun q5 => gd (okM (sR (nw (sR (nw (sL u r 3 (1 : Int64))) r 4 (some q3))) r 5 (some q5)) 10 160) (bb ((sR (nw (sR (nw (sL u r 3 (1 : Int64))) r 4 (some q3))) r 5 (some q5)).1) (fun q7 => gd (okM (sR (nw (sR (nw (sR (nw (sL u r 3 (1 : Int64))) r 4 (some q3))) r 5 (some q5))) r 6 (some q7)) 9 80) (bb ((sR (nw (sR (nw (sR (nw (sL u r 3 (1 : Int64))) r 4 (some q3))) r 5 (some q5))) r 6 (some q7)).1) (fun q9 => gd (okM (sR (nw (sR (nw (sR (nw (sR (nw (sL u r 3 (1 : Int64))) r 4 (some q3))) r 5 (some q5))) r 6 (some q7))) r 8 (some q9)) 9 80) (bb ((sR (nw (sR (nw (sR (nw (sR (nw (sL u r 3 (1 : Int64))) r 4 (some q3))) r 5 (some q5))) r 6 (some q7))) r 8 (some q9)).1) (fun q11 => gd (okM (sR (nw (sR (nw (sR (nw (sR (nw (sR (nw (sL u r 3 (1 : Int64))) r 4 (some q3))) r 5 (some q5))) r 6 (some q7))) r 8 (some q9))) r 9 (some q11)) 9 80) (bb ((sR (nw (sR (nw (sR (nw (sR (nw (sR (nw (sL u r 3 (1 : Int64))) r 4 (some q3))) r 5 (some q5))) r 6 (some q7))) r 8 (some q9))) r 9 (some q11)).1) (fun q13 => gd (okM (sR (nw (sR (nw (sR (nw (sR (nw (sR (nw (sR (nw (sL u r 3 (1 : Int64))) r 4 (some q3))) r 5 (some q5))) r 6 (some q7))) r 8 (some q9))) r 9 (some q11))) r 10 (some q13)) 9 80) (bb ((sR (nw (sR (nw (sR (nw (sR (nw (sR (nw (sR (nw (sL u r 3 (1 : Int64))) r 4 (some q3))) r 5 (some q5))) r 6 (some q7))) r 8 (some q9))) r 9 (some q11))) r 10 (some q13)).1) (fun q15 => gd (okM (sR (nw (sR (nw (sR (nw (sR (nw (sR (nw (sR (nw (sR (nw (sL u r 3 (1 : Int64))) r 4 (some q3))) r 5 (some q5))) r 6 (some q7))) r 8 (some q9))) r 9 (some q11))) r 10 (some q13))) r 11 (some q15)) 9 480) (bb ((sR (nw (sR (nw (sR (nw (sR (nw (sR (nw (sR (nw (sR (nw (sL u r 3 (1 : Int64))) r 4 (some q3))) r 5 (some q5))) r 6 (some q7))) r 8 (some q9))) r 9 (some q11))) r 10 (some q13))) r 11 (some q15)).1) (fun q17 => gd (okM (sR (nw (sR (nw (sR (nw (sR (nw (sR (nw (sR (nw (sR (nw (sR (nw (sL u r 3 (1 : Int64))) r 4 (some q3))) r 5 (some q5))) r 6 (some q7))) r 8 (some q9))) r 9 (some q11))) r 10 (some q13))) r 11 (some q15))) r 12 (some q17)) 9 80) (bb ((sR (nw (sR (nw (sR (nw (sR (nw (sR (nw (sR (nw (sR (nw (sR (nw (sL u r 3 (1 : Int64))) r 4 (some q3))) r 5 (some q5))) r 6 (some q7))) r 8 (some q9))) r 9 (some q11))) r 10 (some q13))) r 11 (some q15))) r 12 (some q17)).1) (fun q19 => gd (okM (sR (nw (sR (nw (sR (nw (sR (nw (sR (nw (sR (nw (sR (nw (sR (nw (sR (nw (sL u r 3 (1 : Int64))) r 4 (some q3))) r 5 (some q5))) r 6 (some q7))) r 8 (some q9))) r 9 (some q11))) r 10 (some q13))) r 11 (some q15))) r 12 (some q17))) r 13 (some q19)) 9 80) (bb ((sR (nw (sR (nw (sR (nw (sR (nw (sR (nw (sR (nw (sR (nw (sR (nw (sR (nw (sL u r 3 (1 : Int64))) r 4 (some q3))) r 5 (some q5))) r 6 (some q7))) r 8 (some q9))) r 9 (some q11))) r 10 (some q13))) r 11 (some q15))) r 12 (some q17))) r 13 (some q19)).1) (fun q21 => gd (okM (sR (nw (sR (nw (sR (nw (sR (nw (sR (nw (sR (nw (sR (nw (sR (nw (sR (nw (sR (nw (sL u r 3 (1 : Int64))) r 4 (some q3))) r 5 (some q5))) r 6 (some q7))) r 8 (some q9))) r 9 (some q11))) r 10 (some q13))) r 11 (some q15))) r 12 (some q17))) r 13 (some q19))) r 14 (some q21)) 9 80) (bb ((sR (nw (sR (nw (sR (nw (sR (nw (sR (nw (sR (nw (sR (nw (sR (nw (sR (nw (sR (nw (sL u r 3 (1 : Int64))) r 4 (some q3))) r 5 (some q5))) r 6 (some q7))) r 8 (some q9))) r 9 (some q11))) r 10 (some q13))) r 11 (some q15))) r 12 (some q17))) r 13 (some q19))) r 14 (some q21)).1) (fun q23 => gd (okM (sR (nw (sR (nw (sR (nw (sR (nw (sR (nw (sR (nw (sR (nw (sR (nw (sR (nw (sR (nw (sR (nw (sL u r 3 (1 : Int64))) r 4 (some q3))) r 5 (some q5))) r 6 (some q7))) r 8 (some q9))) r 9 (some q11))) r 10 (some q13))) r 11 (some q15))) r 12 (some q17))) r 13 (some q19))) r 14 (some q21))) r 15 (some q23)) 9 80) (bb ((sR (nw (sR (nw (sR (nw (sR (nw (sR (nw (sR (nw (sR (nw (sR (nw (sR (nw (sR (nw (sR (nw (sL u r 3 (1 : Int64))) r 4 (some q3))) r 5 (some q5))) r 6 (some q7))) r 8 (some q9))) r 9 (some q11))) r 10 (some q13))) r 11 (some q15))) r 12 (some q17))) r 13 (some q19))) r 14 (some q21))) r 15 (some q23)).1) (fun q25 => gd (okM (sR (nw (sR (nw (sR (nw (sR (nw (sR (nw (sR (nw (sR (nw (sR (nw (sR (nw (sR (nw (sR (nw (sR (nw (sL u r 3 (1 : Int64))) r 4 (some q3))) r 5 (some q5))) r 6 (some q7))) r 8 (some q9))) r 9 (some q11))) r 10 (some q13))) r 11 (some q15))) r 12 (some q17))) r 13 (some q19))) r 14 (some q21))) r 15 (some q23))) r 16 (some q25)) 9 80) (bb ((sR (nw (sR (nw (sR (nw (sR (nw (sR (nw (sR (nw (sR (nw (sR (nw (sR (nw (sR (nw (sR (nw (sR (nw (sL u r 3 (1 : Int64))) r 4 (some q3))) r 5 (some q5))) r 6 (some q7))) r 8 (some q9))) r 9 (some q11))) r 10 (some q13))) r 11 (some q15))) r 12 (some q17))) r 13 (some q19))) r 14 (some q21))) r 15 (some q23))) r 16 (some q25)).1) (fun q27 => gd (okM (sR (nw (sR (nw (sR (nw (sR (nw (sR (nw (sR (nw (sR (nw (sR (nw (sR (nw (sR (nw (sR (nw (sR (nw (sR (nw (sL u r 3 (1 : Int64))) r 4 (some q3))) r 5 (some q5))) r 6 (some q7))) r 8 (some q9))) r 9 (some q11))) r 10 (some q13))) r 11 (some q15))) r 12 (some q17))) r 13 (some q19))) r 14 (some q21))) r 15 (some q23))) r 16 (some q25))) r 17 (some q27)) 9 80) (bb ((sR (nw (sR (nw (sR (nw (sR (nw (sR (nw (sR (nw (sR (nw (sR (nw (sR (nw (sR (nw (sR (nw (sR (nw (sR (nw (sL u r 3 (1 : Int64))) r 4 (some q3))) r 5 (some q5))) r 6 (some q7))) r 8 (some q9))) r 9 (some q11))) r 10 (some q13))) r 11 (some q15))) r 12 (some q17))) r 13 (some q19))) r 14 (some q21))) r 15 (some q23))) r 16 (some q25))) r 17 (some q27)).1) (fun q29 => gd (okM (sR (nw (sR (nw (sR (nw (sR (nw (sR (nw (sR (nw (sR (nw (sR (nw (sR (nw (sR (nw (sR (nw (sR (nw (sR (nw (sR (nw (sL u r 3 (1 : Int64))) r 4 (some q3))) r 5 (some q5))) r 6 (some q7))) r 8 (some q9))) r 9 (some q11))) r 10 (some q13))) r 11 (some q15))) r 12 (some q17))) r 13 (some q19))) r 14 (some q21))) r 15 (some q23))) r 16 (some q25))) r 17 (some q27))) r 18 (some q29)) 9 80) (bb ((sR (nw (sR (nw (sR (nw (sR (nw (sR (nw (sR (nw (sR (nw (sR (nw (sR (nw (sR (nw (sR (nw (sR (nw (sR (nw (sR (nw (sL u r 3 (1 : Int64))) r 4 (some q3))) r 5 (some q5))) r 6 (some q7))) r 8 (some q9))) r 9 (some q11))) r 10 (some q13))) r 11 (some q15))) r 12 (some q17))) r 13 (some q19))) r 14 (some q21))) r 15 (some q23))) r 16 (some q25))) r 17 (some q27))) r 18 (some q29)).1) (fun q31 => gd (okM (sR (nw (sR (nw (sR (nw (sR (nw (sR (nw (sR (nw (sR (nw (sR (nw (sR (nw (sR (nw (sR (nw (sR (nw (sR (nw (sR (nw (sR (nw (sL u r 3 (1 : Int64))) r 4 (some q3))) r 5 (some q5))) r 6 (some q7))) r 8 (some q9))) r 9 (some q11))) r 10 (some q13))) r 11 (some q15))) r 12 (some q17))) r 13 (some q19))) r 14 (some q21))) r 15 (some q23))) r 16 (some q25))) r 17 (some q27))) r 18 (some q29))) r 19 (some q31)) 9 80) (bb ((sR (nw (sR (nw (sR (nw (sR (nw (sR (nw (sR (nw (sR (nw (sR (nw (sR (nw (sR (nw (sR (nw (sR (nw (sR (nw (sR (nw (sR (nw (sL u r 3 (1 : Int64))) r 4 (some q3))) r 5 (some q5))) r 6 (some q7))) r 8 (some q9))) r 9 (some q11))) r 10 (some q13))) r 11 (some q15))) r 12 (some q17))) r 13 (some q19))) r 14 (some q21))) r 15 (some q23))) r 16 (some q25))) r 17 (some q27))) r 18 (some q29))) r 19 (some q31)).1) (fun q33 => gd (okM (sR (nw (sR (nw (sR (nw (sR (nw (sR (nw (sR (nw (sR (nw (sR (nw (sR (nw (sR (nw (sR (nw (sR (nw (sR (nw (sR (nw (sR (nw (sR (nw (sL u r 3 (1 : Int64))) r 4 (some q3))) r 5 (some q5))) r 6 (some q7))) r 8 (some q9))) r 9 (some q11))) r 10 (some q13))) r 11 (some q15))) r 12 (some q17))) r 13 (some q19))) r 14 (some q21))) r 15 (some q23))) r 16 (some q25))) r 17 (some q27))) r 18 (some q29))) r 19 (some q31))) r 20 (some q33)) 9 80) (bb ((sR (nw (sR (nw (sR (nw (sR (nw (sR (nw (sR (nw (sR (nw (sR (nw (sR (nw (sR (nw (sR (nw (sR (nw (sR (nw (sR (nw (sR (nw (sR (nw (sL u r 3 (1 : Int64))) r 4 (some q3))) r 5 (some q5))) r 6 (some q7))) r 8 (some q9))) r 9 (some q11))) r 10 (some q13))) r 11 (some q15))) r 12 (some q17))) r 13 (some q19))) r 14 (some q21))) r 15 (some q23))) r 16 (some q25))) r 17 (some q27))) r 18 (some q29))) r 19 (some q31))) r 20 (some q33)).1) (fun q35 => gd (okM (sR (nw (sR (nw (sR (nw (sR (nw (sR (nw (sR (nw (sR (nw (sR (nw (sR (nw (sR (nw (sR (nw (sR (nw (sR (nw (sR (nw (sR (nw (sR (nw (sR (nw (sL u r 3 (1 : Int64))) r 4 (some q3))) r 5 (some q5))) r 6 (some q7))) r 8 (some q9))) r 9 (some q11))) r 10 (some q13))) r 11 (some q15))) r 12 (some q17))) r 13 (some q19))) r 14 (some q21))) r 15 (some q23))) r 16 (some q25))) r 17 (some q27))) r 18 (some q29))) r 19 (some q31))) r 20 (some q33))) r 21 (some q35)) 9 200) (bb ((sR (nw (sR (nw (sR (nw (sR (nw (sR (nw (sR (nw (sR (nw (sR (nw (sR (nw (sR (nw (sR (nw (sR (nw (sR (nw (sR (nw (sR (nw (sR (nw (sR (nw (sL u r 3 (1 : Int64))) r 4 (some q3))) r 5 (some q5))) r 6 (some q7))) r 8 (some q9))) r 9 (some q11))) r 10 (some q13))) r 11 (some q15))) r 12 (some q17))) r 13 (some q19))) r 14 (some q21))) r 15 (some q23))) r 16 (some q25))) r 17 (some q27))) r 18 (some q29))) r 19 (some q31))) r 20 (some q33))) r 21 (some q35)).1) (fun q37 => gd (okM (sR (nw (sR (nw (sR (nw (sR (nw (sR (nw (sR (nw (sR (nw (sR (nw (sR (nw (sR (nw (sR (nw (sR (nw (sR (nw (sR (nw (sR (nw (sR (nw (sR (nw (sR (nw (sL u r 3 (1 : Int64))) r 4 (some q3))) r 5 (some q5))) r 6 (some q7))) r 8 (some q9))) r 9 (some q11))) r 10 (some q13))) r 11 (some q15))) r 12 (some q17))) r 13 (some q19))) r 14 (some q21))) r 15 (some q23))) r 16 (some q25))) r 17 (some q27))) r 18 (some q29))) r 19 (some q31))) r 20 (some q33))) r 21 (some q35))) r 23 (some q37)) 9 200) (bb ((sR (nw (sR (nw (sR (nw (sR (nw (sR (nw (sR (nw (sR (nw (sR (nw (sR (nw (sR (nw (sR (nw (sR (nw (sR (nw (sR (nw (sR (nw (sR (nw (sR (nw (sR (nw (sL u r 3 (1 : Int64))) r 4 (some q3))) r 5 (some q5))) r 6 (some q7))) r 8 (some q9))) r 9 (some q11))) r 10 (some q13))) r 11 (some q15))) r 12 (some q17))) r 13 (some q19))) r 14 (some q21))) r 15 (some q23))) r 16 (some q25))) r 17 (some q27))) r 18 (some q29))) r 19 (some q31))) r 20 (some q33))) r 21 (some q35))) r 23 (some q37)).1) (fun q39 => gd (okM (sR (nw (sR (nw (sR (nw (sR (nw (sR (nw (sR (nw (sR (nw (sR (nw (sR (nw (sR (nw (sR (nw (sR (nw (sR (nw (sR (nw (sR (nw (sR (nw (sR (nw (sR (nw (sR (nw (sL u r 3 (1 : Int64))) r 4 (some q3))) r 5 (some q5))) r 6 (some q7))) r 8 (some q9))) r 9 (some q11))) r 10 (some q13))) r 11 (some q15))) r 12 (some q17))) r 13 (some q19))) r 14 (some q21))) r 15 (some q23))) r 16 (some q25))) r 17 (some q27))) r 18 (some q29))) r 19 (some q31))) r 20 (some q33))) r 21 (some q35))) r 23 (some q37))) r 24 (some q39)) 9 200) (bb ((sR (nw (sR (nw (sR (nw (sR (nw (sR (nw (sR (nw (sR (nw (sR (nw (sR (nw (sR (nw (sR (nw (sR (nw (sR (nw (sR (nw (sR (nw (sR (nw (sR (nw (sR (nw (sR (nw (sL u r 3 (1 : Int64))) r 4 (some q3))) r 5 (some q5))) r 6 (some q7))) r 8 (some q9))) r 9 (some q11))) r 10 (some q13))) r 11 (some q15))) r 12 (some q17))) r 13 (some q19))) r 14 (some q21))) r 15 (some q23))) r 16 (some q25))) r 17 (some q27))) r 18 (some q29))) r 19 (some q31))) r 20 (some q33))) r 21 (some q35))) r 23 (some q37))) r 24 (some q39)).1) (fun q41 => gd (okM (sR (nw (sR (nw (sR (nw (sR (nw (sR (nw (sR (nw (sR (nw (sR (nw (sR (nw (sR (nw (sR (nw (sR (nw (sR (nw (sR (nw (sR (nw (sR (nw (sR (nw (sR (nw (sR (nw (sR (nw (sL u r 3 (1 : Int64))) r 4 (some q3))) r 5 (some q5))) r 6 (some q7))) r 8 (some q9))) r 9 (some q11))) r 10 (some q13))) r 11 (some q15))) r 12 (some q17))) r 13 (some q19))) r 14 (some q21))) r 15 (some q23))) r 16 (some q25))) r 17 (some q27))) r 18 (some q29))) r 19 (some q31))) r 20 (some q33))) r 21 (some q35))) r 23 (some q37))) r 24 (some q39))) r 25 (some q41)) 9 40) (bb ((sR (nw (sR (nw (sR (nw (sR (nw (sR (nw (sR (nw (sR (nw (sR (nw (sR (nw (sR (nw (sR (nw (sR (nw (sR (nw (sR (nw (sR (nw (sR (nw (sR (nw (sR (nw (sR (nw (sR (nw (sL u r 3 (1 : Int64))) r 4 (some q3))) r 5 (some q5))) r 6 (some q7))) r 8 (some q9))) r 9 (some q11))) r 10 (some q13))) r 11 (some q15))) r 12 (some q17))) r 13 (some q19))) r 14 (some q21))) r 15 (some q23))) r 16 (some q25))) r 17 (some q27))) r 18 (some q29))) r 19 (some q31))) r 20 (some q33))) r 21 (some q35))) r 23 (some q37))) r 24 (some q39))) r 25 (some q41)).1) (fun q43 => gd (okM (sR (nw (sR (nw (sR (nw (sR (nw (sR (nw (sR (nw (sR (nw (sR (nw (sR (nw (sR (nw (sR (nw (sR (nw (sR (nw (sR (nw (sR (nw (sR (nw (sR (nw (sR (nw (sR (nw (sR (nw (sR (nw (sL u r 3 (1 : Int64))) r 4 (some q3))) r 5 (some q5))) r 6 (some q7))) r 8 (some q9))) r 9 (some q11))) r 10 (some q13))) r 11 (some q15))) r 12 (some q17))) r 13 (some q19))) r 14 (some q21))) r 15 (some q23))) r 16 (some q25))) r 17 (some q27))) r 18 (some q29))) r 19 (some q31))) r 20 (some q33))) r 21 (some q35))) r 23 (some q37))) r 24 (some q39))) r 25 (some q41))) r 26 (some q43)) 9 80) (bb ((sR (nw (sR (nw (sR (nw (sR (nw (sR (nw (sR (nw (sR (nw (sR (nw (sR (nw (sR (nw (sR (nw (sR (nw (sR (nw (sR (nw (sR (nw (sR (nw (sR (nw (sR (nw (sR (nw (sR (nw (sR (nw (sL u r 3 (1 : Int64))) r 4 (some q3))) r 5 (some q5))) r 6 (some q7))) r 8 (some q9))) r 9 (some q11))) r 10 (some q13))) r 11 (some q15))) r 12 (some q17))) r 13 (some q19))) r 14 (some q21))) r 15 (some q23))) r 16 (some q25))) r 17 (some q27))) r 18 (some q29))) r 19 (some q31))) r 20 (some q33))) r 21 (some q35))) r 23 (some q37))) r 24 (some q39))) r 25 (some q41))) r 26 (some q43)).1) (fun q45 => gd (okM (sR (nw (sR (nw (sR (nw (sR (nw (sR (nw (sR (nw (sR (nw (sR (nw (sR (nw (sR (nw (sR (nw (sR (nw (sR (nw (sR (nw (sR (nw (sR (nw (sR (nw (sR (nw (sR (nw (sR (nw (sR (nw (sR (nw (sL u r 3 (1 : Int64))) r 4 (some q3))) r 5 (some q5))) r 6 (some q7))) r 8 (some q9))) r 9 (some q11))) r 10 (some q13))) r 11 (some q15))) r 12 (some q17))) r 13 (some q19))) r 14 (some q21))) r 15 (some q23))) r 16 (some q25))) r 17 (some q27))) r 18 (some q29))) r 19 (some q31))) r 20 (some q33))) r 21 (some q35))) r 23 (some q37))) r 24 (some q39))) r 25 (some q41))) r 26 (some q43))) r 27 (some q45)) 9 400) (bb ((sR (nw (sR (nw (sR (nw (sR (nw (sR (nw (sR (nw (sR (nw (sR (nw (sR (nw (sR (nw (sR (nw (sR (nw (sR (nw (sR (nw (sR (nw (sR (nw (sR (nw (sR (nw (sR (nw (sR (nw (sR (nw (sR (nw (sL u r 3 (1 : Int64))) r 4 (some q3))) r 5 (some q5))) r 6 (some q7))) r 8 (some q9))) r 9 (some q11))) r 10 (some q13))) r 11 (some q15))) r 12 (some q17))) r 13 (some q19))) r 14 (some q21))) r 15 (some q23))) r 16 (some q25))) r 17 (some q27))) r 18 (some q29))) r 19 (some q31))) r 20 (some q33))) r 21 (some q35))) r 23 (some q37))) r 24 (some q39))) r 25 (some q41))) r 26 (some q43))) r 27 (some q45)).1) (fun q47 => gd (okM (sR (nw (sR (nw (sR (nw (sR (nw (sR (nw (sR (nw (sR (nw (sR (nw (sR (nw (sR (nw (sR (nw (sR (nw (sR (nw (sR (nw (sR (nw (sR (nw (sR (nw (sR (nw (sR (nw (sR (nw (sR (nw (sR (nw (sR (nw (sL u r 3 (1 : Int64))) r 4 (some q3))) r 5 (some q5))) r 6 (some q7))) r 8 (some q9))) r 9 (some q11))) r 10 (some q13))) r 11 (some q15))) r 12 (some q17))) r 13 (some q19))) r 14 (some q21))) r 15 (some q23))) r 16 (some q25))) r 17 (some q27))) r 18 (some q29))) r 19 (some q31))) r 20 (some q33))) r 21 (some q35))) r 23 (some q37))) r 24 (some q39))) r 25 (some q41))) r 26 (some q43))) r 27 (some q45))) r 28 (some q47)) 9 400) (bb ((sR (nw (sR (nw (sR (nw (sR (nw (sR (nw (sR (nw (sR (nw (sR (nw (sR (nw (sR (nw (sR (nw (sR (nw (sR (nw (sR (nw (sR (nw (sR (nw (sR (nw (sR (nw (sR (nw (sR (nw (sR (nw (sR (nw (sR (nw (sL u r 3 (1 : Int64))) r 4 (some q3))) r 5 (some q5))) r 6 (some q7))) r 8 (some q9))) r 9 (some q11))) r 10 (some q13))) r 11 (some q15))) r 12 (some q17))) r 13 (some q19))) r 14 (some q21))) r 15 (some q23))) r 16 (some q25))) r 17 (some q27))) r 18 (some q29))) r 19 (some q31))) r 20 (some q33))) r 21 (some q35))) r 23 (some q37))) r 24 (some q39))) r 25 (some q41))) r 26 (some q43))) r 27 (some q45))) r 28 (some q47)).1) (fun q49 => gd (okM (sR (nw (sR (nw (sR (nw (sR (nw (sR (nw (sR (nw (sR (nw (sR (nw (sR (nw (sR (nw (sR (nw (sR (nw (sR (nw (sR (nw (sR (nw (sR (nw (sR (nw (sR (nw (sR (nw (sR (nw (sR (nw (sR (nw (sR (nw (sR (nw (sL u r 3 (1 : Int64))) r 4 (some q3))) r 5 (some q5))) r 6 (some q7))) r 8 (some q9))) r 9 (some q11))) r 10 (some q13))) r 11 (some q15))) r 12 (some q17))) r 13 (some q19))) r 14 (some q21))) r 15 (some q23))) r 16 (some q25))) r 17 (some q27))) r 18 (some q29))) r 19 (some q31))) r 20 (some q33))) r 21 (some q35))) r 23 (some q37))) r 24 (some q39))) r 25 (some q41))) r 26 (some q43))) r 27 (some q45))) r 28 (some q47))) r 29 (some q49)) 9 400) (bb ((sR (nw (sR (nw (sR (nw (sR (nw (sR (nw (sR (nw (sR (nw (sR (nw (sR (nw (sR (nw (sR (nw (sR (nw (sR (nw (sR (nw (sR (nw (sR (nw (sR (nw (sR (nw (sR (nw (sR (nw (sR (nw (sR (nw (sR (nw (sR (nw (sL u r 3 (1 : Int64))) r 4 (some q3))) r 5 (some q5))) r 6 (some q7))) r 8 (some q9))) r 9 (some q11))) r 10 (some q13))) r 11 (some q15))) r 12 (some q17))) r 13 (some q19))) r 14 (some q21))) r 15 (some q23))) r 16 (some q25))) r 17 (some q27))) r 18 (some q29))) r 19 (some q31))) r 20 (some q33))) r 21 (some q35))) r 23 (some q37))) r 24 (some q39))) r 25 (some q41))) r 26 (some q43))) r 27 (some q45))) r 28 (some q47))) r 29 (some q49)).1) (fun q51 => gd (okM (sR (nw (sR (nw (sR (nw (sR (nw (sR (nw (sR (nw (sR (nw (sR (nw (sR (nw (sR (nw (sR (nw (sR (nw (sR (nw (sR (nw (sR (nw (sR (nw (sR (nw (sR (nw (sR (nw (sR (nw (sR (nw (sR (nw (sR (nw (sR (nw (sR (nw (sL u r 3 (1 : Int64))) r 4 (some q3))) r 5 (some q5))) r 6 (some q7))) r 8 (some q9))) r 9 (some q11))) r 10 (some q13))) r 11 (some q15))) r 12 (some q17))) r 13 (some q19))) r 14 (some q21))) r 15 (some q23))) r 16 (some q25))) r 17 (some q27))) r 18 (some q29))) r 19 (some q31))) r 20 (some q33))) r 21 (some q35))) r 23 (some q37))) r 24 (some q39))) r 25 (some q41))) r 26 (some q43))) r 27 (some q45))) r 28 (some q47))) r 29 (some q49))) r 30 (some q51)) 9 20) (bb ((sR (nw (sR (nw (sR (nw (sR (nw (sR (nw (sR (nw (sR (nw (sR (nw (sR (nw (sR (nw (sR (nw (sR (nw (sR (nw (sR (nw (sR (nw (sR (nw (sR (nw (sR (nw (sR (nw (sR (nw (sR (nw (sR (nw (sR (nw (sR (nw (sR (nw (sL u r 3 (1 : Int64))) r 4 (some q3))) r 5 (some q5))) r 6 (some q7))) r 8 (some q9))) r 9 (some q11))) r 10 (some q13))) r 11 (some q15))) r 12 (some q17))) r 13 (some q19))) r 14 (some q21))) r 15 (some q23))) r 16 (some q25))) r 17 (some q27))) r 18 (some q29))) r 19 (some q31))) r 20 (some q33))) r 21 (some q35))) r 23 (some q37))) r 24 (some q39))) r 25 (some q41))) r 26 (some q43))) r 27 (some q45))) r 28 (some q47))) r 29 (some q49))) r 30 (some q51)).1) (fun q53 => L_X8_init_225 r  (fun a60 u61 => some u61) 1000 (0 : Int32) (sR (nw (sR (nw (sR (nw (sR (nw (sR (nw (sR (nw (sR (nw (sR (nw (sR (nw (sR (nw (sR (nw (sR (nw (sR (nw (sR (nw (sR (nw (sR (nw (sR (nw (sR (nw (sR (nw (sR (nw (sR (nw (sR (nw (sR (nw (sR (nw (sR (nw (sR (nw (sL u r 3 (1 : Int64))) r 4 (some q3))) r 5 (some q5))) r 6 (some q7))) r 8 (some q9))) r 9 (some q11))) r 10 (some q13))) r 11 (some q15))) r 12 (some q17))) r 13 (some q19))) r 14 (some q21))) r 15 (some q23))) r 16 (some q25))) r 17 (some q27))) r 18 (some q29))) r 19 (some q31))) r 20 (some q33))) r 21 (some q35))) r 23 (some q37))) r 24 (some q39))) r 25 (some q41))) r 26 (some q43))) r 27 (some q45))) r 28 (some q47))) r 29 (some q49))) r 30 (some q51))) r 32 (some q53)))))))))))))))))))))))))))))))))))))))))))))))))))))))
set_option maxHeartbeats 4000000 in
set_option maxRecDepth 100000 in
theorem c_X8_init (l : Launch) (D : va_G) (cy : Nat → ClassId) (sz : Nat) (H0 : Heap) (u : Mm) (r : Nat) {res : Mm} (h : f_X8_init r u = some res) : Ctr l yX8_init cX8_init 2 none rm_X8_init 26 3628 D cy sz H0 u [.ref (sz + r)] none res := by
  refine m_start (lv := [(0, .ref (sz + r))]) (by decide) (by first | exact Nat.le_of_ble_eq_true rfl | simp [lg_sl, rv_cat, cat_i, cat_l, cat_r, cat_n]) (by first | rfl | simp [lv_args, rv_cat, cat_i, cat_l, cat_r, cat_n]) ?_
  intro p e s m below meth c ls E hr hlk hinit hM hl
  obtain ⟨hx, hb, hml, hown, hts, hKK⟩ := id E
  obtain ⟨H, hH⟩ : ∃ H, H = s.heap := ⟨_, rfl⟩
  obtain ⟨locs, hlocs⟩ : ∃ L : List Loc, L = [] := ⟨_, rfl⟩
  rw [← hH, ← hlocs] at hM ⊢
  unfold f_X8_init at h
  refine lv_aload_n hx hb dX8_init_0 rfl (lv_at hl 0 rfl) ?_
  refine m_obj E hl.1 wl_X8_1 wm_objectInit wd_objectInit dX8_init_1 (by decide) (Nat.le_of_ble_eq_true rfl) ?_
  refine lv_aload_n hx hb dX8_init_4 rfl (lv_at hl 0 rfl) ?_
  refine lv_lconst (v := 1) hx hb dX8_init_5 (by decide) ?_
  obtain ⟨ok1, h⟩ := k_gd h
  refine ps_X8_7 (v := (1 : Int64)) E hM ok1 dX8_init_6 (fun H locs hM => ?_)
  refine lv_aload_n hx hb dX8_init_9 rfl (lv_at hl 0 rfl) ?_
  refine lv_iconst (v := 4) hx hb dX8_init_10 (by decide) ?_
  obtain ⟨ok2, h⟩ := k_gd h
  obtain ⟨q3, hq3⟩ : ∃ y : Nat, y = ((sL u r 3 (1 : Int64))).1 := ⟨_, rfl⟩
  replace h := k_bb h q3 hq3
  refine m_newa hq3 (sh := 9) (ty := .int) (N := 4) (by decide) rfl 0 rfl (fun U h => h) wa_int E hM ok2 (by decide) (by decide) (by decide) (nw_i _).symm (fun j => (nw_i j).trans (nw_i 0).symm) (by decide) (by decide) dX8_init_11 (fun H hM => ?_)
  refine ps_X8_13 (v := (some q3)) E hM (okO_nw ok1) hinit dX8_init_13 (fun H locs hM => ?_)
  refine lv_aload_n hx hb dX8_init_16 rfl (lv_at hl 0 rfl) ?_
  refine lv_iconst (v := 4) hx hb dX8_init_17 (by decide) ?_
  obtain ⟨ok4, h⟩ := k_gd h
  obtain ⟨q5, hq5⟩ : ∃ y : Nat, y = ((sR (nw (sL u r 3 (1 : Int64))) r 4 (some q3))).1 := ⟨_, rfl⟩
  replace h := k_bb h q5 hq5
  refine m_newa hq5 (sh := 9) (ty := .int) (N := 4) (by decide) rfl 0 rfl (fun U h => h) wa_int E hM ok4 (by decide) (by decide) (by decide) (nw_i _).symm (fun j => (nw_i j).trans (nw_i 0).symm) (by decide) (by decide) dX8_init_18 (fun H hM => ?_)
  refine ps_X8_17 (v := (some q5)) E hM (okO_nw (okO_nw ok1)) hinit dX8_init_20 (fun H locs hM => ?_)
  refine lv_aload_n hx hb dX8_init_23 rfl (lv_at hl 0 rfl) ?_
  refine lv_sipush (v := 160) hx hb dX8_init_24 (by decide) ?_
  obtain ⟨ok6, h⟩ := k_gd h
  obtain ⟨q7, hq7⟩ : ∃ y : Nat, y = ((sR (nw (sR (nw (sL u r 3 (1 : Int64))) r 4 (some q3))) r 5 (some q5))).1 := ⟨_, rfl⟩
  replace h := k_bb h q7 hq7
  refine m_newa hq7 (sh := 10) (ty := .long) (N := 160) (by decide) rfl 1 rfl (fun U h => h) wa_long E hM ok6 (by decide) (by decide) (by decide) (nw_l _).symm (fun j => (nw_l j).trans (nw_l 0).symm) (by decide) (by decide) dX8_init_27 (fun H hM => ?_)
  refine ps_X8_20 (v := (some q7)) E hM (okO_nw (okO_nw (okO_nw ok1))) hinit dX8_init_29 (fun H locs hM => ?_)
  refine lv_aload_n hx hb dX8_init_32 rfl (lv_at hl 0 rfl) ?_
  refine lv_bipush (v := 80) hx hb dX8_init_33 (by decide) ?_
  obtain ⟨ok8, h⟩ := k_gd h
  obtain ⟨q9, hq9⟩ : ∃ y : Nat, y = ((sR (nw (sR (nw (sR (nw (sL u r 3 (1 : Int64))) r 4 (some q3))) r 5 (some q5))) r 6 (some q7))).1 := ⟨_, rfl⟩
  replace h := k_bb h q9 hq9
  refine m_newa hq9 (sh := 9) (ty := .int) (N := 80) (by decide) rfl 0 rfl (fun U h => h) wa_int E hM ok8 (by decide) (by decide) (by decide) (nw_i _).symm (fun j => (nw_i j).trans (nw_i 0).symm) (by decide) (by decide) dX8_init_35 (fun H hM => ?_)
  refine ps_X8_24 (v := (some q9)) E hM (okO_nw (okO_nw (okO_nw (okO_nw ok1)))) hinit dX8_init_37 (fun H locs hM => ?_)
  refine lv_aload_n hx hb dX8_init_40 rfl (lv_at hl 0 rfl) ?_
  refine lv_bipush (v := 80) hx hb dX8_init_41 (by decide) ?_
  obtain ⟨ok10, h⟩ := k_gd h
  obtain ⟨q11, hq11⟩ : ∃ y : Nat, y = ((sR (nw (sR (nw (sR (nw (sR (nw (sL u r 3 (1 : Int64))) r 4 (some q3))) r 5 (some q5))) r 6 (some q7))) r 8 (some q9))).1 := ⟨_, rfl⟩
  replace h := k_bb h q11 hq11
  refine m_newa hq11 (sh := 9) (ty := .int) (N := 80) (by decide) rfl 0 rfl (fun U h => h) wa_int E hM ok10 (by decide) (by decide) (by decide) (nw_i _).symm (fun j => (nw_i j).trans (nw_i 0).symm) (by decide) (by decide) dX8_init_43 (fun H hM => ?_)
  refine ps_X8_27 (v := (some q11)) E hM (okO_nw (okO_nw (okO_nw (okO_nw (okO_nw ok1))))) hinit dX8_init_45 (fun H locs hM => ?_)
  refine lv_aload_n hx hb dX8_init_48 rfl (lv_at hl 0 rfl) ?_
  refine lv_bipush (v := 80) hx hb dX8_init_49 (by decide) ?_
  obtain ⟨ok12, h⟩ := k_gd h
  obtain ⟨q13, hq13⟩ : ∃ y : Nat, y = ((sR (nw (sR (nw (sR (nw (sR (nw (sR (nw (sL u r 3 (1 : Int64))) r 4 (some q3))) r 5 (some q5))) r 6 (some q7))) r 8 (some q9))) r 9 (some q11))).1 := ⟨_, rfl⟩
  replace h := k_bb h q13 hq13
  refine m_newa hq13 (sh := 9) (ty := .int) (N := 80) (by decide) rfl 0 rfl (fun U h => h) wa_int E hM ok12 (by decide) (by decide) (by decide) (nw_i _).symm (fun j => (nw_i j).trans (nw_i 0).symm) (by decide) (by decide) dX8_init_51 (fun H hM => ?_)
  refine ps_X8_30 (v := (some q13)) E hM (okO_nw (okO_nw (okO_nw (okO_nw (okO_nw (okO_nw ok1)))))) hinit dX8_init_53 (fun H locs hM => ?_)
  refine lv_aload_n hx hb dX8_init_56 rfl (lv_at hl 0 rfl) ?_
  refine lv_bipush (v := 80) hx hb dX8_init_57 (by decide) ?_
  obtain ⟨ok14, h⟩ := k_gd h
  obtain ⟨q15, hq15⟩ : ∃ y : Nat, y = ((sR (nw (sR (nw (sR (nw (sR (nw (sR (nw (sR (nw (sL u r 3 (1 : Int64))) r 4 (some q3))) r 5 (some q5))) r 6 (some q7))) r 8 (some q9))) r 9 (some q11))) r 10 (some q13))).1 := ⟨_, rfl⟩
  replace h := k_bb h q15 hq15
  refine m_newa hq15 (sh := 9) (ty := .int) (N := 80) (by decide) rfl 0 rfl (fun U h => h) wa_int E hM ok14 (by decide) (by decide) (by decide) (nw_i _).symm (fun j => (nw_i j).trans (nw_i 0).symm) (by decide) (by decide) dX8_init_59 (fun H hM => ?_)
  refine ps_X8_33 (v := (some q15)) E hM (okO_nw (okO_nw (okO_nw (okO_nw (okO_nw (okO_nw (okO_nw ok1))))))) hinit dX8_init_61 (fun H locs hM => ?_)
  refine lv_aload_n hx hb dX8_init_64 rfl (lv_at hl 0 rfl) ?_
  refine lv_sipush (v := 480) hx hb dX8_init_65 (by decide) ?_
  obtain ⟨ok16, h⟩ := k_gd h
  obtain ⟨q17, hq17⟩ : ∃ y : Nat, y = ((sR (nw (sR (nw (sR (nw (sR (nw (sR (nw (sR (nw (sR (nw (sL u r 3 (1 : Int64))) r 4 (some q3))) r 5 (some q5))) r 6 (some q7))) r 8 (some q9))) r 9 (some q11))) r 10 (some q13))) r 11 (some q15))).1 := ⟨_, rfl⟩
  replace h := k_bb h q17 hq17
  refine m_newa hq17 (sh := 9) (ty := .int) (N := 480) (by decide) rfl 0 rfl (fun U h => h) wa_int E hM ok16 (by decide) (by decide) (by decide) (nw_i _).symm (fun j => (nw_i j).trans (nw_i 0).symm) (by decide) (by decide) dX8_init_68 (fun H hM => ?_)
  refine ps_X8_36 (v := (some q17)) E hM (okO_nw (okO_nw (okO_nw (okO_nw (okO_nw (okO_nw (okO_nw (okO_nw ok1)))))))) hinit dX8_init_70 (fun H locs hM => ?_)
  refine lv_aload_n hx hb dX8_init_73 rfl (lv_at hl 0 rfl) ?_
  refine lv_bipush (v := 80) hx hb dX8_init_74 (by decide) ?_
  obtain ⟨ok18, h⟩ := k_gd h
  obtain ⟨q19, hq19⟩ : ∃ y : Nat, y = ((sR (nw (sR (nw (sR (nw (sR (nw (sR (nw (sR (nw (sR (nw (sR (nw (sL u r 3 (1 : Int64))) r 4 (some q3))) r 5 (some q5))) r 6 (some q7))) r 8 (some q9))) r 9 (some q11))) r 10 (some q13))) r 11 (some q15))) r 12 (some q17))).1 := ⟨_, rfl⟩
  replace h := k_bb h q19 hq19
  refine m_newa hq19 (sh := 9) (ty := .int) (N := 80) (by decide) rfl 0 rfl (fun U h => h) wa_int E hM ok18 (by decide) (by decide) (by decide) (nw_i _).symm (fun j => (nw_i j).trans (nw_i 0).symm) (by decide) (by decide) dX8_init_76 (fun H hM => ?_)
  refine ps_X8_39 (v := (some q19)) E hM (okO_nw (okO_nw (okO_nw (okO_nw (okO_nw (okO_nw (okO_nw (okO_nw (okO_nw ok1))))))))) hinit dX8_init_78 (fun H locs hM => ?_)
  refine lv_aload_n hx hb dX8_init_81 rfl (lv_at hl 0 rfl) ?_
  refine lv_bipush (v := 80) hx hb dX8_init_82 (by decide) ?_
  obtain ⟨ok20, h⟩ := k_gd h
  obtain ⟨q21, hq21⟩ : ∃ y : Nat, y = ((sR (nw (sR (nw (sR (nw (sR (nw (sR (nw (sR (nw (sR (nw (sR (nw (sR (nw (sL u r 3 (1 : Int64))) r 4 (some q3))) r 5 (some q5))) r 6 (some q7))) r 8 (some q9))) r 9 (some q11))) r 10 (some q13))) r 11 (some q15))) r 12 (some q17))) r 13 (some q19))).1 := ⟨_, rfl⟩
  replace h := k_bb h q21 hq21
  refine m_newa hq21 (sh := 9) (ty := .int) (N := 80) (by decide) rfl 0 rfl (fun U h => h) wa_int E hM ok20 (by decide) (by decide) (by decide) (nw_i _).symm (fun j => (nw_i j).trans (nw_i 0).symm) (by decide) (by decide) dX8_init_84 (fun H hM => ?_)
  refine ps_X8_42 (v := (some q21)) E hM (okO_nw (okO_nw (okO_nw (okO_nw (okO_nw (okO_nw (okO_nw (okO_nw (okO_nw (okO_nw ok1)))))))))) hinit dX8_init_86 (fun H locs hM => ?_)
  refine lv_aload_n hx hb dX8_init_89 rfl (lv_at hl 0 rfl) ?_
  refine lv_bipush (v := 80) hx hb dX8_init_90 (by decide) ?_
  obtain ⟨ok22, h⟩ := k_gd h
  obtain ⟨q23, hq23⟩ : ∃ y : Nat, y = ((sR (nw (sR (nw (sR (nw (sR (nw (sR (nw (sR (nw (sR (nw (sR (nw (sR (nw (sR (nw (sL u r 3 (1 : Int64))) r 4 (some q3))) r 5 (some q5))) r 6 (some q7))) r 8 (some q9))) r 9 (some q11))) r 10 (some q13))) r 11 (some q15))) r 12 (some q17))) r 13 (some q19))) r 14 (some q21))).1 := ⟨_, rfl⟩
  replace h := k_bb h q23 hq23
  refine m_newa hq23 (sh := 9) (ty := .int) (N := 80) (by decide) rfl 0 rfl (fun U h => h) wa_int E hM ok22 (by decide) (by decide) (by decide) (nw_i _).symm (fun j => (nw_i j).trans (nw_i 0).symm) (by decide) (by decide) dX8_init_92 (fun H hM => ?_)
  refine ps_X8_45 (v := (some q23)) E hM (okO_nw (okO_nw (okO_nw (okO_nw (okO_nw (okO_nw (okO_nw (okO_nw (okO_nw (okO_nw (okO_nw ok1))))))))))) hinit dX8_init_94 (fun H locs hM => ?_)
  refine lv_aload_n hx hb dX8_init_97 rfl (lv_at hl 0 rfl) ?_
  refine lv_bipush (v := 80) hx hb dX8_init_98 (by decide) ?_
  obtain ⟨ok24, h⟩ := k_gd h
  obtain ⟨q25, hq25⟩ : ∃ y : Nat, y = ((sR (nw (sR (nw (sR (nw (sR (nw (sR (nw (sR (nw (sR (nw (sR (nw (sR (nw (sR (nw (sR (nw (sL u r 3 (1 : Int64))) r 4 (some q3))) r 5 (some q5))) r 6 (some q7))) r 8 (some q9))) r 9 (some q11))) r 10 (some q13))) r 11 (some q15))) r 12 (some q17))) r 13 (some q19))) r 14 (some q21))) r 15 (some q23))).1 := ⟨_, rfl⟩
  replace h := k_bb h q25 hq25
  refine m_newa hq25 (sh := 9) (ty := .int) (N := 80) (by decide) rfl 0 rfl (fun U h => h) wa_int E hM ok24 (by decide) (by decide) (by decide) (nw_i _).symm (fun j => (nw_i j).trans (nw_i 0).symm) (by decide) (by decide) dX8_init_100 (fun H hM => ?_)
  refine ps_X8_48 (v := (some q25)) E hM (okO_nw (okO_nw (okO_nw (okO_nw (okO_nw (okO_nw (okO_nw (okO_nw (okO_nw (okO_nw (okO_nw (okO_nw ok1)))))))))))) hinit dX8_init_102 (fun H locs hM => ?_)
  refine lv_aload_n hx hb dX8_init_105 rfl (lv_at hl 0 rfl) ?_
  refine lv_bipush (v := 80) hx hb dX8_init_106 (by decide) ?_
  obtain ⟨ok26, h⟩ := k_gd h
  obtain ⟨q27, hq27⟩ : ∃ y : Nat, y = ((sR (nw (sR (nw (sR (nw (sR (nw (sR (nw (sR (nw (sR (nw (sR (nw (sR (nw (sR (nw (sR (nw (sR (nw (sL u r 3 (1 : Int64))) r 4 (some q3))) r 5 (some q5))) r 6 (some q7))) r 8 (some q9))) r 9 (some q11))) r 10 (some q13))) r 11 (some q15))) r 12 (some q17))) r 13 (some q19))) r 14 (some q21))) r 15 (some q23))) r 16 (some q25))).1 := ⟨_, rfl⟩
  replace h := k_bb h q27 hq27
  refine m_newa hq27 (sh := 9) (ty := .int) (N := 80) (by decide) rfl 0 rfl (fun U h => h) wa_int E hM ok26 (by decide) (by decide) (by decide) (nw_i _).symm (fun j => (nw_i j).trans (nw_i 0).symm) (by decide) (by decide) dX8_init_108 (fun H hM => ?_)
  refine ps_X8_51 (v := (some q27)) E hM (okO_nw (okO_nw (okO_nw (okO_nw (okO_nw (okO_nw (okO_nw (okO_nw (okO_nw (okO_nw (okO_nw (okO_nw (okO_nw ok1))))))))))))) hinit dX8_init_110 (fun H locs hM => ?_)
  refine lv_aload_n hx hb dX8_init_113 rfl (lv_at hl 0 rfl) ?_
  refine lv_bipush (v := 80) hx hb dX8_init_114 (by decide) ?_
  obtain ⟨ok28, h⟩ := k_gd h
  obtain ⟨q29, hq29⟩ : ∃ y : Nat, y = ((sR (nw (sR (nw (sR (nw (sR (nw (sR (nw (sR (nw (sR (nw (sR (nw (sR (nw (sR (nw (sR (nw (sR (nw (sR (nw (sL u r 3 (1 : Int64))) r 4 (some q3))) r 5 (some q5))) r 6 (some q7))) r 8 (some q9))) r 9 (some q11))) r 10 (some q13))) r 11 (some q15))) r 12 (some q17))) r 13 (some q19))) r 14 (some q21))) r 15 (some q23))) r 16 (some q25))) r 17 (some q27))).1 := ⟨_, rfl⟩
  replace h := k_bb h q29 hq29
  refine m_newa hq29 (sh := 9) (ty := .int) (N := 80) (by decide) rfl 0 rfl (fun U h => h) wa_int E hM ok28 (by decide) (by decide) (by decide) (nw_i _).symm (fun j => (nw_i j).trans (nw_i 0).symm) (by decide) (by decide) dX8_init_116 (fun H hM => ?_)
  refine ps_X8_54 (v := (some q29)) E hM (okO_nw (okO_nw (okO_nw (okO_nw (okO_nw (okO_nw (okO_nw (okO_nw (okO_nw (okO_nw (okO_nw (okO_nw (okO_nw (okO_nw ok1)))))))))))))) hinit dX8_init_118 (fun H locs hM => ?_)
  refine lv_aload_n hx hb dX8_init_121 rfl (lv_at hl 0 rfl) ?_
  refine lv_bipush (v := 80) hx hb dX8_init_122 (by decide) ?_
  obtain ⟨ok30, h⟩ := k_gd h
  obtain ⟨q31, hq31⟩ : ∃ y : Nat, y = ((sR (nw (sR (nw (sR (nw (sR (nw (sR (nw (sR (nw (sR (nw (sR (nw (sR (nw (sR (nw (sR (nw (sR (nw (sR (nw (sR (nw (sL u r 3 (1 : Int64))) r 4 (some q3))) r 5 (some q5))) r 6 (some q7))) r 8 (some q9))) r 9 (some q11))) r 10 (some q13))) r 11 (some q15))) r 12 (some q17))) r 13 (some q19))) r 14 (some q21))) r 15 (some q23))) r 16 (some q25))) r 17 (some q27))) r 18 (some q29))).1 := ⟨_, rfl⟩
  replace h := k_bb h q31 hq31
  refine m_newa hq31 (sh := 9) (ty := .int) (N := 80) (by decide) rfl 0 rfl (fun U h => h) wa_int E hM ok30 (by decide) (by decide) (by decide) (nw_i _).symm (fun j => (nw_i j).trans (nw_i 0).symm) (by decide) (by decide) dX8_init_124 (fun H hM => ?_)
  refine ps_X8_57 (v := (some q31)) E hM (okO_nw (okO_nw (okO_nw (okO_nw (okO_nw (okO_nw (okO_nw (okO_nw (okO_nw (okO_nw (okO_nw (okO_nw (okO_nw (okO_nw (okO_nw ok1))))))))))))))) hinit dX8_init_126 (fun H locs hM => ?_)
  refine lv_aload_n hx hb dX8_init_129 rfl (lv_at hl 0 rfl) ?_
  refine lv_bipush (v := 80) hx hb dX8_init_130 (by decide) ?_
  obtain ⟨ok32, h⟩ := k_gd h
  obtain ⟨q33, hq33⟩ : ∃ y : Nat, y = ((sR (nw (sR (nw (sR (nw (sR (nw (sR (nw (sR (nw (sR (nw (sR (nw (sR (nw (sR (nw (sR (nw (sR (nw (sR (nw (sR (nw (sR (nw (sL u r 3 (1 : Int64))) r 4 (some q3))) r 5 (some q5))) r 6 (some q7))) r 8 (some q9))) r 9 (some q11))) r 10 (some q13))) r 11 (some q15))) r 12 (some q17))) r 13 (some q19))) r 14 (some q21))) r 15 (some q23))) r 16 (some q25))) r 17 (some q27))) r 18 (some q29))) r 19 (some q31))).1 := ⟨_, rfl⟩
  replace h := k_bb h q33 hq33
  refine m_newa hq33 (sh := 9) (ty := .int) (N := 80) (by decide) rfl 0 rfl (fun U h => h) wa_int E hM ok32 (by decide) (by decide) (by decide) (nw_i _).symm (fun j => (nw_i j).trans (nw_i 0).symm) (by decide) (by decide) dX8_init_132 (fun H hM => ?_)
  refine ps_X8_60 (v := (some q33)) E hM (okO_nw (okO_nw (okO_nw (okO_nw (okO_nw (okO_nw (okO_nw (okO_nw (okO_nw (okO_nw (okO_nw (okO_nw (okO_nw (okO_nw (okO_nw (okO_nw ok1)))))))))))))))) hinit dX8_init_134 (fun H locs hM => ?_)
  refine lv_aload_n hx hb dX8_init_137 rfl (lv_at hl 0 rfl) ?_
  refine lv_bipush (v := 80) hx hb dX8_init_138 (by decide) ?_
  obtain ⟨ok34, h⟩ := k_gd h
  obtain ⟨q35, hq35⟩ : ∃ y : Nat, y = ((sR (nw (sR (nw (sR (nw (sR (nw (sR (nw (sR (nw (sR (nw (sR (nw (sR (nw (sR (nw (sR (nw (sR (nw (sR (nw (sR (nw (sR (nw (sR (nw (sL u r 3 (1 : Int64))) r 4 (some q3))) r 5 (some q5))) r 6 (some q7))) r 8 (some q9))) r 9 (some q11))) r 10 (some q13))) r 11 (some q15))) r 12 (some q17))) r 13 (some q19))) r 14 (some q21))) r 15 (some q23))) r 16 (some q25))) r 17 (some q27))) r 18 (some q29))) r 19 (some q31))) r 20 (some q33))).1 := ⟨_, rfl⟩
  replace h := k_bb h q35 hq35
  refine m_newa hq35 (sh := 9) (ty := .int) (N := 80) (by decide) rfl 0 rfl (fun U h => h) wa_int E hM ok34 (by decide) (by decide) (by decide) (nw_i _).symm (fun j => (nw_i j).trans (nw_i 0).symm) (by decide) (by decide) dX8_init_140 (fun H hM => ?_)
  refine ps_X8_63 (v := (some q35)) E hM (okO_nw (okO_nw (okO_nw (okO_nw (okO_nw (okO_nw (okO_nw (okO_nw (okO_nw (okO_nw (okO_nw (okO_nw (okO_nw (okO_nw (okO_nw (okO_nw (okO_nw ok1))))))))))))))))) hinit dX8_init_142 (fun H locs hM => ?_)
  refine lv_aload_n hx hb dX8_init_145 rfl (lv_at hl 0 rfl) ?_
  refine lv_sipush (v := 200) hx hb dX8_init_146 (by decide) ?_
  obtain ⟨ok36, h⟩ := k_gd h
  obtain ⟨q37, hq37⟩ : ∃ y : Nat, y = ((sR (nw (sR (nw (sR (nw (sR (nw (sR (nw (sR (nw (sR (nw (sR (nw (sR (nw (sR (nw (sR (nw (sR (nw (sR (nw (sR (nw (sR (nw (sR (nw (sR (nw (sL u r 3 (1 : Int64))) r 4 (some q3))) r 5 (some q5))) r 6 (some q7))) r 8 (some q9))) r 9 (some q11))) r 10 (some q13))) r 11 (some q15))) r 12 (some q17))) r 13 (some q19))) r 14 (some q21))) r 15 (some q23))) r 16 (some q25))) r 17 (some q27))) r 18 (some q29))) r 19 (some q31))) r 20 (some q33))) r 21 (some q35))).1 := ⟨_, rfl⟩
  replace h := k_bb h q37 hq37
  refine m_newa hq37 (sh := 9) (ty := .int) (N := 200) (by decide) rfl 0 rfl (fun U h => h) wa_int E hM ok36 (by decide) (by decide) (by decide) (nw_i _).symm (fun j => (nw_i j).trans (nw_i 0).symm) (by decide) (by decide) dX8_init_149 (fun H hM => ?_)
  refine ps_X8_66 (v := (some q37)) E hM (okO_nw (okO_nw (okO_nw (okO_nw (okO_nw (okO_nw (okO_nw (okO_nw (okO_nw (okO_nw (okO_nw (okO_nw (okO_nw (okO_nw (okO_nw (okO_nw (okO_nw (okO_nw ok1)))))))))))))))))) hinit dX8_init_151 (fun H locs hM => ?_)
  refine lv_aload_n hx hb dX8_init_154 rfl (lv_at hl 0 rfl) ?_
  refine lv_sipush (v := 200) hx hb dX8_init_155 (by decide) ?_
  obtain ⟨ok38, h⟩ := k_gd h
  obtain ⟨q39, hq39⟩ : ∃ y : Nat, y = ((sR (nw (sR (nw (sR (nw (sR (nw (sR (nw (sR (nw (sR (nw (sR (nw (sR (nw (sR (nw (sR (nw (sR (nw (sR (nw (sR (nw (sR (nw (sR (nw (sR (nw (sR (nw (sL u r 3 (1 : Int64))) r 4 (some q3))) r 5 (some q5))) r 6 (some q7))) r 8 (some q9))) r 9 (some q11))) r 10 (some q13))) r 11 (some q15))) r 12 (some q17))) r 13 (some q19))) r 14 (some q21))) r 15 (some q23))) r 16 (some q25))) r 17 (some q27))) r 18 (some q29))) r 19 (some q31))) r 20 (some q33))) r 21 (some q35))) r 23 (some q37))).1 := ⟨_, rfl⟩
  replace h := k_bb h q39 hq39
  refine m_newa hq39 (sh := 9) (ty := .int) (N := 200) (by decide) rfl 0 rfl (fun U h => h) wa_int E hM ok38 (by decide) (by decide) (by decide) (nw_i _).symm (fun j => (nw_i j).trans (nw_i 0).symm) (by decide) (by decide) dX8_init_158 (fun H hM => ?_)
  refine ps_X8_69 (v := (some q39)) E hM (okO_nw (okO_nw (okO_nw (okO_nw (okO_nw (okO_nw (okO_nw (okO_nw (okO_nw (okO_nw (okO_nw (okO_nw (okO_nw (okO_nw (okO_nw (okO_nw (okO_nw (okO_nw (okO_nw ok1))))))))))))))))))) hinit dX8_init_160 (fun H locs hM => ?_)
  refine lv_aload_n hx hb dX8_init_163 rfl (lv_at hl 0 rfl) ?_
  refine lv_sipush (v := 200) hx hb dX8_init_164 (by decide) ?_
  obtain ⟨ok40, h⟩ := k_gd h
  obtain ⟨q41, hq41⟩ : ∃ y : Nat, y = ((sR (nw (sR (nw (sR (nw (sR (nw (sR (nw (sR (nw (sR (nw (sR (nw (sR (nw (sR (nw (sR (nw (sR (nw (sR (nw (sR (nw (sR (nw (sR (nw (sR (nw (sR (nw (sR (nw (sL u r 3 (1 : Int64))) r 4 (some q3))) r 5 (some q5))) r 6 (some q7))) r 8 (some q9))) r 9 (some q11))) r 10 (some q13))) r 11 (some q15))) r 12 (some q17))) r 13 (some q19))) r 14 (some q21))) r 15 (some q23))) r 16 (some q25))) r 17 (some q27))) r 18 (some q29))) r 19 (some q31))) r 20 (some q33))) r 21 (some q35))) r 23 (some q37))) r 24 (some q39))).1 := ⟨_, rfl⟩
  replace h := k_bb h q41 hq41
  refine m_newa hq41 (sh := 9) (ty := .int) (N := 200) (by decide) rfl 0 rfl (fun U h => h) wa_int E hM ok40 (by decide) (by decide) (by decide) (nw_i _).symm (fun j => (nw_i j).trans (nw_i 0).symm) (by decide) (by decide) dX8_init_167 (fun H hM => ?_)
  refine ps_X8_72 (v := (some q41)) E hM (okO_nw (okO_nw (okO_nw (okO_nw (okO_nw (okO_nw (okO_nw (okO_nw (okO_nw (okO_nw (okO_nw (okO_nw (okO_nw (okO_nw (okO_nw (okO_nw (okO_nw (okO_nw (okO_nw (okO_nw ok1)))))))))))))))))))) hinit dX8_init_169 (fun H locs hM => ?_)
  refine lv_aload_n hx hb dX8_init_172 rfl (lv_at hl 0 rfl) ?_
  refine lv_bipush (v := 40) hx hb dX8_init_173 (by decide) ?_
  obtain ⟨ok42, h⟩ := k_gd h
  obtain ⟨q43, hq43⟩ : ∃ y : Nat, y = ((sR (nw (sR (nw (sR (nw (sR (nw (sR (nw (sR (nw (sR (nw (sR (nw (sR (nw (sR (nw (sR (nw (sR (nw (sR (nw (sR (nw (sR (nw (sR (nw (sR (nw (sR (nw (sR (nw (sR (nw (sL u r 3 (1 : Int64))) r 4 (some q3))) r 5 (some q5))) r 6 (some q7))) r 8 (some q9))) r 9 (some q11))) r 10 (some q13))) r 11 (some q15))) r 12 (some q17))) r 13 (some q19))) r 14 (some q21))) r 15 (some q23))) r 16 (some q25))) r 17 (some q27))) r 18 (some q29))) r 19 (some q31))) r 20 (some q33))) r 21 (some q35))) r 23 (some q37))) r 24 (some q39))) r 25 (some q41))).1 := ⟨_, rfl⟩
  replace h := k_bb h q43 hq43
  refine m_newa hq43 (sh := 9) (ty := .int) (N := 40) (by decide) rfl 0 rfl (fun U h => h) wa_int E hM ok42 (by decide) (by decide) (by decide) (nw_i _).symm (fun j => (nw_i j).trans (nw_i 0).symm) (by decide) (by decide) dX8_init_175 (fun H hM => ?_)
  refine ps_X8_75 (v := (some q43)) E hM (okO_nw (okO_nw (okO_nw (okO_nw (okO_nw (okO_nw (okO_nw (okO_nw (okO_nw (okO_nw (okO_nw (okO_nw (okO_nw (okO_nw (okO_nw (okO_nw (okO_nw (okO_nw (okO_nw (okO_nw (okO_nw ok1))))))))))))))))))))) hinit dX8_init_177 (fun H locs hM => ?_)
  refine lv_aload_n hx hb dX8_init_180 rfl (lv_at hl 0 rfl) ?_
  refine lv_bipush (v := 80) hx hb dX8_init_181 (by decide) ?_
  obtain ⟨ok44, h⟩ := k_gd h
  obtain ⟨q45, hq45⟩ : ∃ y : Nat, y = ((sR (nw (sR (nw (sR (nw (sR (nw (sR (nw (sR (nw (sR (nw (sR (nw (sR (nw (sR (nw (sR (nw (sR (nw (sR (nw (sR (nw (sR (nw (sR (nw (sR (nw (sR (nw (sR (nw (sR (nw (sR (nw (sL u r 3 (1 : Int64))) r 4 (some q3))) r 5 (some q5))) r 6 (some q7))) r 8 (some q9))) r 9 (some q11))) r 10 (some q13))) r 11 (some q15))) r 12 (some q17))) r 13 (some q19))) r 14 (some q21))) r 15 (some q23))) r 16 (some q25))) r 17 (some q27))) r 18 (some q29))) r 19 (some q31))) r 20 (some q33))) r 21 (some q35))) r 23 (some q37))) r 24 (some q39))) r 25 (some q41))) r 26 (some q43))).1 := ⟨_, rfl⟩
  replace h := k_bb h q45 hq45
  refine m_newa hq45 (sh := 9) (ty := .int) (N := 80) (by decide) rfl 0 rfl (fun U h => h) wa_int E hM ok44 (by decide) (by decide) (by decide) (nw_i _).symm (fun j => (nw_i j).trans (nw_i 0).symm) (by decide) (by decide) dX8_init_183 (fun H hM => ?_)
  refine ps_X8_78 (v := (some q45)) E hM (okO_nw (okO_nw (okO_nw (okO_nw (okO_nw (okO_nw (okO_nw (okO_nw (okO_nw (okO_nw (okO_nw (okO_nw (okO_nw (okO_nw (okO_nw (okO_nw (okO_nw (okO_nw (okO_nw (okO_nw (okO_nw (okO_nw ok1)))))))))))))))))))))) hinit dX8_init_185 (fun H locs hM => ?_)
  refine lv_aload_n hx hb dX8_init_188 rfl (lv_at hl 0 rfl) ?_
  refine lv_sipush (v := 400) hx hb dX8_init_189 (by decide) ?_
  obtain ⟨ok46, h⟩ := k_gd h
  obtain ⟨q47, hq47⟩ : ∃ y : Nat, y = ((sR (nw (sR (nw (sR (nw (sR (nw (sR (nw (sR (nw (sR (nw (sR (nw (sR (nw (sR (nw (sR (nw (sR (nw (sR (nw (sR (nw (sR (nw (sR (nw (sR (nw (sR (nw (sR (nw (sR (nw (sR (nw (sR (nw (sL u r 3 (1 : Int64))) r 4 (some q3))) r 5 (some q5))) r 6 (some q7))) r 8 (some q9))) r 9 (some q11))) r 10 (some q13))) r 11 (some q15))) r 12 (some q17))) r 13 (some q19))) r 14 (some q21))) r 15 (some q23))) r 16 (some q25))) r 17 (some q27))) r 18 (some q29))) r 19 (some q31))) r 20 (some q33))) r 21 (some q35))) r 23 (some q37))) r 24 (some q39))) r 25 (some q41))) r 26 (some q43))) r 27 (some q45))).1 := ⟨_, rfl⟩
  replace h := k_bb h q47 hq47
  refine m_newa hq47 (sh := 9) (ty := .int) (N := 400) (by decide) rfl 0 rfl (fun U h => h) wa_int E hM ok46 (by decide) (by decide) (by decide) (nw_i _).symm (fun j => (nw_i j).trans (nw_i 0).symm) (by decide) (by decide) dX8_init_192 (fun H hM => ?_)
  refine ps_X8_81 (v := (some q47)) E hM (okO_nw (okO_nw (okO_nw (okO_nw (okO_nw (okO_nw (okO_nw (okO_nw (okO_nw (okO_nw (okO_nw (okO_nw (okO_nw (okO_nw (okO_nw (okO_nw (okO_nw (okO_nw (okO_nw (okO_nw (okO_nw (okO_nw (okO_nw ok1))))))))))))))))))))))) hinit dX8_init_194 (fun H locs hM => ?_)
  refine lv_aload_n hx hb dX8_init_197 rfl (lv_at hl 0 rfl) ?_
  refine lv_sipush (v := 400) hx hb dX8_init_198 (by decide) ?_
  obtain ⟨ok48, h⟩ := k_gd h
  obtain ⟨q49, hq49⟩ : ∃ y : Nat, y = ((sR (nw (sR (nw (sR (nw (sR (nw (sR (nw (sR (nw (sR (nw (sR (nw (sR (nw (sR (nw (sR (nw (sR (nw (sR (nw (sR (nw (sR (nw (sR (nw (sR (nw (sR (nw (sR (nw (sR (nw (sR (nw (sR (nw (sR (nw (sL u r 3 (1 : Int64))) r 4 (some q3))) r 5 (some q5))) r 6 (some q7))) r 8 (some q9))) r 9 (some q11))) r 10 (some q13))) r 11 (some q15))) r 12 (some q17))) r 13 (some q19))) r 14 (some q21))) r 15 (some q23))) r 16 (some q25))) r 17 (some q27))) r 18 (some q29))) r 19 (some q31))) r 20 (some q33))) r 21 (some q35))) r 23 (some q37))) r 24 (some q39))) r 25 (some q41))) r 26 (some q43))) r 27 (some q45))) r 28 (some q47))).1 := ⟨_, rfl⟩
  replace h := k_bb h q49 hq49
  refine m_newa hq49 (sh := 9) (ty := .int) (N := 400) (by decide) rfl 0 rfl (fun U h => h) wa_int E hM ok48 (by decide) (by decide) (by decide) (nw_i _).symm (fun j => (nw_i j).trans (nw_i 0).symm) (by decide) (by decide) dX8_init_201 (fun H hM => ?_)
  refine ps_X8_84 (v := (some q49)) E hM (okO_nw (okO_nw (okO_nw (okO_nw (okO_nw (okO_nw (okO_nw (okO_nw (okO_nw (okO_nw (okO_nw (okO_nw (okO_nw (okO_nw (okO_nw (okO_nw (okO_nw (okO_nw (okO_nw (okO_nw (okO_nw (okO_nw (okO_nw (okO_nw ok1)))))))))))))))))))))))) hinit dX8_init_203 (fun H locs hM => ?_)
  refine lv_aload_n hx hb dX8_init_206 rfl (lv_at hl 0 rfl) ?_
  refine lv_sipush (v := 400) hx hb dX8_init_207 (by decide) ?_
  obtain ⟨ok50, h⟩ := k_gd h
  obtain ⟨q51, hq51⟩ : ∃ y : Nat, y = ((sR (nw (sR (nw (sR (nw (sR (nw (sR (nw (sR (nw (sR (nw (sR (nw (sR (nw (sR (nw (sR (nw (sR (nw (sR (nw (sR (nw (sR (nw (sR (nw (sR (nw (sR (nw (sR (nw (sR (nw (sR (nw (sR (nw (sR (nw (sR (nw (sL u r 3 (1 : Int64))) r 4 (some q3))) r 5 (some q5))) r 6 (some q7))) r 8 (some q9))) r 9 (some q11))) r 10 (some q13))) r 11 (some q15))) r 12 (some q17))) r 13 (some q19))) r 14 (some q21))) r 15 (some q23))) r 16 (some q25))) r 17 (some q27))) r 18 (some q29))) r 19 (some q31))) r 20 (some q33))) r 21 (some q35))) r 23 (some q37))) r 24 (some q39))) r 25 (some q41))) r 26 (some q43))) r 27 (some q45))) r 28 (some q47))) r 29 (some q49))).1 := ⟨_, rfl⟩
  replace h := k_bb h q51 hq51
  refine m_newa hq51 (sh := 9) (ty := .int) (N := 400) (by decide) rfl 0 rfl (fun U h => h) wa_int E hM ok50 (by decide) (by decide) (by decide) (nw_i _).symm (fun j => (nw_i j).trans (nw_i 0).symm) (by decide) (by decide) dX8_init_210 (fun H hM => ?_)
  refine ps_X8_87 (v := (some q51)) E hM (okO_nw (okO_nw (okO_nw (okO_nw (okO_nw (okO_nw (okO_nw (okO_nw (okO_nw (okO_nw (okO_nw (okO_nw (okO_nw (okO_nw (okO_nw (okO_nw (okO_nw (okO_nw (okO_nw (okO_nw (okO_nw (okO_nw (okO_nw (okO_nw (okO_nw ok1))))))))))))))))))))))))) hinit dX8_init_212 (fun H locs hM => ?_)
  refine lv_aload_n hx hb dX8_init_215 rfl (lv_at hl 0 rfl) ?_
  refine lv_bipush (v := 20) hx hb dX8_init_216 (by decide) ?_
  obtain ⟨ok52, h⟩ := k_gd h
  obtain ⟨q53, hq53⟩ : ∃ y : Nat, y = ((sR (nw (sR (nw (sR (nw (sR (nw (sR (nw (sR (nw (sR (nw (sR (nw (sR (nw (sR (nw (sR (nw (sR (nw (sR (nw (sR (nw (sR (nw (sR (nw (sR (nw (sR (nw (sR (nw (sR (nw (sR (nw (sR (nw (sR (nw (sR (nw (sR (nw (sL u r 3 (1 : Int64))) r 4 (some q3))) r 5 (some q5))) r 6 (some q7))) r 8 (some q9))) r 9 (some q11))) r 10 (some q13))) r 11 (some q15))) r 12 (some q17))) r 13 (some q19))) r 14 (some q21))) r 15 (some q23))) r 16 (some q25))) r 17 (some q27))) r 18 (some q29))) r 19 (some q31))) r 20 (some q33))) r 21 (some q35))) r 23 (some q37))) r 24 (some q39))) r 25 (some q41))) r 26 (some q43))) r 27 (some q45))) r 28 (some q47))) r 29 (some q49))) r 30 (some q51))).1 := ⟨_, rfl⟩
  replace h := k_bb h q53 hq53
  refine m_newa hq53 (sh := 9) (ty := .int) (N := 20) (by decide) rfl 0 rfl (fun U h => h) wa_int E hM ok52 (by decide) (by decide) (by decide) (nw_i _).symm (fun j => (nw_i j).trans (nw_i 0).symm) (by decide) (by decide) dX8_init_218 (fun H hM => ?_)
  refine ps_X8_90 (v := (some q53)) E hM (okO_nw (okO_nw (okO_nw (okO_nw (okO_nw (okO_nw (okO_nw (okO_nw (okO_nw (okO_nw (okO_nw (okO_nw (okO_nw (okO_nw (okO_nw (okO_nw (okO_nw (okO_nw (okO_nw (okO_nw (okO_nw (okO_nw (okO_nw (okO_nw (okO_nw (okO_nw ok1)))))))))))))))))))))))))) hinit dX8_init_220 (fun H locs hM => ?_)
  refine lv_iconst (v := 0) hx hb dX8_init_223 (by decide) ?_
  refine lv_istore_n (i := 1) (lv' := [(1, .int (0 : Int32)), (0, .ref (sz + r))]) hx hb dX8_init_224 rfl hl (by decide) (by first | rfl | simp [rv_cat, cat_i, cat_l, cat_r, cat_n]) (fun ls hl => ?_)
  refine lp_X8_init_225 hr hlk  E 1000 (0 : Int32) (sR (nw (sR (nw (sR (nw (sR (nw (sR (nw (sR (nw (sR (nw (sR (nw (sR (nw (sR (nw (sR (nw (sR (nw (sR (nw (sR (nw (sR (nw (sR (nw (sR (nw (sR (nw (sR (nw (sR (nw (sR (nw (sR (nw (sR (nw (sR (nw (sR (nw (sR (nw (sL u r 3 (1 : Int64))) r 4 (some q3))) r 5 (some q5))) r 6 (some q7))) r 8 (some q9))) r 9 (some q11))) r 10 (some q13))) r 11 (some q15))) r 12 (some q17))) r 13 (some q19))) r 14 (some q21))) r 15 (some q23))) r 16 (some q25))) r 17 (some q27))) r 18 (some q29))) r 19 (some q31))) r 20 (some q33))) r 21 (some q35))) r 23 (some q37))) r 24 (some q39))) r 25 (some q41))) r 26 (some q43))) r 27 (some q45))) r 28 (some q47))) r 29 (some q49))) r 30 (some q51))) r 32 (some q53)) H locs ls hM (lv_sub hl [1, 0] rfl) h (fun a60 u61 H locs ls hM hl h => ?_)
  cases h
  exact m_vret hx hb hr hlk hM rfl dX8_init_243

abbrev rm_X8_status : Room := { frames := 0, cells := 0, slots := 0, locals := 0 }
def f_X8_status (r : Nat) (u : Mm) : Option ((Int32) × Mm) := gd (okO u r 8) (some ((gI (sI u r 1 (0 : Int32)) r 0), (sI u r 1 (0 : Int32))))
set_option maxHeartbeats 4000000 in
set_option maxRecDepth 100000 in
theorem c_X8_status (l : Launch) (D : va_G) (cy : Nat → ClassId) (sz : Nat) (H0 : Heap) (u : Mm) (r : Nat) {res : (Int32) × Mm} (h : f_X8_status r u = some res) : Ctr l yX8_status cX8_status 1 (some .int) rm_X8_status 0 0 D cy sz H0 u [.ref (sz + r)] (some (.int res.1)) res.2 := by
  refine m_start (lv := [(0, .ref (sz + r))]) (by decide) (by first | exact Nat.le_of_ble_eq_true rfl | simp [lg_sl, rv_cat, cat_i, cat_l, cat_r, cat_n]) (by first | rfl | simp [lv_args, rv_cat, cat_i, cat_l, cat_r, cat_n]) ?_
  intro p e s m below meth c ls E hr hlk hinit hM hl
  obtain ⟨hx, hb, hml, hown, hts, hKK⟩ := id E
  obtain ⟨H, hH⟩ : ∃ H, H = s.heap := ⟨_, rfl⟩
  obtain ⟨locs, hlocs⟩ : ∃ L : List Loc, L = [] := ⟨_, rfl⟩
  rw [← hH, ← hlocs] at hM ⊢
  unfold f_X8_status at h
  refine lv_aload_n hx hb dX8_status_0 rfl (lv_at hl 0 rfl) ?_
  refine lv_iconst (v := 0) hx hb dX8_status_1 (by decide) ?_
  obtain ⟨ok1, h⟩ := k_gd h
  refine ps_X8_93 (v := (0 : Int32)) E hM ok1 dX8_status_2 (fun H locs hM => ?_)
  refine lv_aload_n hx hb dX8_status_5 rfl (lv_at hl 0 rfl) ?_
  refine gs_X8_97 E hM ok1 dX8_status_6 ?_
  cases h
  exact m_iret hx hb hr hlk hM rfl rfl dX8_status_9

abbrev rm_X8_refuse : Room := { frames := 0, cells := 0, slots := 0, locals := 0 }
def f_X8_refuse (r : Nat) (p1 : Int32) (u : Mm) : Option ((Int32) × Mm) := gd (okO u r 8) (some ((-1 : Int32), (sI u r 0 p1)))
set_option maxHeartbeats 4000000 in
set_option maxRecDepth 100000 in
theorem c_X8_refuse (l : Launch) (D : va_G) (cy : Nat → ClassId) (sz : Nat) (H0 : Heap) (u : Mm) (r : Nat) (p1 : Int32) {res : (Int32) × Mm} (h : f_X8_refuse r p1 u = some res) : Ctr l yX8_refuse cX8_refuse 2 (some .int) rm_X8_refuse 0 0 D cy sz H0 u [.ref (sz + r), .int p1] (some (.int res.1)) res.2 := by
  refine m_start (lv := [(0, .ref (sz + r)), (1, .int p1)]) (by decide) (by first | exact Nat.le_of_ble_eq_true rfl | simp [lg_sl, rv_cat, cat_i, cat_l, cat_r, cat_n]) (by first | rfl | simp [lv_args, rv_cat, cat_i, cat_l, cat_r, cat_n]) ?_
  intro p e s m below meth c ls E hr hlk hinit hM hl
  obtain ⟨hx, hb, hml, hown, hts, hKK⟩ := id E
  obtain ⟨H, hH⟩ : ∃ H, H = s.heap := ⟨_, rfl⟩
  obtain ⟨locs, hlocs⟩ : ∃ L : List Loc, L = [] := ⟨_, rfl⟩
  rw [← hH, ← hlocs] at hM ⊢
  unfold f_X8_refuse at h
  refine lv_aload_n hx hb dX8_refuse_0 rfl (lv_at hl 0 rfl) ?_
  refine lv_iload_n hx hb dX8_refuse_1 rfl (lv_at hl 1 rfl) ?_
  obtain ⟨ok1, h⟩ := k_gd h
  refine ps_X8_97 (v := p1) E hM ok1 dX8_refuse_2 (fun H locs hM => ?_)
  refine lv_iconst (v := (-1)) hx hb dX8_refuse_5 (by decide) ?_
  cases h
  exact m_iret hx hb hr hlk hM rfl rfl dX8_refuse_6

