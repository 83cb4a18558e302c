abbrev rm_X7_span : Room := { frames := 1, cells := 0, slots := 0, locals := 36 }
def f_X7_span (r : Nat) (p1 : Int32) (p2 : Int32) (p3 : Int32) (u : Mm) : Option ((Int32) × Mm) := gd (okO u r 7) (bb (gR u r 1) (fun x2 => cs x2 none (fun k3 => gd (okO u k3 0) (bd (f_X0_at k3 p1 u) (fun w5 => cs w5 (bd (f_X7_deny r (2 : Int32) u) (fun w7 => gd (isB w7.1) (some (w7.1, w7.2)))) (fun k6 => bd (f_X7_within p2 (0 : Int32) p3 u) (fun w9 => (if w9 = 0 then bd (f_X7_deny r (5 : Int32) u) (fun w11 => gd (isB w11.1) (some (w11.1, w11.2))) else (if p3 ≤ (100000 : Int32) then gd (okO u k6 5) (bd (f_X7_grant r (sI (sI u k6 4 p2) k6 5 p3)) (fun w15 => gd (isB w15.1) (some (w15.1, w15.2)))) else bd (f_X7_deny r (5 : Int32) u) (fun w17 => gd (isB w17.1) (some (w17.1, w17.2))))))))))))
set_option maxHeartbeats 4000000 in
set_option maxRecDepth 100000 in
theorem c_X7_span (l : Launch) (D : va_G) (cy : Nat → ClassId) (sz : Nat) (H0 : Heap) (u : Mm) (r : Nat) (p1 : Int32) (p2 : Int32) (p3 : Int32) {res : (Int32) × Mm} (h : f_X7_span r p1 p2 p3 u = some res) : Ctr l yX7_span cX7_span 5 (some .boolean) rm_X7_span 0 0 D cy sz H0 u [.ref (sz + r), .int p1, .int p2, .int p3] (some (.int res.1)) res.2 := by
  refine m_start (lv := [(0, .ref (sz + r)), (1, .int p1), (2, .int p2), (3, .int p3)]) (by decide) (by first | exact Nat.le_of_ble_eq_true rfl | simp [lg_sl, rv_cat, cat_i, cat_l, cat_r, cat_n]) (by first | rfl | simp [lv_args, rv_cat, cat_i, cat_l, cat_r, cat_n]) ?_
  intro p e s m below meth c ls E hr hlk hinit hM hl
  obtain ⟨hx, hb, hml, hown, hts, hKK⟩ := id E
  obtain ⟨H, hH⟩ : ∃ H, H = s.heap := ⟨_, rfl⟩
  obtain ⟨locs, hlocs⟩ : ∃ L : List Loc, L = [] := ⟨_, rfl⟩
  rw [← hH, ← hlocs] at hM ⊢
  unfold f_X7_span at h
  refine lv_aload_n hx hb dX7_span_0 rfl (lv_at hl 0 rfl) ?_
  obtain ⟨ok1, h⟩ := k_gd h
  refine gs_X7_18 E hM ok1 dX7_span_1 (fun x2 hxx2 => ?_)
  replace h := k_bb h x2 hxx2.symm
  refine lv_iload_n hx hb dX7_span_4 rfl (lv_at hl 1 rfl) ?_
  rcases x2 with _ | k3
  · cases h
  rw [cs_s] at h
  obtain ⟨ok4, h⟩ := k_gd h
  obtain ⟨w5, hzw5, h⟩ := k_bd h
  refine m_callV (C := RX0) (T := TX0) (N := 4) (ci := 0) (n := 1) (As := [.int p1]) (rest := []) (st1 := (rv sz w5 :: [])) E hM hl.1 ok4 (by decide) rfl rfl (c_X0_at l D cy sz H0 u k3 p1 hzw5) wl_X7_107 wm_X0_at ws_X0_at wi_X0 wd_X0_at rfl rfl (by decide +kernel) ⟨by decide, by decide⟩ rfl rfl (by first | exact Nat.le_of_ble_eq_true rfl | simp [rv_cat, cat_i, cat_l, cat_r, cat_n]) dX7_span_5 ⟨by decide, by decide⟩ rfl (fun H locs hM => ?_)
  refine m_astore (i := 4) (lv' := [(4, rv sz w5), (0, .ref (sz + r)), (1, .int p1), (2, .int p2), (3, .int p3)]) hx hb dX7_span_8 hl (by decide) (by first | rfl | simp [rv_cat, cat_i, cat_l, cat_r, cat_n]) (fun ls hl => ?_)
  refine m_aload hx hb dX7_span_10 (lv_at hl 0 rfl) ?_
  rcases w5 with _ | k6
  · rw [cs_n] at h
    refine lv_ifnonnullN hx hb dX7_span_12 ?_
    refine lv_aload_n hx hb dX7_span_15 rfl (lv_at hl 1 rfl) ?_
    refine lv_iconst (v := 2) hx hb dX7_span_16 (by decide) ?_
    obtain ⟨w7, hzw7, h⟩ := k_bd h
    refine m_callV (C := RX7) (T := TX7) (N := 8) (ci := 7) (n := 1) (As := [.int (2 : Int32)]) (rest := []) (st1 := (.int w7.1 :: [])) E hM hl.1 ok1 (by decide) rfl rfl (c_X7_deny l D cy sz H0 u r (2 : Int32) hzw7) wl_X7_63 wm_X7_deny ws_X7_deny wi_X7 wd_X7_deny rfl rfl (by decide +kernel) ⟨by decide, by decide⟩ rfl rfl (by first | exact Nat.le_of_ble_eq_true rfl | simp [rv_cat, cat_i, cat_l, cat_r, cat_n]) dX7_span_17 ⟨by decide, by decide⟩ rfl (fun H locs hM => ?_)
    obtain ⟨hB8, h⟩ := k_gd h
    cases h
    exact m_zret hx hb hr hlk hM hB8 rfl rfl dX7_span_20
  · rw [cs_s] at h
    refine lv_ifnonnull (tgt := 21) hx hb dX7_span_12 (by decide) ?_
    refine lv_iload_n hx hb dX7_span_21 rfl (lv_at hl 3 rfl) ?_
    refine lv_iconst (v := 0) hx hb dX7_span_22 (by decide) ?_
    refine lv_iload_n hx hb dX7_span_23 rfl (lv_at hl 4 rfl) ?_
    obtain ⟨w9, hzw9, h⟩ := k_bd h
    refine m_callS (n := 3) (As := [.int p2, .int (0 : Int32), .int p3]) (rest := []) (st1 := (.int w9 :: [])) E hM hl.1 (c_X7_within l D cy sz H0 u p2 (0 : Int32) p3 hzw9) wl_X7_59 wst_X7_within wi_X7 wd_X7_within rfl rfl (by decide +kernel) ⟨by decide, by decide⟩ rfl rfl (by first | exact Nat.le_of_ble_eq_true rfl | simp [rv_cat, cat_i, cat_l, cat_r, cat_n]) dX7_span_24 ⟨by decide, by decide⟩ rfl (fun H locs hM => ?_)
    refine lv_if_eq (tgt := 36) hx hb dX7_span_27 (by decide) (fun c10 => ?_) (fun c10 => ?_)
    · replace h := (k_if h).1 c10
      refine lv_aload_n hx hb dX7_span_36 rfl (lv_at hl 1 rfl) ?_
      refine lv_iconst (v := 5) hx hb dX7_span_37 (by decide) ?_
      obtain ⟨w11, hzw11, h⟩ := k_bd h
      refine m_callV (C := RX7) (T := TX7) (N := 8) (ci := 7) (n := 1) (As := [.int (5 : Int32)]) (rest := []) (st1 := (.int w11.1 :: [])) E hM hl.1 ok1 (by decide) rfl rfl (c_X7_deny l D cy sz H0 u r (5 : Int32) hzw11) wl_X7_63 wm_X7_deny ws_X7_deny wi_X7 wd_X7_deny rfl rfl (by decide +kernel) ⟨by decide, by decide⟩ rfl rfl (by first | exact Nat.le_of_ble_eq_true rfl | simp [rv_cat, cat_i, cat_l, cat_r, cat_n]) dX7_span_38 ⟨by decide, by decide⟩ rfl (fun H locs hM => ?_)
      obtain ⟨hB12, h⟩ := k_gd h
      cases h
      exact m_zret hx hb hr hlk hM hB12 rfl rfl dX7_span_41
    · replace h := (k_if h).2 c10
      refine lv_iload_n hx hb dX7_span_30 rfl (lv_at hl 4 rfl) ?_
      refine lv_ldc hx hb hown (hts _ wk_X7_168) dX7_span_31 ?_
      refine lv_icmp_le (tgt := 42) hx hb dX7_span_33 (by decide) (fun c13 => ?_) (fun c13 => ?_)
      · replace h := (k_if h).1 c13
        refine lv_aload hx hb dX7_span_42 (lv_at hl 0 rfl) ?_
        refine lv_iload_n hx hb dX7_span_44 rfl (lv_at hl 3 rfl) ?_
        obtain ⟨ok14, h⟩ := k_gd h
        refine ps_X7_169 (v := p2) E hM ok14 dX7_span_45 (fun H locs hM => ?_)
        refine lv_aload hx hb dX7_span_48 (lv_at hl 0 rfl) ?_
        refine lv_iload_n hx hb dX7_span_50 rfl (lv_at hl 4 rfl) ?_
        refine ps_X7_172 (v := p3) E hM ok14 dX7_span_51 (fun H locs hM => ?_)
        refine lv_aload_n hx hb dX7_span_54 rfl (lv_at hl 1 rfl) ?_
        obtain ⟨w15, hzw15, h⟩ := k_bd h
        refine m_callV (C := RX7) (T := TX7) (N := 8) (ci := 7) (n := 0) (As := []) (rest := []) (st1 := (.int w15.1 :: [])) E hM hl.1 ok1 (by decide) rfl rfl (c_X7_grant l D cy sz H0 (sI (sI u k6 4 p2) k6 5 p3) r hzw15) wl_X7_71 wm_X7_grant ws_X7_grant wi_X7 wd_X7_grant rfl rfl (by decide +kernel) ⟨by decide, by decide⟩ rfl rfl (by first | exact Nat.le_of_ble_eq_true rfl | simp [rv_cat, cat_i, cat_l, cat_r, cat_n]) dX7_span_55 ⟨by decide, by decide⟩ rfl (fun H locs hM => ?_)
        obtain ⟨hB16, h⟩ := k_gd h
        cases h
        exact m_zret hx hb hr hlk hM hB16 rfl rfl dX7_span_58
      · replace h := (k_if h).2 c13
        refine lv_aload_n hx hb dX7_span_36 rfl (lv_at hl 1 rfl) ?_
        refine lv_iconst (v := 5) hx hb dX7_span_37 (by decide) ?_
        obtain ⟨w17, hzw17, h⟩ := k_bd h
        refine m_callV (C := RX7) (T := TX7) (N := 8) (ci := 7) (n := 1) (As := [.int (5 : Int32)]) (rest := []) (st1 := (.int w17.1 :: [])) E hM hl.1 ok1 (by decide) rfl rfl (c_X7_deny l D cy sz H0 u r (5 : Int32) hzw17) wl_X7_63 wm_X7_deny ws_X7_deny wi_X7 wd_X7_deny rfl rfl (by decide +kernel) ⟨by decide, by decide⟩ rfl rfl (by first | exact Nat.le_of_ble_eq_true rfl | simp [rv_cat, cat_i, cat_l, cat_r, cat_n]) dX7_span_38 ⟨by decide, by decide⟩ rfl (fun H locs hM => ?_)
        obtain ⟨hB18, h⟩ := k_gd h
        cases h
        exact m_zret hx hb hr hlk hM hB18 rfl rfl dX7_span_41

abbrev rm_X7_noSpan : Room := { frames := 1, cells := 0, slots := 0, locals := 36 }
def f_X7_noSpan (r : Nat) (p1 : Int32) (u : Mm) : Option ((Int32) × Mm) := gd (okO u r 7) (bb (gR u r 1) (fun x2 => cs x2 none (fun k3 => gd (okO u k3 0) (bd (f_X0_at k3 p1 u) (fun w5 => cs w5 (bd (f_X7_deny r (2 : Int32) u) (fun w7 => gd (isB w7.1) (some (w7.1, w7.2)))) (fun k6 => gd (okO u k6 5) (bd (f_X5_hasSpan k6 u) (fun w10 => (if w10 = 0 then bd (f_X7_deny r (9 : Int32) u) (fun w14 => gd (isB w14.1) (some (w14.1, w14.2))) else bd (f_X7_grant r (sI (sI u k6 4 (-1 : Int32)) k6 5 (-1 : Int32))) (fun w12 => gd (isB w12.1) (some (w12.1, w12.2))))))))))))
set_option maxHeartbeats 4000000 in
set_option maxRecDepth 100000 in
theorem c_X7_noSpan (l : Launch) (D : va_G) (cy : Nat → ClassId) (sz : Nat) (H0 : Heap) (u : Mm) (r : Nat) (p1 : Int32) {res : (Int32) × Mm} (h : f_X7_noSpan r p1 u = some res) : Ctr l yX7_noSpan cX7_noSpan 3 (some .boolean) rm_X7_noSpan 0 0 D cy sz H0 u [.ref (sz + r), .int p1] (some (.int res.1)) res.2 := by
  refine m_start (lv := [(0, .ref (sz + r)), (1, .int p1)]) (by decide) (by first | exact Nat.le_of_ble_eq_true rfl | simp [lg_sl, rv_cat, cat_i, cat_l, cat_r, cat_n]) (by first | rfl | simp [lv_args, rv_cat, cat_i, cat_l, cat_r, cat_n]) ?_
  intro p e s m below meth c ls E hr hlk hinit hM hl
  obtain ⟨hx, hb, hml, hown, hts, hKK⟩ := id E
  obtain ⟨H, hH⟩ : ∃ H, H = s.heap := ⟨_, rfl⟩
  obtain ⟨locs, hlocs⟩ : ∃ L : List Loc, L = [] := ⟨_, rfl⟩
  rw [← hH, ← hlocs] at hM ⊢
  unfold f_X7_noSpan at h
  refine lv_aload_n hx hb dX7_noSpan_0 rfl (lv_at hl 0 rfl) ?_
  obtain ⟨ok1, h⟩ := k_gd h
  refine gs_X7_18 E hM ok1 dX7_noSpan_1 (fun x2 hxx2 => ?_)
  replace h := k_bb h x2 hxx2.symm
  refine lv_iload_n hx hb dX7_noSpan_4 rfl (lv_at hl 1 rfl) ?_
  rcases x2 with _ | k3
  · cases h
  rw [cs_s] at h
  obtain ⟨ok4, h⟩ := k_gd h
  obtain ⟨w5, hzw5, h⟩ := k_bd h
  refine m_callV (C := RX0) (T := TX0) (N := 4) (ci := 0) (n := 1) (As := [.int p1]) (rest := []) (st1 := (rv sz w5 :: [])) E hM hl.1 ok4 (by decide) rfl rfl (c_X0_at l D cy sz H0 u k3 p1 hzw5) wl_X7_107 wm_X0_at ws_X0_at wi_X0 wd_X0_at rfl rfl (by decide +kernel) ⟨by decide, by decide⟩ rfl rfl (by first | exact Nat.le_of_ble_eq_true rfl | simp [rv_cat, cat_i, cat_l, cat_r, cat_n]) dX7_noSpan_5 ⟨by decide, by decide⟩ rfl (fun H locs hM => ?_)
  refine m_astore_n (i := 2) (lv' := [(2, rv sz w5), (0, .ref (sz + r)), (1, .int p1)]) hx hb dX7_noSpan_8 rfl hl (by decide) (by first | rfl | simp [rv_cat, cat_i, cat_l, cat_r, cat_n]) (fun ls hl => ?_)
  refine m_aload_n hx hb dX7_noSpan_9 rfl (lv_at hl 0 rfl) ?_
  rcases w5 with _ | k6
  · rw [cs_n] at h
    refine lv_ifnonnullN hx hb dX7_noSpan_10 ?_
    refine lv_aload_n hx hb dX7_noSpan_13 rfl (lv_at hl 1 rfl) ?_
    refine lv_iconst (v := 2) hx hb dX7_noSpan_14 (by decide) ?_
    obtain ⟨w7, hzw7, h⟩ := k_bd h
    refine m_callV (C := RX7) (T := TX7) (N := 8) (ci := 7) (n := 1) (As := [.int (2 : Int32)]) (rest := []) (st1 := (.int w7.1 :: [])) E hM hl.1 ok1 (by decide) rfl rfl (c_X7_deny l D cy sz H0 u r (2 : Int32) hzw7) wl_X7_63 wm_X7_deny ws_X7_deny wi_X7 wd_X7_deny rfl rfl (by decide +kernel) ⟨by decide, by decide⟩ rfl rfl (by first | exact Nat.le_of_ble_eq_true rfl | simp [rv_cat, cat_i, cat_l, cat_r, cat_n]) dX7_noSpan_15 ⟨by decide, by decide⟩ rfl (fun H locs hM => ?_)
    obtain ⟨hB8, h⟩ := k_gd h
    cases h
    exact m_zret hx hb hr hlk hM hB8 rfl rfl dX7_noSpan_18
  · rw [cs_s] at h
    refine lv_ifnonnull (tgt := 19) hx hb dX7_noSpan_10 (by decide) ?_
    refine lv_aload_n hx hb dX7_noSpan_19 rfl (lv_at hl 0 rfl) ?_
    obtain ⟨ok9, h⟩ := k_gd h
    obtain ⟨w10, hzw10, h⟩ := k_bd h
    refine m_callV (C := RX5) (T := TX5) (N := 11) (ci := 5) (n := 0) (As := []) (rest := []) (st1 := (.int w10 :: [])) E hM hl.1 ok9 (by decide) rfl rfl (c_X5_hasSpan l D cy sz H0 u k6 hzw10) wl_X7_175 wm_X5_hasSpan ws_X5_hasSpan wi_X5 wd_X5_hasSpan rfl rfl (by decide +kernel) ⟨by decide, by decide⟩ rfl rfl (by first | exact Nat.le_of_ble_eq_true rfl | simp [rv_cat, cat_i, cat_l, cat_r, cat_n]) dX7_noSpan_20 ⟨by decide, by decide⟩ rfl (fun H locs hM => ?_)
    refine lv_if_ne (tgt := 33) hx hb dX7_noSpan_23 (by decide) (fun c11 => ?_) (fun c11 => ?_)
    · replace h := (k_if h).2 c11
      refine lv_aload_n hx hb dX7_noSpan_33 rfl (lv_at hl 0 rfl) ?_
      refine lv_iconst (v := (-1)) hx hb dX7_noSpan_34 (by decide) ?_
      refine ps_X7_169 (v := (-1 : Int32)) E hM ok9 dX7_noSpan_35 (fun H locs hM => ?_)
      refine lv_aload_n hx hb dX7_noSpan_38 rfl (lv_at hl 0 rfl) ?_
      refine lv_iconst (v := (-1)) hx hb dX7_noSpan_39 (by decide) ?_
      refine ps_X7_172 (v := (-1 : Int32)) E hM ok9 dX7_noSpan_40 (fun H locs hM => ?_)
      refine lv_aload_n hx hb dX7_noSpan_43 rfl (lv_at hl 1 rfl) ?_
      obtain ⟨w12, hzw12, h⟩ := k_bd h
      refine m_callV (C := RX7) (T := TX7) (N := 8) (ci := 7) (n := 0) (As := []) (rest := []) (st1 := (.int w12.1 :: [])) E hM hl.1 ok1 (by decide) rfl rfl (c_X7_grant l D cy sz H0 (sI (sI u k6 4 (-1 : Int32)) k6 5 (-1 : Int32)) r hzw12) wl_X7_71 wm_X7_grant ws_X7_grant wi_X7 wd_X7_grant rfl rfl (by decide +kernel) ⟨by decide, by decide⟩ rfl rfl (by first | exact Nat.le_of_ble_eq_true rfl | simp [rv_cat, cat_i, cat_l, cat_r, cat_n]) dX7_noSpan_44 ⟨by decide, by decide⟩ rfl (fun H locs hM => ?_)
      obtain ⟨hB13, h⟩ := k_gd h
      cases h
      exact m_zret hx hb hr hlk hM hB13 rfl rfl dX7_noSpan_47
    · replace h := (k_if h).1 c11
      refine lv_aload_n hx hb dX7_noSpan_26 rfl (lv_at hl 1 rfl) ?_
      refine lv_bipush (v := 9) hx hb dX7_noSpan_27 (by decide) ?_
      obtain ⟨w14, hzw14, h⟩ := k_bd h
      refine m_callV (C := RX7) (T := TX7) (N := 8) (ci := 7) (n := 1) (As := [.int (9 : Int32)]) (rest := []) (st1 := (.int w14.1 :: [])) E hM hl.1 ok1 (by decide) rfl rfl (c_X7_deny l D cy sz H0 u r (9 : Int32) hzw14) wl_X7_63 wm_X7_deny ws_X7_deny wi_X7 wd_X7_deny rfl rfl (by decide +kernel) ⟨by decide, by decide⟩ rfl rfl (by first | exact Nat.le_of_ble_eq_true rfl | simp [rv_cat, cat_i, cat_l, cat_r, cat_n]) dX7_noSpan_29 ⟨by decide, by decide⟩ rfl (fun H locs hM => ?_)
      obtain ⟨hB15, h⟩ := k_gd h
      cases h
      exact m_zret hx hb hr hlk hM hB15 rfl rfl dX7_noSpan_32

abbrev rm_X7_held : Room := { frames := 3, cells := 0, slots := 0, locals := 108 }
def f_X7_held (r : Nat) (p1 : Int32) (p2 : Int32) (u : Mm) : Option ((Int32) × Mm) := gd (okO u r 7) (bb (gR u r 1) (fun x2 => cs x2 none (fun k3 => gd (okO u k3 0) (bd (f_X0_at k3 p1 u) (fun w5 => cs w5 (bd (f_X7_refuse r (2 : Int32) u) (fun w7 => some (w7.1, w7.2))) (fun k6 => bb (gR u r 1) (fun x8 => cs x8 none (fun k9 => gd (okO u k9 0) (bd (f_X0_heldDay k9 (some k6) p2 u) (fun w11 => (if w11 = (-1 : Int32) then bd (f_X7_refuse r (9 : Int32) u) (fun w14 => some (w14.1, w14.2)) else bd (f_X7_answer r w11 u) (fun w13 => some (w13.1, w13.2)))))))))))))
set_option maxHeartbeats 4000000 in
set_option maxRecDepth 100000 in
theorem c_X7_held (l : Launch) (D : va_G) (cy : Nat → ClassId) (sz : Nat) (H0 : Heap) (u : Mm) (r : Nat) (p1 : Int32) (p2 : Int32) {res : (Int32) × Mm} (h : f_X7_held r p1 p2 u = some res) : Ctr l yX7_held cX7_held 5 (some .int) rm_X7_held 0 0 D cy sz H0 u [.ref (sz + r), .int p1, .int p2] (some (.int res.1)) res.2 := by
  refine m_start (lv := [(0, .ref (sz + r)), (1, .int p1), (2, .int p2)]) (by decide) (by first | exact Nat.le_of_ble_eq_true rfl | simp [lg_sl, rv_cat, cat_i, cat_l, cat_r, cat_n]) (by first | rfl | simp [lv_args, rv_cat, cat_i, cat_l, cat_r, cat_n]) ?_
  intro p e s m below meth c ls E hr hlk hinit hM hl
  obtain ⟨hx, hb, hml, hown, hts, hKK⟩ := id E
  obtain ⟨H, hH⟩ : ∃ H, H = s.heap := ⟨_, rfl⟩
  obtain ⟨locs, hlocs⟩ : ∃ L : List Loc, L = [] := ⟨_, rfl⟩
  rw [← hH, ← hlocs] at hM ⊢
  unfold f_X7_held at h
  refine lv_aload_n hx hb dX7_held_0 rfl (lv_at hl 0 rfl) ?_
  obtain ⟨ok1, h⟩ := k_gd h
  refine gs_X7_18 E hM ok1 dX7_held_1 (fun x2 hxx2 => ?_)
  replace h := k_bb h x2 hxx2.symm
  refine lv_iload_n hx hb dX7_held_4 rfl (lv_at hl 1 rfl) ?_
  rcases x2 with _ | k3
  · cases h
  rw [cs_s] at h
  obtain ⟨ok4, h⟩ := k_gd h
  obtain ⟨w5, hzw5, h⟩ := k_bd h
  refine m_callV (C := RX0) (T := TX0) (N := 4) (ci := 0) (n := 1) (As := [.int p1]) (rest := []) (st1 := (rv sz w5 :: [])) E hM hl.1 ok4 (by decide) rfl rfl (c_X0_at l D cy sz H0 u k3 p1 hzw5) wl_X7_107 wm_X0_at ws_X0_at wi_X0 wd_X0_at rfl rfl (by decide +kernel) ⟨by decide, by decide⟩ rfl rfl (by first | exact Nat.le_of_ble_eq_true rfl | simp [rv_cat, cat_i, cat_l, cat_r, cat_n]) dX7_held_5 ⟨by decide, by decide⟩ rfl (fun H locs hM => ?_)
  refine m_astore_n (i := 3) (lv' := [(3, rv sz w5), (0, .ref (sz + r)), (1, .int p1), (2, .int p2)]) hx hb dX7_held_8 rfl hl (by decide) (by first | rfl | simp [rv_cat, cat_i, cat_l, cat_r, cat_n]) (fun ls hl => ?_)
  refine m_aload_n hx hb dX7_held_9 rfl (lv_at hl 0 rfl) ?_
  rcases w5 with _ | k6
  · rw [cs_n] at h
    refine lv_ifnonnullN hx hb dX7_held_10 ?_
    refine lv_aload_n hx hb dX7_held_13 rfl (lv_at hl 1 rfl) ?_
    refine lv_iconst (v := 2) hx hb dX7_held_14 (by decide) ?_
    obtain ⟨w7, hzw7, h⟩ := k_bd h
    refine m_callV (C := RX7) (T := TX7) (N := 8) (ci := 7) (n := 1) (As := [.int (2 : Int32)]) (rest := []) (st1 := (.int w7.1 :: [])) E hM hl.1 ok1 (by decide) rfl rfl (c_X7_refuse l D cy sz H0 u r (2 : Int32) hzw7) wl_X7_83 wm_X7_refuse ws_X7_refuse wi_X7 wd_X7_refuse rfl rfl (by decide +kernel) ⟨by decide, by decide⟩ rfl rfl (by first | exact Nat.le_of_ble_eq_true rfl | simp [rv_cat, cat_i, cat_l, cat_r, cat_n]) dX7_held_15 ⟨by decide, by decide⟩ rfl (fun H locs hM => ?_)
    cases h
    exact m_iret hx hb hr hlk hM rfl rfl dX7_held_18
  · rw [cs_s] at h
    refine lv_ifnonnull (tgt := 19) hx hb dX7_held_10 (by decide) ?_
    refine lv_aload_n hx hb dX7_held_19 rfl (lv_at hl 1 rfl) ?_
    refine gs_X7_18 E hM ok1 dX7_held_20 (fun x8 hxx8 => ?_)
    replace h := k_bb h x8 hxx8.symm
    refine lv_aload_n hx hb dX7_held_23 rfl (lv_at hl 0 rfl) ?_
    refine lv_iload_n hx hb dX7_held_24 rfl (lv_at hl 3 rfl) ?_
    rcases x8 with _ | k9
    · cases h
    rw [cs_s] at h
    obtain ⟨ok10, h⟩ := k_gd h
    obtain ⟨w11, hzw11, h⟩ := k_bd h
    refine m_callV (C := RX0) (T := TX0) (N := 4) (ci := 0) (n := 2) (As := [.ref (sz + k6), .int p2]) (rest := []) (st1 := (.int w11 :: [])) E hM hl.1 ok10 (by decide) rfl rfl (c_X0_heldDay l D cy sz H0 u k9 (some k6) p2 hzw11) wl_X7_178 wm_X0_heldDay ws_X0_heldDay wi_X0 wd_X0_heldDay rfl rfl (by decide +kernel) ⟨by decide, by decide⟩ rfl rfl (by first | exact Nat.le_of_ble_eq_true rfl | simp [rv_cat, cat_i, cat_l, cat_r, cat_n]) dX7_held_25 ⟨by decide, by decide⟩ rfl (fun H locs hM => ?_)
    refine lv_istore (i := 4) (lv' := [(4, .int w11), (3, .ref (sz + k6)), (0, .ref (sz + r)), (1, .int p1), (2, .int p2)]) hx hb dX7_held_28 hl (by decide) (by first | rfl | simp [rv_cat, cat_i, cat_l, cat_r, cat_n]) (fun ls hl => ?_)
    refine lv_iload hx hb dX7_held_30 (lv_at hl 0 rfl) ?_
    refine lv_iconst (v := (-1)) hx hb dX7_held_32 (by decide) ?_
    refine lv_icmp_ne (tgt := 45) hx hb dX7_held_33 (by decide) (fun c12 => ?_) (fun c12 => ?_)
    · replace h := (k_if h).2 c12
      refine lv_aload_n hx hb dX7_held_45 rfl (lv_at hl 2 rfl) ?_
      refine lv_iload hx hb dX7_held_46 (lv_at hl 0 rfl) ?_
      obtain ⟨w13, hzw13, h⟩ := k_bd h
      refine m_callV (C := RX7) (T := TX7) (N := 8) (ci := 7) (n := 1) (As := [.int w11]) (rest := []) (st1 := (.int w13.1 :: [])) E hM hl.1 ok1 (by decide) rfl rfl (c_X7_answer l D cy sz H0 u r w11 hzw13) wl_X7_126 wm_X7_answer ws_X7_answer wi_X7 wd_X7_answer rfl rfl (by decide +kernel) ⟨by decide, by decide⟩ rfl rfl (by first | exact Nat.le_of_ble_eq_true rfl | simp [rv_cat, cat_i, cat_l, cat_r, cat_n]) dX7_held_48 ⟨by decide, by decide⟩ rfl (fun H locs hM => ?_)
      cases h
      exact m_iret hx hb hr hlk hM rfl rfl dX7_held_51
    · replace h := (k_if h).1 c12
      refine lv_aload_n hx hb dX7_held_36 rfl (lv_at hl 2 rfl) ?_
      refine lv_bipush (v := 9) hx hb dX7_held_37 (by decide) ?_
      obtain ⟨w14, hzw14, h⟩ := k_bd h
      refine m_callV (C := RX7) (T := TX7) (N := 8) (ci := 7) (n := 1) (As := [.int (9 : Int32)]) (rest := []) (st1 := (.int w14.1 :: [])) E hM hl.1 ok1 (by decide) rfl rfl (c_X7_refuse l D cy sz H0 u r (9 : Int32) hzw14) wl_X7_83 wm_X7_refuse ws_X7_refuse wi_X7 wd_X7_refuse rfl rfl (by decide +kernel) ⟨by decide, by decide⟩ rfl rfl (by first | exact Nat.le_of_ble_eq_true rfl | simp [rv_cat, cat_i, cat_l, cat_r, cat_n]) dX7_held_39 ⟨by decide, by decide⟩ rfl (fun H locs hM => ?_)
      refine lv_goto (tgt := 51) hx hb dX7_held_42 (by decide) ?_
      cases h
      exact m_iret hx hb hr hlk hM rfl rfl dX7_held_51

abbrev rm_X7_quarrel : Room := { frames := 3, cells := 0, slots := 0, locals := 108 }
def f_X7_quarrel (r : Nat) (p1 : Int32) (u : Mm) : Option ((Int32) × Mm) := (if 0 ≤ p1 then gd (okO u r 7) (bb (gR u r 1) (fun x3 => cs x3 none (fun k4 => gd (okO u k4 0) (bd (f_X0_quarrelling k4 p1 u) (fun w6 => (if w6 = (-1 : Int32) then bd (f_X7_refuse r (9 : Int32) u) (fun w9 => some (w9.1, w9.2)) else bd (f_X7_answer r w6 u) (fun w8 => some (w8.1, w8.2)))))))) else gd (okO u r 7) (bd (f_X7_refuse r (5 : Int32) u) (fun w11 => some (w11.1, w11.2))))
set_option maxHeartbeats 4000000 in
set_option maxRecDepth 100000 in
theorem c_X7_quarrel (l : Launch) (D : va_G) (cy : Nat → ClassId) (sz : Nat) (H0 : Heap) (u : Mm) (r : Nat) (p1 : Int32) {res : (Int32) × Mm} (h : f_X7_quarrel r p1 u = some res) : Ctr l yX7_quarrel cX7_quarrel 3 (some .int) rm_X7_quarrel 0 0 D cy sz H0 u [.ref (sz + r), .int p1] (some (.int res.1)) res.2 := by
  refine m_start (lv := [(0, .ref (sz + r)), (1, .int p1)]) (by decide) (by first | exact Nat.le_of_ble_eq_true rfl | simp [lg_sl, rv_cat, cat_i, cat_l, cat_r, cat_n]) (by first | rfl | simp [lv_args, rv_cat, cat_i, cat_l, cat_r, cat_n]) ?_
  intro p e s m below meth c ls E hr hlk hinit hM hl
  obtain ⟨hx, hb, hml, hown, hts, hKK⟩ := id E
  obtain ⟨H, hH⟩ : ∃ H, H = s.heap := ⟨_, rfl⟩
  obtain ⟨locs, hlocs⟩ : ∃ L : List Loc, L = [] := ⟨_, rfl⟩
  rw [← hH, ← hlocs] at hM ⊢
  unfold f_X7_quarrel at h
  refine lv_iload_n hx hb dX7_quarrel_0 rfl (lv_at hl 1 rfl) ?_
  refine lv_if_ge (tgt := 10) hx hb dX7_quarrel_1 (by decide) (fun c1 => ?_) (fun c1 => ?_)
  · replace h := (k_if h).1 c1
    refine lv_aload_n hx hb dX7_quarrel_10 rfl (lv_at hl 0 rfl) ?_
    obtain ⟨ok2, h⟩ := k_gd h
    refine gs_X7_18 E hM ok2 dX7_quarrel_11 (fun x3 hxx3 => ?_)
    replace h := k_bb h x3 hxx3.symm
    refine lv_iload_n hx hb dX7_quarrel_14 rfl (lv_at hl 1 rfl) ?_
    rcases x3 with _ | k4
    · cases h
    rw [cs_s] at h
    obtain ⟨ok5, h⟩ := k_gd h
    obtain ⟨w6, hzw6, h⟩ := k_bd h
    refine m_callV (C := RX0) (T := TX0) (N := 4) (ci := 0) (n := 1) (As := [.int p1]) (rest := []) (st1 := (.int w6 :: [])) E hM hl.1 ok5 (by decide) rfl rfl (c_X0_quarrelling l D cy sz H0 u k4 p1 hzw6) wl_X7_182 wm_X0_quarrelling ws_X0_quarrelling wi_X0 wd_X0_quarrelling rfl rfl (by decide +kernel) ⟨by decide, by decide⟩ rfl rfl (by first | exact Nat.le_of_ble_eq_true rfl | simp [rv_cat, cat_i, cat_l, cat_r, cat_n]) dX7_quarrel_15 ⟨by decide, by decide⟩ rfl (fun H locs hM => ?_)
    refine lv_istore_n (i := 2) (lv' := [(2, .int w6), (0, .ref (sz + r)), (1, .int p1)]) hx hb dX7_quarrel_18 rfl hl (by decide) (by first | rfl | simp [rv_cat, cat_i, cat_l, cat_r, cat_n]) (fun ls hl => ?_)
    refine lv_iload_n hx hb dX7_quarrel_19 rfl (lv_at hl 0 rfl) ?_
    refine lv_iconst (v := (-1)) hx hb dX7_quarrel_20 (by decide) ?_
    refine lv_icmp_ne (tgt := 33) hx hb dX7_quarrel_21 (by decide) (fun c7 => ?_) (fun c7 => ?_)
    · replace h := (k_if h).2 c7
      refine lv_aload_n hx hb dX7_quarrel_33 rfl (lv_at hl 1 rfl) ?_
      refine lv_iload_n hx hb dX7_quarrel_34 rfl (lv_at hl 0 rfl) ?_
      obtain ⟨w8, hzw8, h⟩ := k_bd h
      refine m_callV (C := RX7) (T := TX7) (N := 8) (ci := 7) (n := 1) (As := [.int w6]) (rest := []) (st1 := (.int w8.1 :: [])) E hM hl.1 ok2 (by decide) rfl rfl (c_X7_answer l D cy sz H0 u r w6 hzw8) wl_X7_126 wm_X7_answer ws_X7_answer wi_X7 wd_X7_answer rfl rfl (by decide +kernel) ⟨by decide, by decide⟩ rfl rfl (by first | exact Nat.le_of_ble_eq_true rfl | simp [rv_cat, cat_i, cat_l, cat_r, cat_n]) dX7_quarrel_35 ⟨by decide, by decide⟩ rfl (fun H locs hM => ?_)
      cases h
      exact m_iret hx hb hr hlk hM rfl rfl dX7_quarrel_38
    · replace h := (k_if h).1 c7
      refine lv_aload_n hx hb dX7_quarrel_24 rfl (lv_at hl 1 rfl) ?_
      refine lv_bipush (v := 9) hx hb dX7_quarrel_25 (by decide) ?_
      obtain ⟨w9, hzw9, h⟩ := k_bd h
      refine m_callV (C := RX7) (T := TX7) (N := 8) (ci := 7) (n := 1) (As := [.int (9 : Int32)]) (rest := []) (st1 := (.int w9.1 :: [])) E hM hl.1 ok2 (by decide) rfl rfl (c_X7_refuse l D cy sz H0 u r (9 : Int32) hzw9) wl_X7_83 wm_X7_refuse ws_X7_refuse wi_X7 wd_X7_refuse rfl rfl (by decide +kernel) ⟨by decide, by decide⟩ rfl rfl (by first | exact Nat.le_of_ble_eq_true rfl | simp [rv_cat, cat_i, cat_l, cat_r, cat_n]) dX7_quarrel_27 ⟨by decide, by decide⟩ rfl (fun H locs hM => ?_)
      refine lv_goto (tgt := 38) hx hb dX7_quarrel_30 (by decide) ?_
      cases h
      exact m_iret hx hb hr hlk hM rfl rfl dX7_quarrel_38
  · replace h := (k_if h).2 c1
    refine lv_aload_n hx hb dX7_quarrel_4 rfl (lv_at hl 0 rfl) ?_
    refine lv_iconst (v := 5) hx hb dX7_quarrel_5 (by decide) ?_
    obtain ⟨ok10, h⟩ := k_gd h
    obtain ⟨w11, hzw11, h⟩ := k_bd h
    refine m_callV (C := RX7) (T := TX7) (N := 8) (ci := 7) (n := 1) (As := [.int (5 : Int32)]) (rest := []) (st1 := (.int w11.1 :: [])) E hM hl.1 ok10 (by decide) rfl rfl (c_X7_refuse l D cy sz H0 u r (5 : Int32) hzw11) wl_X7_83 wm_X7_refuse ws_X7_refuse wi_X7 wd_X7_refuse rfl rfl (by decide +kernel) ⟨by decide, by decide⟩ rfl rfl (by first | exact Nat.le_of_ble_eq_true rfl | simp [rv_cat, cat_i, cat_l, cat_r, cat_n]) dX7_quarrel_6 ⟨by decide, by decide⟩ rfl (fun H locs hM => ?_)
    cases h
    exact m_iret hx hb hr hlk hM rfl rfl dX7_quarrel_9

abbrev rm_X7_count : Room := { frames := 1, cells := 0, slots := 0, locals := 36 }
def f_X7_count (r : Nat) (p1 : Int32) (p2 : Int32) (u : Mm) : Option ((Int32) × Mm) := gd (okO u r 7) (bb (gR u r 1) (fun x2 => cs x2 none (fun k3 => gd (okO u k3 0) (bd (f_X0_at k3 p1 u) (fun w5 => cs w5 (bd (f_X7_deny r (2 : Int32) u) (fun w7 => gd (isB w7.1) (some (w7.1, w7.2)))) (fun k6 => bd (f_X7_within p2 (-1 : Int32) (999 : Int32) u) (fun w9 => (if w9 = 0 then bd (f_X7_deny r (5 : Int32) u) (fun w17 => gd (isB w17.1) (some (w17.1, w17.2))) else gd (okO u k6 5) ((if (gI u k6 1) = (2 : Int32) then bd (f_X7_grant r (sI u k6 6 p2)) (fun w13 => gd (isB w13.1) (some (w13.1, w13.2))) else bd (f_X7_deny r (8 : Int32) u) (fun w15 => gd (isB w15.1) (some (w15.1, w15.2)))))))))))))
set_option maxHeartbeats 4000000 in
set_option maxRecDepth 100000 in
theorem c_X7_count (l : Launch) (D : va_G) (cy : Nat → ClassId) (sz : Nat) (H0 : Heap) (u : Mm) (r : Nat) (p1 : Int32) (p2 : Int32) {res : (Int32) × Mm} (h : f_X7_count r p1 p2 u = some res) : Ctr l yX7_count cX7_count 4 (some .boolean) rm_X7_count 0 0 D cy sz H0 u [.ref (sz + r), .int p1, .int p2] (some (.int res.1)) res.2 := by
  refine m_start (lv := [(0, .ref (sz + r)), (1, .int p1), (2, .int p2)]) (by decide) (by first | exact Nat.le_of_ble_eq_true rfl | simp [lg_sl, rv_cat, cat_i, cat_l, cat_r, cat_n]) (by first | rfl | simp [lv_args, rv_cat, cat_i, cat_l, cat_r, cat_n]) ?_
  intro p e s m below meth c ls E hr hlk hinit hM hl
  obtain ⟨hx, hb, hml, hown, hts, hKK⟩ := id E
  obtain ⟨H, hH⟩ : ∃ H, H = s.heap := ⟨_, rfl⟩
  obtain ⟨locs, hlocs⟩ : ∃ L : List Loc, L = [] := ⟨_, rfl⟩
  rw [← hH, ← hlocs] at hM ⊢
  unfold f_X7_count at h
  refine lv_aload_n hx hb dX7_count_0 rfl (lv_at hl 0 rfl) ?_
  obtain ⟨ok1, h⟩ := k_gd h
  refine gs_X7_18 E hM ok1 dX7_count_1 (fun x2 hxx2 => ?_)
  replace h := k_bb h x2 hxx2.symm
  refine lv_iload_n hx hb dX7_count_4 rfl (lv_at hl 1 rfl) ?_
  rcases x2 with _ | k3
  · cases h
  rw [cs_s] at h
  obtain ⟨ok4, h⟩ := k_gd h
  obtain ⟨w5, hzw5, h⟩ := k_bd h
  refine m_callV (C := RX0) (T := TX0) (N := 4) (ci := 0) (n := 1) (As := [.int p1]) (rest := []) (st1 := (rv sz w5 :: [])) E hM hl.1 ok4 (by decide) rfl rfl (c_X0_at l D cy sz H0 u k3 p1 hzw5) wl_X7_107 wm_X0_at ws_X0_at wi_X0 wd_X0_at rfl rfl (by decide +kernel) ⟨by decide, by decide⟩ rfl rfl (by first | exact Nat.le_of_ble_eq_true rfl | simp [rv_cat, cat_i, cat_l, cat_r, cat_n]) dX7_count_5 ⟨by decide, by decide⟩ rfl (fun H locs hM => ?_)
  refine m_astore_n (i := 3) (lv' := [(3, rv sz w5), (0, .ref (sz + r)), (1, .int p1), (2, .int p2)]) hx hb dX7_count_8 rfl hl (by decide) (by first | rfl | simp [rv_cat, cat_i, cat_l, cat_r, cat_n]) (fun ls hl => ?_)
  refine m_aload_n hx hb dX7_count_9 rfl (lv_at hl 0 rfl) ?_
  rcases w5 with _ | k6
  · rw [cs_n] at h
    refine lv_ifnonnullN hx hb dX7_count_10 ?_
    refine lv_aload_n hx hb dX7_count_13 rfl (lv_at hl 1 rfl) ?_
    refine lv_iconst (v := 2) hx hb dX7_count_14 (by decide) ?_
    obtain ⟨w7, hzw7, h⟩ := k_bd h
    refine m_callV (C := RX7) (T := TX7) (N := 8) (ci := 7) (n := 1) (As := [.int (2 : Int32)]) (rest := []) (st1 := (.int w7.1 :: [])) E hM hl.1 ok1 (by decide) rfl rfl (c_X7_deny l D cy sz H0 u r (2 : Int32) hzw7) wl_X7_63 wm_X7_deny ws_X7_deny wi_X7 wd_X7_deny rfl rfl (by decide +kernel) ⟨by decide, by decide⟩ rfl rfl (by first | exact Nat.le_of_ble_eq_true rfl | simp [rv_cat, cat_i, cat_l, cat_r, cat_n]) dX7_count_15 ⟨by decide, by decide⟩ rfl (fun H locs hM => ?_)
    obtain ⟨hB8, h⟩ := k_gd h
    cases h
    exact m_zret hx hb hr hlk hM hB8 rfl rfl dX7_count_18
  · rw [cs_s] at h
    refine lv_ifnonnull (tgt := 19) hx hb dX7_count_10 (by decide) ?_
    refine lv_iload_n hx hb dX7_count_19 rfl (lv_at hl 3 rfl) ?_
    refine lv_iconst (v := (-1)) hx hb dX7_count_20 (by decide) ?_
    refine lv_sipush (v := 999) hx hb dX7_count_21 (by decide) ?_
    obtain ⟨w9, hzw9, h⟩ := k_bd h
    refine m_callS (n := 3) (As := [.int p2, .int (-1 : Int32), .int (999 : Int32)]) (rest := []) (st1 := (.int w9 :: [])) E hM hl.1 (c_X7_within l D cy sz H0 u p2 (-1 : Int32) (999 : Int32) hzw9) wl_X7_59 wst_X7_within wi_X7 wd_X7_within rfl rfl (by decide +kernel) ⟨by decide, by decide⟩ rfl rfl (by first | exact Nat.le_of_ble_eq_true rfl | simp [rv_cat, cat_i, cat_l, cat_r, cat_n]) dX7_count_24 ⟨by decide, by decide⟩ rfl (fun H locs hM => ?_)
    refine lv_if_ne (tgt := 36) hx hb dX7_count_27 (by decide) (fun c10 => ?_) (fun c10 => ?_)
    · replace h := (k_if h).2 c10
      refine lv_aload_n hx hb dX7_count_36 rfl (lv_at hl 0 rfl) ?_
      obtain ⟨ok11, h⟩ := k_gd h
      refine gs_X7_111 E hM ok11 dX7_count_37 ?_
      refine lv_iconst (v := 2) hx hb dX7_count_40 (by decide) ?_
      refine lv_icmp_eq (tgt := 51) hx hb dX7_count_41 (by decide) (fun c12 => ?_) (fun c12 => ?_)
      · replace h := (k_if h).1 c12
        refine lv_aload_n hx hb dX7_count_51 rfl (lv_at hl 0 rfl) ?_
        refine lv_iload_n hx hb dX7_count_52 rfl (lv_at hl 3 rfl) ?_
        refine ps_X7_140 (v := p2) E hM ok11 dX7_count_53 (fun H locs hM => ?_)
        refine lv_aload_n hx hb dX7_count_56 rfl (lv_at hl 1 rfl) ?_
        obtain ⟨w13, hzw13, h⟩ := k_bd h
        refine m_callV (C := RX7) (T := TX7) (N := 8) (ci := 7) (n := 0) (As := []) (rest := []) (st1 := (.int w13.1 :: [])) E hM hl.1 ok1 (by decide) rfl rfl (c_X7_grant l D cy sz H0 (sI u k6 6 p2) r hzw13) wl_X7_71 wm_X7_grant ws_X7_grant wi_X7 wd_X7_grant rfl rfl (by decide +kernel) ⟨by decide, by decide⟩ rfl rfl (by first | exact Nat.le_of_ble_eq_true rfl | simp [rv_cat, cat_i, cat_l, cat_r, cat_n]) dX7_count_57 ⟨by decide, by decide⟩ rfl (fun H locs hM => ?_)
        obtain ⟨hB14, h⟩ := k_gd h
        cases h
        exact m_zret hx hb hr hlk hM hB14 rfl rfl dX7_count_60
      · replace h := (k_if h).2 c12
        refine lv_aload_n hx hb dX7_count_44 rfl (lv_at hl 1 rfl) ?_
        refine lv_bipush (v := 8) hx hb dX7_count_45 (by decide) ?_
        obtain ⟨w15, hzw15, h⟩ := k_bd h
        refine m_callV (C := RX7) (T := TX7) (N := 8) (ci := 7) (n := 1) (As := [.int (8 : Int32)]) (rest := []) (st1 := (.int w15.1 :: [])) E hM hl.1 ok1 (by decide) rfl rfl (c_X7_deny l D cy sz H0 u r (8 : Int32) hzw15) wl_X7_63 wm_X7_deny ws_X7_deny wi_X7 wd_X7_deny rfl rfl (by decide +kernel) ⟨by decide, by decide⟩ rfl rfl (by first | exact Nat.le_of_ble_eq_true rfl | simp [rv_cat, cat_i, cat_l, cat_r, cat_n]) dX7_count_47 ⟨by decide, by decide⟩ rfl (fun H locs hM => ?_)
        obtain ⟨hB16, h⟩ := k_gd h
        cases h
        exact m_zret hx hb hr hlk hM hB16 rfl rfl dX7_count_50
    · replace h := (k_if h).1 c10
      refine lv_aload_n hx hb dX7_count_30 rfl (lv_at hl 1 rfl) ?_
      refine lv_iconst (v := 5) hx hb dX7_count_31 (by decide) ?_
      obtain ⟨w17, hzw17, h⟩ := k_bd h
      refine m_callV (C := RX7) (T := TX7) (N := 8) (ci := 7) (n := 1) (As := [.int (5 : Int32)]) (rest := []) (st1 := (.int w17.1 :: [])) E hM hl.1 ok1 (by decide) rfl rfl (c_X7_deny l D cy sz H0 u r (5 : Int32) hzw17) wl_X7_63 wm_X7_deny ws_X7_deny wi_X7 wd_X7_deny rfl rfl (by decide +kernel) ⟨by decide, by decide⟩ rfl rfl (by first | exact Nat.le_of_ble_eq_true rfl | simp [rv_cat, cat_i, cat_l, cat_r, cat_n]) dX7_count_32 ⟨by decide, by decide⟩ rfl (fun H locs hM => ?_)
      obtain ⟨hB18, h⟩ := k_gd h
      cases h
      exact m_zret hx hb hr hlk hM hB18 rfl rfl dX7_count_35

abbrev rm_X7_join : Room := { frames := 1, cells := 0, slots := 0, locals := 36 }
def f_X7_join (r : Nat) (p1 : Int32) (p2 : Int32) (u : Mm) : Option ((Int32) × Mm) := gd (okO u r 7) (bb (gR u r 1) (fun x2 => cs x2 none (fun k3 => gd (okO u k3 0) (bd (f_X0_at k3 p1 u) (fun w5 => bb (gR u r 1) (fun x6 => cs x6 none (fun k7 => gd (okO u k7 0) (bd (f_X0_at k7 p2 u) (fun w9 => cs w5 (bd (f_X7_deny r (2 : Int32) u) (fun w11 => gd (isB w11.1) (some (w11.1, w11.2)))) (fun k10 => cs w9 (bd (f_X7_deny r (2 : Int32) u) (fun w14 => gd (isB w14.1) (some (w14.1, w14.2)))) (fun k13 => (if p1 = p2 then bd (f_X7_deny r (5 : Int32) u) (fun w35 => gd (isB w35.1) (some (w35.1, w35.2))) else gd (okO u k10 5) ((if (gI u k10 1) = (3 : Int32) then gd (okO u k13 5) ((if (gI u k13 1) = (3 : Int32) then (if (gI u k10 10) = (gI u k13 10) then bd (f_X7_deny r (10 : Int32) u) (fun w31 => gd (isB w31.1) (some (w31.1, w31.2))) else bb (gR u r 1) (fun x24 => cs x24 none (fun k25 => gd (okO u k25 0) (bd (f_X0_unite k25 (gI u k10 10) (gI u k13 10) u) (fun w27 => gd (okO w27 r 7) (bd (f_X7_grant r w27) (fun w29 => gd (isB w29.1) (some (w29.1, w29.2))))))))) else bd (f_X7_deny r (8 : Int32) u) (fun w33 => gd (isB w33.1) (some (w33.1, w33.2))))) else bd (f_X7_deny r (8 : Int32) u) (fun w19 => gd (isB w19.1) (some (w19.1, w19.2)))))))))))))))))
set_option maxHeartbeats 4000000 in
set_option maxRecDepth 100000 in
theorem c_X7_join (l : Launch) (D : va_G) (cy : Nat → ClassId) (sz : Nat) (H0 : Heap) (u : Mm) (r : Nat) (p1 : Int32) (p2 : Int32) {res : (Int32) × Mm} (h : f_X7_join r p1 p2 u = some res) : Ctr l yX7_join cX7_join 5 (some .boolean) rm_X7_join 0 0 D cy sz H0 u [.ref (sz + r), .int p1, .int p2] (some (.int res.1)) res.2 := by
  refine m_start (lv := [(0, .ref (sz + r)), (1, .int p1), (2, .int p2)]) (by decide) (by first | exact Nat.le_of_ble_eq_true rfl | simp [lg_sl, rv_cat, cat_i, cat_l, cat_r, cat_n]) (by first | rfl | simp [lv_args, rv_cat, cat_i, cat_l, cat_r, cat_n]) ?_
  intro p e s m below meth c ls E hr hlk hinit hM hl
  obtain ⟨hx, hb, hml, hown, hts, hKK⟩ := id E
  obtain ⟨H, hH⟩ : ∃ H, H = s.heap := ⟨_, rfl⟩
  obtain ⟨locs, hlocs⟩ : ∃ L : List Loc, L = [] := ⟨_, rfl⟩
  rw [← hH, ← hlocs] at hM ⊢
  unfold f_X7_join at h
  refine lv_aload_n hx hb dX7_join_0 rfl (lv_at hl 0 rfl) ?_
  obtain ⟨ok1, h⟩ := k_gd h
  refine gs_X7_18 E hM ok1 dX7_join_1 (fun x2 hxx2 => ?_)
  replace h := k_bb h x2 hxx2.symm
  refine lv_iload_n hx hb dX7_join_4 rfl (lv_at hl 1 rfl) ?_
  rcases x2 with _ | k3
  · cases h
  rw [cs_s] at h
  obtain ⟨ok4, h⟩ := k_gd h
  obtain ⟨w5, hzw5, h⟩ := k_bd h
  refine m_callV (C := RX0) (T := TX0) (N := 4) (ci := 0) (n := 1) (As := [.int p1]) (rest := []) (st1 := (rv sz w5 :: [])) E hM hl.1 ok4 (by decide) rfl rfl (c_X0_at l D cy sz H0 u k3 p1 hzw5) wl_X7_107 wm_X0_at ws_X0_at wi_X0 wd_X0_at rfl rfl (by decide +kernel) ⟨by decide, by decide⟩ rfl rfl (by first | exact Nat.le_of_ble_eq_true rfl | simp [rv_cat, cat_i, cat_l, cat_r, cat_n]) dX7_join_5 ⟨by decide, by decide⟩ rfl (fun H locs hM => ?_)
  refine m_astore_n (i := 3) (lv' := [(3, rv sz w5), (0, .ref (sz + r)), (1, .int p1), (2, .int p2)]) hx hb dX7_join_8 rfl hl (by decide) (by first | rfl | simp [rv_cat, cat_i, cat_l, cat_r, cat_n]) (fun ls hl => ?_)
  refine lv_aload_n hx hb dX7_join_9 rfl (lv_at hl 1 rfl) ?_
  refine gs_X7_18 E hM ok1 dX7_join_10 (fun x6 hxx6 => ?_)
  replace h := k_bb h x6 hxx6.symm
  refine lv_iload_n hx hb dX7_join_13 rfl (lv_at hl 3 rfl) ?_
  rcases x6 with _ | k7
  · cases h
  rw [cs_s] at h
  obtain ⟨ok8, h⟩ := k_gd h
  obtain ⟨w9, hzw9, h⟩ := k_bd h
  refine m_callV (C := RX0) (T := TX0) (N := 4) (ci := 0) (n := 1) (As := [.int p2]) (rest := []) (st1 := (rv sz w9 :: [])) E hM hl.1 ok8 (by decide) rfl rfl (c_X0_at l D cy sz H0 u k7 p2 hzw9) wl_X7_107 wm_X0_at ws_X0_at wi_X0 wd_X0_at rfl rfl (by decide +kernel) ⟨by decide, by decide⟩ rfl rfl (by first | exact Nat.le_of_ble_eq_true rfl | simp [rv_cat, cat_i, cat_l, cat_r, cat_n]) dX7_join_14 ⟨by decide, by decide⟩ rfl (fun H locs hM => ?_)
  refine m_astore (i := 4) (lv' := [(4, rv sz w9), (3, rv sz w5), (0, .ref (sz + r)), (1, .int p1), (2, .int p2)]) hx hb dX7_join_17 hl (by decide) (by first | rfl | simp [rv_cat, cat_i, cat_l, cat_r, cat_n]) (fun ls hl => ?_)
  refine m_aload_n hx hb dX7_join_19 rfl (lv_at hl 1 rfl) ?_
  rcases w5 with _ | k10
  · rw [cs_n] at h
    refine lv_ifnullN (tgt := 28) hx hb dX7_join_20 (by decide) ?_
    refine lv_aload_n hx hb dX7_join_28 rfl (lv_at hl 2 rfl) ?_
    refine lv_iconst (v := 2) hx hb dX7_join_29 (by decide) ?_
    obtain ⟨w11, hzw11, h⟩ := k_bd h
    refine m_callV (C := RX7) (T := TX7) (N := 8) (ci := 7) (n := 1) (As := [.int (2 : Int32)]) (rest := []) (st1 := (.int w11.1 :: [])) E hM hl.1 ok1 (by decide) rfl rfl (c_X7_deny l D cy sz H0 u r (2 : Int32) hzw11) wl_X7_63 wm_X7_deny ws_X7_deny wi_X7 wd_X7_deny rfl rfl (by decide +kernel) ⟨by decide, by decide⟩ rfl rfl (by first | exact Nat.le_of_ble_eq_true rfl | simp [rv_cat, cat_i, cat_l, cat_r, cat_n]) dX7_join_30 ⟨by decide, by decide⟩ rfl (fun H locs hM => ?_)
    obtain ⟨hB12, h⟩ := k_gd h
    cases h
    exact m_zret hx hb hr hlk hM hB12 rfl rfl dX7_join_33
  · rw [cs_s] at h
    refine lv_ifnull hx hb dX7_join_20 ?_
    refine m_aload hx hb dX7_join_23 (lv_at hl 0 rfl) ?_
    rcases w9 with _ | k13
    · rw [cs_n] at h
      refine lv_ifnonnullN hx hb dX7_join_25 ?_
      refine lv_aload_n hx hb dX7_join_28 rfl (lv_at hl 2 rfl) ?_
      refine lv_iconst (v := 2) hx hb dX7_join_29 (by decide) ?_
      obtain ⟨w14, hzw14, h⟩ := k_bd h
      refine m_callV (C := RX7) (T := TX7) (N := 8) (ci := 7) (n := 1) (As := [.int (2 : Int32)]) (rest := []) (st1 := (.int w14.1 :: [])) E hM hl.1 ok1 (by decide) rfl rfl (c_X7_deny l D cy sz H0 u r (2 : Int32) hzw14) wl_X7_63 wm_X7_deny ws_X7_deny wi_X7 wd_X7_deny rfl rfl (by decide +kernel) ⟨by decide, by decide⟩ rfl rfl (by first | exact Nat.le_of_ble_eq_true rfl | simp [rv_cat, cat_i, cat_l, cat_r, cat_n]) dX7_join_30 ⟨by decide, by decide⟩ rfl (fun H locs hM => ?_)
      obtain ⟨hB15, h⟩ := k_gd h
      cases h
      exact m_zret hx hb hr hlk hM hB15 rfl rfl dX7_join_33
    · rw [cs_s] at h
      refine lv_ifnonnull (tgt := 34) hx hb dX7_join_25 (by decide) ?_
      refine lv_iload_n hx hb dX7_join_34 rfl (lv_at hl 3 rfl) ?_
      refine lv_iload_n hx hb dX7_join_35 rfl (lv_at hl 4 rfl) ?_
      refine lv_icmp_ne (tgt := 45) hx hb dX7_join_36 (by decide) (fun c16 => ?_) (fun c16 => ?_)
      · replace h := (k_if h).2 c16
        refine lv_aload_n hx hb dX7_join_45 rfl (lv_at hl 1 rfl) ?_
        obtain ⟨ok17, h⟩ := k_gd h
        refine gs_X7_111 E hM ok17 dX7_join_46 ?_
        refine lv_iconst (v := 3) hx hb dX7_join_49 (by decide) ?_
        refine lv_icmp_ne (tgt := 62) hx hb dX7_join_50 (by decide) (fun c18 => ?_) (fun c18 => ?_)
        · replace h := (k_if h).2 c18
          refine lv_aload_n hx hb dX7_join_62 rfl (lv_at hl 2 rfl) ?_
          refine lv_bipush (v := 8) hx hb dX7_join_63 (by decide) ?_
          obtain ⟨w19, hzw19, h⟩ := k_bd h
          refine m_callV (C := RX7) (T := TX7) (N := 8) (ci := 7) (n := 1) (As := [.int (8 : Int32)]) (rest := []) (st1 := (.int w19.1 :: [])) E hM hl.1 ok1 (by decide) rfl rfl (c_X7_deny l D cy sz H0 u r (8 : Int32) hzw19) wl_X7_63 wm_X7_deny ws_X7_deny wi_X7 wd_X7_deny rfl rfl (by decide +kernel) ⟨by decide, by decide⟩ rfl rfl (by first | exact Nat.le_of_ble_eq_true rfl | simp [rv_cat, cat_i, cat_l, cat_r, cat_n]) dX7_join_65 ⟨by decide, by decide⟩ rfl (fun H locs hM => ?_)
          obtain ⟨hB20, h⟩ := k_gd h
          cases h
          exact m_zret hx hb hr hlk hM hB20 rfl rfl dX7_join_68
        · replace h := (k_if h).1 c18
          refine lv_aload hx hb dX7_join_53 (lv_at hl 0 rfl) ?_
          obtain ⟨ok21, h⟩ := k_gd h
          refine gs_X7_111 E hM ok21 dX7_join_55 ?_
          refine lv_iconst (v := 3) hx hb dX7_join_58 (by decide) ?_
          refine lv_icmp_eq (tgt := 69) hx hb dX7_join_59 (by decide) (fun c22 => ?_) (fun c22 => ?_)
          · replace h := (k_if h).1 c22
            refine lv_aload_n hx hb dX7_join_69 rfl (lv_at hl 1 rfl) ?_
            refine gs_X7_185 E hM ok17 dX7_join_70 ?_
            refine lv_aload hx hb dX7_join_73 (lv_at hl 0 rfl) ?_
            refine gs_X7_185 E hM ok21 dX7_join_75 ?_
            refine lv_icmp_ne (tgt := 88) hx hb dX7_join_78 (by decide) (fun c23 => ?_) (fun c23 => ?_)
            · replace h := (k_if h).2 c23
              refine lv_aload_n hx hb dX7_join_88 rfl (lv_at hl 2 rfl) ?_
              refine gs_X7_18 E hM ok1 dX7_join_89 (fun x24 hxx24 => ?_)
              replace h := k_bb h x24 hxx24.symm
              refine lv_aload_n hx hb dX7_join_92 rfl (lv_at hl 1 rfl) ?_
              refine gs_X7_185 E hM ok17 dX7_join_93 ?_
              refine lv_aload hx hb dX7_join_96 (lv_at hl 0 rfl) ?_
              refine gs_X7_185 E hM ok21 dX7_join_98 ?_
              rcases x24 with _ | k25
              · cases h
              rw [cs_s] at h
              obtain ⟨ok26, h⟩ := k_gd h
              obtain ⟨w27, hzw27, h⟩ := k_bd h
              refine m_callV (C := RX0) (T := TX0) (N := 4) (ci := 0) (n := 2) (As := [.int (gI u k10 10), .int (gI u k13 10)]) (rest := []) (st1 := []) E hM hl.1 ok26 (by decide) rfl rfl (c_X0_unite l D cy sz H0 u k25 (gI u k10 10) (gI u k13 10) hzw27) wl_X7_188 wm_X0_unite ws_X0_unite wi_X0 wd_X0_unite rfl rfl (by decide +kernel) ⟨by decide, by decide⟩ rfl rfl (by first | exact Nat.le_of_ble_eq_true rfl | simp [rv_cat, cat_i, cat_l, cat_r, cat_n]) dX7_join_101 ⟨by decide, by decide⟩ rfl (fun H locs hM => ?_)
              refine lv_aload_n hx hb dX7_join_104 rfl (lv_at hl 2 rfl) ?_
              obtain ⟨ok28, h⟩ := k_gd h
              obtain ⟨w29, hzw29, h⟩ := k_bd h
              refine m_callV (C := RX7) (T := TX7) (N := 8) (ci := 7) (n := 0) (As := []) (rest := []) (st1 := (.int w29.1 :: [])) E hM hl.1 ok28 (by decide) rfl rfl (c_X7_grant l D cy sz H0 w27 r hzw29) wl_X7_71 wm_X7_grant ws_X7_grant wi_X7 wd_X7_grant rfl rfl (by decide +kernel) ⟨by decide, by decide⟩ rfl rfl (by first | exact Nat.le_of_ble_eq_true rfl | simp [rv_cat, cat_i, cat_l, cat_r, cat_n]) dX7_join_105 ⟨by decide, by decide⟩ rfl (fun H locs hM => ?_)
              obtain ⟨hB30, h⟩ := k_gd h
              cases h
              exact m_zret hx hb hr hlk hM hB30 rfl rfl dX7_join_108
            · replace h := (k_if h).1 c23
              refine lv_aload_n hx hb dX7_join_81 rfl (lv_at hl 2 rfl) ?_
              refine lv_bipush (v := 10) hx hb dX7_join_82 (by decide) ?_
              obtain ⟨w31, hzw31, h⟩ := k_bd h
              refine m_callV (C := RX7) (T := TX7) (N := 8) (ci := 7) (n := 1) (As := [.int (10 : Int32)]) (rest := []) (st1 := (.int w31.1 :: [])) E hM hl.1 ok1 (by decide) rfl rfl (c_X7_deny l D cy sz H0 u r (10 : Int32) hzw31) wl_X7_63 wm_X7_deny ws_X7_deny wi_X7 wd_X7_deny rfl rfl (by decide +kernel) ⟨by decide, by decide⟩ rfl rfl (by first | exact Nat.le_of_ble_eq_true rfl | simp [rv_cat, cat_i, cat_l, cat_r, cat_n]) dX7_join_84 ⟨by decide, by decide⟩ rfl (fun H locs hM => ?_)
              obtain ⟨hB32, h⟩ := k_gd h
              cases h
              exact m_zret hx hb hr hlk hM hB32 rfl rfl dX7_join_87
          · replace h := (k_if h).2 c22
            refine lv_aload_n hx hb dX7_join_62 rfl (lv_at hl 2 rfl) ?_
            refine lv_bipush (v := 8) hx hb dX7_join_63 (by decide) ?_
            obtain ⟨w33, hzw33, h⟩ := k_bd h
            refine m_callV (C := RX7) (T := TX7) (N := 8) (ci := 7) (n := 1) (As := [.int (8 : Int32)]) (rest := []) (st1 := (.int w33.1 :: [])) E hM hl.1 ok1 (by decide) rfl rfl (c_X7_deny l D cy sz H0 u r (8 : Int32) hzw33) wl_X7_63 wm_X7_deny ws_X7_deny wi_X7 wd_X7_deny rfl rfl (by decide +kernel) ⟨by decide, by decide⟩ rfl rfl (by first | exact Nat.le_of_ble_eq_true rfl | simp [rv_cat, cat_i, cat_l, cat_r, cat_n]) dX7_join_65 ⟨by decide, by decide⟩ rfl (fun H locs hM => ?_)
            obtain ⟨hB34, h⟩ := k_gd h
            cases h
            exact m_zret hx hb hr hlk hM hB34 rfl rfl dX7_join_68
      · replace h := (k_if h).1 c16
        refine lv_aload_n hx hb dX7_join_39 rfl (lv_at hl 2 rfl) ?_
        refine lv_iconst (v := 5) hx hb dX7_join_40 (by decide) ?_
        obtain ⟨w35, hzw35, h⟩ := k_bd h
        refine m_callV (C := RX7) (T := TX7) (N := 8) (ci := 7) (n := 1) (As := [.int (5 : Int32)]) (rest := []) (st1 := (.int w35.1 :: [])) E hM hl.1 ok1 (by decide) rfl rfl (c_X7_deny l D cy sz H0 u r (5 : Int32) hzw35) wl_X7_63 wm_X7_deny ws_X7_deny wi_X7 wd_X7_deny rfl rfl (by decide +kernel) ⟨by decide, by decide⟩ rfl rfl (by first | exact Nat.le_of_ble_eq_true rfl | simp [rv_cat, cat_i, cat_l, cat_r, cat_n]) dX7_join_41 ⟨by decide, by decide⟩ rfl (fun H locs hM => ?_)
        obtain ⟨hB36, h⟩ := k_gd h
        cases h
        exact m_zret hx hb hr hlk hM hB36 rfl rfl dX7_join_44

abbrev rm_X7_close : Room := { frames := 1, cells := 0, slots := 0, locals := 36 }
def f_X7_close (r : Nat) (p1 : Int32) (p2 : Int32) (p3 : Int32) (u : Mm) : Option ((Int32) × Mm) := gd (okO u r 7) (bb (gR u r 1) (fun x2 => cs x2 none (fun k3 => gd (okO u k3 0) (bd (f_X0_at k3 p1 u) (fun w5 => cs w5 (bd (f_X7_deny r (2 : Int32) u) (fun w7 => gd (isB w7.1) (some (w7.1, w7.2)))) (fun k6 => bd (f_X7_within p2 (-1 : Int32) (200000 : Int32) u) (fun w9 => (if w9 = 0 then bd (f_X7_deny r (5 : Int32) u) (fun w11 => gd (isB w11.1) (some (w11.1, w11.2))) else bd (f_X7_within p3 (0 : Int32) (65535 : Int32) u) (fun w13 => (if w13 = 0 then bd (f_X7_deny r (5 : Int32) u) (fun w18 => gd (isB w18.1) (some (w18.1, w18.2))) else gd (okO u k6 5) (bd (f_X7_grant r (sI (sI u k6 7 p2) k6 8 p3)) (fun w16 => gd (isB w16.1) (some (w16.1, w16.2))))))))))))))
set_option maxHeartbeats 4000000 in
set_option maxRecDepth 100000 in
theorem c_X7_close (l : Launch) (D : va_G) (cy : Nat → ClassId) (sz : Nat) (H0 : Heap) (u : Mm) (r : Nat) (p1 : Int32) (p2 : Int32) (p3 : Int32) {res : (Int32) × Mm} (h : f_X7_close r p1 p2 p3 u = some res) : Ctr l yX7_close cX7_close 5 (some .boolean) rm_X7_close 0 0 D cy sz H0 u [.ref (sz + r), .int p1, .int p2, .int p3] (some (.int res.1)) res.2 := by
  refine m_start (lv := [(0, .ref (sz + r)), (1, .int p1), (2, .int p2), (3, .int p3)]) (by decide) (by first | exact Nat.le_of_ble_eq_true rfl | simp [lg_sl, rv_cat, cat_i, cat_l, cat_r, cat_n]) (by first | rfl | simp [lv_args, rv_cat, cat_i, cat_l, cat_r, cat_n]) ?_
  intro p e s m below meth c ls E hr hlk hinit hM hl
  obtain ⟨hx, hb, hml, hown, hts, hKK⟩ := id E
  obtain ⟨H, hH⟩ : ∃ H, H = s.heap := ⟨_, rfl⟩
  obtain ⟨locs, hlocs⟩ : ∃ L : List Loc, L = [] := ⟨_, rfl⟩
  rw [← hH, ← hlocs] at hM ⊢
  unfold f_X7_close at h
  refine lv_aload_n hx hb dX7_close_0 rfl (lv_at hl 0 rfl) ?_
  obtain ⟨ok1, h⟩ := k_gd h
  refine gs_X7_18 E hM ok1 dX7_close_1 (fun x2 hxx2 => ?_)
  replace h := k_bb h x2 hxx2.symm
  refine lv_iload_n hx hb dX7_close_4 rfl (lv_at hl 1 rfl) ?_
  rcases x2 with _ | k3
  · cases h
  rw [cs_s] at h
  obtain ⟨ok4, h⟩ := k_gd h
  obtain ⟨w5, hzw5, h⟩ := k_bd h
  refine m_callV (C := RX0) (T := TX0) (N := 4) (ci := 0) (n := 1) (As := [.int p1]) (rest := []) (st1 := (rv sz w5 :: [])) E hM hl.1 ok4 (by decide) rfl rfl (c_X0_at l D cy sz H0 u k3 p1 hzw5) wl_X7_107 wm_X0_at ws_X0_at wi_X0 wd_X0_at rfl rfl (by decide +kernel) ⟨by decide, by decide⟩ rfl rfl (by first | exact Nat.le_of_ble_eq_true rfl | simp [rv_cat, cat_i, cat_l, cat_r, cat_n]) dX7_close_5 ⟨by decide, by decide⟩ rfl (fun H locs hM => ?_)
  refine m_astore (i := 4) (lv' := [(4, rv sz w5), (0, .ref (sz + r)), (1, .int p1), (2, .int p2), (3, .int p3)]) hx hb dX7_close_8 hl (by decide) (by first | rfl | simp [rv_cat, cat_i, cat_l, cat_r, cat_n]) (fun ls hl => ?_)
  refine m_aload hx hb dX7_close_10 (lv_at hl 0 rfl) ?_
  rcases w5 with _ | k6
  · rw [cs_n] at h
    refine lv_ifnonnullN hx hb dX7_close_12 ?_
    refine lv_aload_n hx hb dX7_close_15 rfl (lv_at hl 1 rfl) ?_
    refine lv_iconst (v := 2) hx hb dX7_close_16 (by decide) ?_
    obtain ⟨w7, hzw7, h⟩ := k_bd h
    refine m_callV (C := RX7) (T := TX7) (N := 8) (ci := 7) (n := 1) (As := [.int (2 : Int32)]) (rest := []) (st1 := (.int w7.1 :: [])) E hM hl.1 ok1 (by decide) rfl rfl (c_X7_deny l D cy sz H0 u r (2 : Int32) hzw7) wl_X7_63 wm_X7_deny ws_X7_deny wi_X7 wd_X7_deny rfl rfl (by decide +kernel) ⟨by decide, by decide⟩ rfl rfl (by first | exact Nat.le_of_ble_eq_true rfl | simp [rv_cat, cat_i, cat_l, cat_r, cat_n]) dX7_close_17 ⟨by decide, by decide⟩ rfl (fun H locs hM => ?_)
    obtain ⟨hB8, h⟩ := k_gd h
    cases h
    exact m_zret hx hb hr hlk hM hB8 rfl rfl dX7_close_20
  · rw [cs_s] at h
    refine lv_ifnonnull (tgt := 21) hx hb dX7_close_12 (by decide) ?_
    refine lv_iload_n hx hb dX7_close_21 rfl (lv_at hl 3 rfl) ?_
    refine lv_iconst (v := (-1)) hx hb dX7_close_22 (by decide) ?_
    refine lv_ldc hx hb hown (hts _ wk_X7_191) dX7_close_23 ?_
    obtain ⟨w9, hzw9, h⟩ := k_bd h
    refine m_callS (n := 3) (As := [.int p2, .int (-1 : Int32), .int (200000 : Int32)]) (rest := []) (st1 := (.int w9 :: [])) E hM hl.1 (c_X7_within l D cy sz H0 u p2 (-1 : Int32) (200000 : Int32) hzw9) wl_X7_59 wst_X7_within wi_X7 wd_X7_within rfl rfl (by decide +kernel) ⟨by decide, by decide⟩ rfl rfl (by first | exact Nat.le_of_ble_eq_true rfl | simp [rv_cat, cat_i, cat_l, cat_r, cat_n]) dX7_close_25 ⟨by decide, by decide⟩ rfl (fun H locs hM => ?_)
    refine lv_if_eq (tgt := 41) hx hb dX7_close_28 (by decide) (fun c10 => ?_) (fun c10 => ?_)
    · replace h := (k_if h).1 c10
      refine lv_aload_n hx hb dX7_close_41 rfl (lv_at hl 1 rfl) ?_
      refine lv_iconst (v := 5) hx hb dX7_close_42 (by decide) ?_
      obtain ⟨w11, hzw11, h⟩ := k_bd h
      refine m_callV (C := RX7) (T := TX7) (N := 8) (ci := 7) (n := 1) (As := [.int (5 : Int32)]) (rest := []) (st1 := (.int w11.1 :: [])) E hM hl.1 ok1 (by decide) rfl rfl (c_X7_deny l D cy sz H0 u r (5 : Int32) hzw11) wl_X7_63 wm_X7_deny ws_X7_deny wi_X7 wd_X7_deny rfl rfl (by decide +kernel) ⟨by decide, by decide⟩ rfl rfl (by first | exact Nat.le_of_ble_eq_true rfl | simp [rv_cat, cat_i, cat_l, cat_r, cat_n]) dX7_close_43 ⟨by decide, by decide⟩ rfl (fun H locs hM => ?_)
      obtain ⟨hB12, h⟩ := k_gd h
      cases h
      exact m_zret hx hb hr hlk hM hB12 rfl rfl dX7_close_46
    · replace h := (k_if h).2 c10
      refine lv_iload_n hx hb dX7_close_31 rfl (lv_at hl 4 rfl) ?_
      refine lv_iconst (v := 0) hx hb dX7_close_32 (by decide) ?_
      refine lv_ldc hx hb hown (hts _ wk_X7_192) dX7_close_33 ?_
      obtain ⟨w13, hzw13, h⟩ := k_bd h
      refine m_callS (n := 3) (As := [.int p3, .int (0 : Int32), .int (65535 : Int32)]) (rest := []) (st1 := (.int w13 :: [])) E hM hl.1 (c_X7_within l D cy sz H0 u p3 (0 : Int32) (65535 : Int32) hzw13) wl_X7_59 wst_X7_within wi_X7 wd_X7_within rfl rfl (by decide +kernel) ⟨by decide, by decide⟩ rfl rfl (by first | exact Nat.le_of_ble_eq_true rfl | simp [rv_cat, cat_i, cat_l, cat_r, cat_n]) dX7_close_35 ⟨by decide, by decide⟩ rfl (fun H locs hM => ?_)
      refine lv_if_ne (tgt := 47) hx hb dX7_close_38 (by decide) (fun c14 => ?_) (fun c14 => ?_)
      · replace h := (k_if h).2 c14
        refine lv_aload hx hb dX7_close_47 (lv_at hl 0 rfl) ?_
        refine lv_iload_n hx hb dX7_close_49 rfl (lv_at hl 3 rfl) ?_
        obtain ⟨ok15, h⟩ := k_gd h
        refine ps_X7_193 (v := p2) E hM ok15 dX7_close_50 (fun H locs hM => ?_)
        refine lv_aload hx hb dX7_close_53 (lv_at hl 0 rfl) ?_
        refine lv_iload_n hx hb dX7_close_55 rfl (lv_at hl 4 rfl) ?_
        refine ps_X7_196 (v := p3) E hM ok15 dX7_close_56 (fun H locs hM => ?_)
        refine lv_aload_n hx hb dX7_close_59 rfl (lv_at hl 1 rfl) ?_
        obtain ⟨w16, hzw16, h⟩ := k_bd h
        refine m_callV (C := RX7) (T := TX7) (N := 8) (ci := 7) (n := 0) (As := []) (rest := []) (st1 := (.int w16.1 :: [])) E hM hl.1 ok1 (by decide) rfl rfl (c_X7_grant l D cy sz H0 (sI (sI u k6 7 p2) k6 8 p3) r hzw16) wl_X7_71 wm_X7_grant ws_X7_grant wi_X7 wd_X7_grant rfl rfl (by decide +kernel) ⟨by decide, by decide⟩ rfl rfl (by first | exact Nat.le_of_ble_eq_true rfl | simp [rv_cat, cat_i, cat_l, cat_r, cat_n]) dX7_close_60 ⟨by decide, by decide⟩ rfl (fun H locs hM => ?_)
        obtain ⟨hB17, h⟩ := k_gd h
        cases h
        exact m_zret hx hb hr hlk hM hB17 rfl rfl dX7_close_63
      · replace h := (k_if h).1 c14
        refine lv_aload_n hx hb dX7_close_41 rfl (lv_at hl 1 rfl) ?_
        refine lv_iconst (v := 5) hx hb dX7_close_42 (by decide) ?_
        obtain ⟨w18, hzw18, h⟩ := k_bd h
        refine m_callV (C := RX7) (T := TX7) (N := 8) (ci := 7) (n := 1) (As := [.int (5 : Int32)]) (rest := []) (st1 := (.int w18.1 :: [])) E hM hl.1 ok1 (by decide) rfl rfl (c_X7_deny l D cy sz H0 u r (5 : Int32) hzw18) wl_X7_63 wm_X7_deny ws_X7_deny wi_X7 wd_X7_deny rfl rfl (by decide +kernel) ⟨by decide, by decide⟩ rfl rfl (by first | exact Nat.le_of_ble_eq_true rfl | simp [rv_cat, cat_i, cat_l, cat_r, cat_n]) dX7_close_43 ⟨by decide, by decide⟩ rfl (fun H locs hM => ?_)
        obtain ⟨hB19, h⟩ := k_gd h
        cases h
        exact m_zret hx hb hr hlk hM hB19 rfl rfl dX7_close_46

abbrev rm_X7_isPerson : Room := { frames := 1, cells := 0, slots := 0, locals := 36 }
def f_X7_isPerson (p1 : Int32) (u : Mm) : Option (Int32) := bd (f_X7_within p1 (0 : Int32) (15 : Int32) u) (fun w1 => gd (isB w1) (some w1))
set_option maxHeartbeats 4000000 in
set_option maxRecDepth 100000 in
theorem c_X7_isPerson (l : Launch) (D : va_G) (cy : Nat → ClassId) (sz : Nat) (H0 : Heap) (u : Mm) (p1 : Int32) {res : Int32} (h : f_X7_isPerson p1 u = some res) : Ctr l yX7_isPerson cX7_isPerson 1 (some .boolean) rm_X7_isPerson 0 0 D cy sz H0 u [.int p1] (some (.int res)) u := by
  refine m_start (lv := [(0, .int p1)]) (by decide) (by first | exact Nat.le_of_ble_eq_true rfl | simp [lg_sl, rv_cat, cat_i, cat_l, cat_r, cat_n]) (by first | rfl | simp [lv_args, rv_cat, cat_i, cat_l, cat_r, cat_n]) ?_
  intro p e s m below meth c ls E hr hlk hinit hM hl
  obtain ⟨hx, hb, hml, hown, hts, hKK⟩ := id E
  obtain ⟨H, hH⟩ : ∃ H, H = s.heap := ⟨_, rfl⟩
  obtain ⟨locs, hlocs⟩ : ∃ L : List Loc, L = [] := ⟨_, rfl⟩
  rw [← hH, ← hlocs] at hM ⊢
  unfold f_X7_isPerson at h
  refine lv_iload_n hx hb dX7_isPerson_0 rfl (lv_at hl 0 rfl) ?_
  refine lv_iconst (v := 0) hx hb dX7_isPerson_1 (by decide) ?_
  refine lv_bipush (v := 15) hx hb dX7_isPerson_2 (by decide) ?_
  obtain ⟨w1, hzw1, h⟩ := k_bd h
  refine m_callS (n := 3) (As := [.int p1, .int (0 : Int32), .int (15 : Int32)]) (rest := []) (st1 := (.int w1 :: [])) E hM hl.1 (c_X7_within l D cy sz H0 u p1 (0 : Int32) (15 : Int32) hzw1) wl_X7_59 wst_X7_within wi_X7 wd_X7_within rfl rfl (by decide +kernel) ⟨by decide, by decide⟩ rfl rfl (by first | exact Nat.le_of_ble_eq_true rfl | simp [rv_cat, cat_i, cat_l, cat_r, cat_n]) dX7_isPerson_4 ⟨by decide, by decide⟩ rfl (fun H locs hM => ?_)
  obtain ⟨hB2, h⟩ := k_gd h
  cases h
  exact m_zret hx hb hr hlk hM hB2 rfl rfl dX7_isPerson_7

abbrev rm_X7_isDay : Room := { frames := 1, cells := 0, slots := 0, locals := 36 }
def f_X7_isDay (p1 : Int32) (u : Mm) : Option (Int32) := bd (f_X7_within p1 (0 : Int32) (300000 : Int32) u) (fun w1 => gd (isB w1) (some w1))
set_option maxHeartbeats 4000000 in
set_option maxRecDepth 100000 in
theorem c_X7_isDay (l : Launch) (D : va_G) (cy : Nat → ClassId) (sz : Nat) (H0 : Heap) (u : Mm) (p1 : Int32) {res : Int32} (h : f_X7_isDay p1 u = some res) : Ctr l yX7_isDay cX7_isDay 1 (some .boolean) rm_X7_isDay 0 0 D cy sz H0 u [.int p1] (some (.int res)) u := by
  refine m_start (lv := [(0, .int p1)]) (by decide) (by first | exact Nat.le_of_ble_eq_true rfl | simp [lg_sl, rv_cat, cat_i, cat_l, cat_r, cat_n]) (by first | rfl | simp [lv_args, rv_cat, cat_i, cat_l, cat_r, cat_n]) ?_
  intro p e s m below meth c ls E hr hlk hinit hM hl
  obtain ⟨hx, hb, hml, hown, hts, hKK⟩ := id E
  obtain ⟨H, hH⟩ : ∃ H, H = s.heap := ⟨_, rfl⟩
  obtain ⟨locs, hlocs⟩ : ∃ L : List Loc, L = [] := ⟨_, rfl⟩
  rw [← hH, ← hlocs] at hM ⊢
  unfold f_X7_isDay at h
  refine lv_iload_n hx hb dX7_isDay_0 rfl (lv_at hl 0 rfl) ?_
  refine lv_iconst (v := 0) hx hb dX7_isDay_1 (by decide) ?_
  refine lv_ldcw hx hb hown (hts _ wk_X7_305) dX7_isDay_2 ?_
  obtain ⟨w1, hzw1, h⟩ := k_bd h
  refine m_callS (n := 3) (As := [.int p1, .int (0 : Int32), .int (300000 : Int32)]) (rest := []) (st1 := (.int w1 :: [])) E hM hl.1 (c_X7_within l D cy sz H0 u p1 (0 : Int32) (300000 : Int32) hzw1) wl_X7_59 wst_X7_within wi_X7 wd_X7_within rfl rfl (by decide +kernel) ⟨by decide, by decide⟩ rfl rfl (by first | exact Nat.le_of_ble_eq_true rfl | simp [rv_cat, cat_i, cat_l, cat_r, cat_n]) dX7_isDay_5 ⟨by decide, by decide⟩ rfl (fun H locs hM => ?_)
  obtain ⟨hB2, h⟩ := k_gd h
  cases h
  exact m_zret hx hb hr hlk hM hB2 rfl rfl dX7_isDay_8

abbrev rm_X7_sees : Room := { frames := 2, cells := 0, slots := 0, locals := 72 }
def f_X7_sees (r : Nat) (p1 : Int32) (p2 : Int32) (p3 : Int32) (u : Mm) : Option ((Int32) × Mm) := gd (okO u r 7) (bb (gR u r 1) (fun x2 => cs x2 none (fun k3 => gd (okO u k3 0) (bd (f_X0_at k3 p1 u) (fun w5 => cs w5 (bd (f_X7_refuse r (2 : Int32) u) (fun w7 => some (w7.1, w7.2))) (fun k6 => bd (f_X7_isPerson p2 u) (fun w8 => (if w8 = 0 then bd (f_X7_refuse r (2 : Int32) u) (fun w18 => some (w18.1, w18.2)) else bd (f_X7_isDay p3 u) (fun w10 => (if w10 = 0 then bd (f_X7_refuse r (5 : Int32) u) (fun w17 => some (w17.1, w17.2)) else gd (okO u k6 5) (bd (f_X5_isSeen k6 p2 p3 u) (fun w13 => (if w13 = 0 then bd (f_X7_answer r (0 : Int32) u) (fun w15 => some (w15.1, w15.2)) else bd (f_X7_answer r (1 : Int32) u) (fun w16 => some (w16.1, w16.2)))))))))))))))
set_option maxHeartbeats 4000000 in
set_option maxRecDepth 100000 in
theorem c_X7_sees (l : Launch) (D : va_G) (cy : Nat → ClassId) (sz : Nat) (H0 : Heap) (u : Mm) (r : Nat) (p1 : Int32) (p2 : Int32) (p3 : Int32) {res : (Int32) × Mm} (h : f_X7_sees r p1 p2 p3 u = some res) : Ctr l yX7_sees cX7_sees 5 (some .int) rm_X7_sees 0 0 D cy sz H0 u [.ref (sz + r), .int p1, .int p2, .int p3] (some (.int res.1)) res.2 := by
  refine m_start (lv := [(0, .ref (sz + r)), (1, .int p1), (2, .int p2), (3, .int p3)]) (by decide) (by first | exact Nat.le_of_ble_eq_true rfl | simp [lg_sl, rv_cat, cat_i, cat_l, cat_r, cat_n]) (by first | rfl | simp [lv_args, rv_cat, cat_i, cat_l, cat_r, cat_n]) ?_
  intro p e s m below meth c ls E hr hlk hinit hM hl
  obtain ⟨hx, hb, hml, hown, hts, hKK⟩ := id E
  obtain ⟨H, hH⟩ : ∃ H, H = s.heap := ⟨_, rfl⟩
  obtain ⟨locs, hlocs⟩ : ∃ L : List Loc, L = [] := ⟨_, rfl⟩
  rw [← hH, ← hlocs] at hM ⊢
  unfold f_X7_sees at h
  refine lv_aload_n hx hb dX7_sees_0 rfl (lv_at hl 0 rfl) ?_
  obtain ⟨ok1, h⟩ := k_gd h
  refine gs_X7_18 E hM ok1 dX7_sees_1 (fun x2 hxx2 => ?_)
  replace h := k_bb h x2 hxx2.symm
  refine lv_iload_n hx hb dX7_sees_4 rfl (lv_at hl 1 rfl) ?_
  rcases x2 with _ | k3
  · cases h
  rw [cs_s] at h
  obtain ⟨ok4, h⟩ := k_gd h
  obtain ⟨w5, hzw5, h⟩ := k_bd h
  refine m_callV (C := RX0) (T := TX0) (N := 4) (ci := 0) (n := 1) (As := [.int p1]) (rest := []) (st1 := (rv sz w5 :: [])) E hM hl.1 ok4 (by decide) rfl rfl (c_X0_at l D cy sz H0 u k3 p1 hzw5) wl_X7_107 wm_X0_at ws_X0_at wi_X0 wd_X0_at rfl rfl (by decide +kernel) ⟨by decide, by decide⟩ rfl rfl (by first | exact Nat.le_of_ble_eq_true rfl | simp [rv_cat, cat_i, cat_l, cat_r, cat_n]) dX7_sees_5 ⟨by decide, by decide⟩ rfl (fun H locs hM => ?_)
  refine m_astore (i := 4) (lv' := [(4, rv sz w5), (0, .ref (sz + r)), (1, .int p1), (2, .int p2), (3, .int p3)]) hx hb dX7_sees_8 hl (by decide) (by first | rfl | simp [rv_cat, cat_i, cat_l, cat_r, cat_n]) (fun ls hl => ?_)
  refine m_aload hx hb dX7_sees_10 (lv_at hl 0 rfl) ?_
  rcases w5 with _ | k6
  · rw [cs_n] at h
    refine lv_ifnullN (tgt := 22) hx hb dX7_sees_12 (by decide) ?_
    refine lv_aload_n hx hb dX7_sees_22 rfl (lv_at hl 1 rfl) ?_
    refine lv_iconst (v := 2) hx hb dX7_sees_23 (by decide) ?_
    obtain ⟨w7, hzw7, h⟩ := k_bd h
    refine m_callV (C := RX7) (T := TX7) (N := 8) (ci := 7) (n := 1) (As := [.int (2 : Int32)]) (rest := []) (st1 := (.int w7.1 :: [])) E hM hl.1 ok1 (by decide) rfl rfl (c_X7_refuse l D cy sz H0 u r (2 : Int32) hzw7) wl_X7_83 wm_X7_refuse ws_X7_refuse wi_X7 wd_X7_refuse rfl rfl (by decide +kernel) ⟨by decide, by decide⟩ rfl rfl (by first | exact Nat.le_of_ble_eq_true rfl | simp [rv_cat, cat_i, cat_l, cat_r, cat_n]) dX7_sees_24 ⟨by decide, by decide⟩ rfl (fun H locs hM => ?_)
    cases h
    exact m_iret hx hb hr hlk hM rfl rfl dX7_sees_27
  · rw [cs_s] at h
    refine lv_ifnull hx hb dX7_sees_12 ?_
    refine lv_iload_n hx hb dX7_sees_15 rfl (lv_at hl 3 rfl) ?_
    obtain ⟨w8, hzw8, h⟩ := k_bd h
    refine m_callS (n := 1) (As := [.int p2]) (rest := []) (st1 := (.int w8 :: [])) E hM hl.1 (c_X7_isPerson l D cy sz H0 u p2 hzw8) wl_X7_199 wst_X7_isPerson wi_X7 wd_X7_isPerson rfl rfl (by decide +kernel) ⟨by decide, by decide⟩ rfl rfl (by first | exact Nat.le_of_ble_eq_true rfl | simp [rv_cat, cat_i, cat_l, cat_r, cat_n]) dX7_sees_16 ⟨by decide, by decide⟩ rfl (fun H locs hM => ?_)
    refine lv_if_ne (tgt := 28) hx hb dX7_sees_19 (by decide) (fun c9 => ?_) (fun c9 => ?_)
    · replace h := (k_if h).2 c9
      refine lv_iload_n hx hb dX7_sees_28 rfl (lv_at hl 4 rfl) ?_
      obtain ⟨w10, hzw10, h⟩ := k_bd h
      refine m_callS (n := 1) (As := [.int p3]) (rest := []) (st1 := (.int w10 :: [])) E hM hl.1 (c_X7_isDay l D cy sz H0 u p3 hzw10) wl_X7_202 wst_X7_isDay wi_X7 wd_X7_isDay rfl rfl (by decide +kernel) ⟨by decide, by decide⟩ rfl rfl (by first | exact Nat.le_of_ble_eq_true rfl | simp [rv_cat, cat_i, cat_l, cat_r, cat_n]) dX7_sees_29 ⟨by decide, by decide⟩ rfl (fun H locs hM => ?_)
      refine lv_if_ne (tgt := 41) hx hb dX7_sees_32 (by decide) (fun c11 => ?_) (fun c11 => ?_)
      · replace h := (k_if h).2 c11
        refine lv_aload_n hx hb dX7_sees_41 rfl (lv_at hl 1 rfl) ?_
        refine lv_aload hx hb dX7_sees_42 (lv_at hl 0 rfl) ?_
        refine lv_iload_n hx hb dX7_sees_44 rfl (lv_at hl 3 rfl) ?_
        refine lv_iload_n hx hb dX7_sees_45 rfl (lv_at hl 4 rfl) ?_
        obtain ⟨ok12, h⟩ := k_gd h
        obtain ⟨w13, hzw13, h⟩ := k_bd h
        refine m_callV (C := RX5) (T := TX5) (N := 11) (ci := 5) (n := 2) (As := [.int p2, .int p3]) (rest := [.ref (sz + r)]) (st1 := (.int w13 :: [.ref (sz + r)])) E hM hl.1 ok12 (by decide) rfl rfl (c_X5_isSeen l D cy sz H0 u k6 p2 p3 hzw13) wl_X7_205 wm_X5_isSeen ws_X5_isSeen wi_X5 wd_X5_isSeen rfl rfl (by decide +kernel) ⟨by decide, by decide⟩ rfl rfl (by first | exact Nat.le_of_ble_eq_true rfl | simp [rv_cat, cat_i, cat_l, cat_r, cat_n]) dX7_sees_46 ⟨by decide, by decide⟩ rfl (fun H locs hM => ?_)
        refine lv_if_eq (tgt := 56) hx hb dX7_sees_49 (by decide) (fun c14 => ?_) (fun c14 => ?_)
        · replace h := (k_if h).1 c14
          refine lv_iconst (v := 0) hx hb dX7_sees_56 (by decide) ?_
          obtain ⟨w15, hzw15, h⟩ := k_bd h
          refine m_callV (C := RX7) (T := TX7) (N := 8) (ci := 7) (n := 1) (As := [.int (0 : Int32)]) (rest := []) (st1 := (.int w15.1 :: [])) E hM hl.1 ok1 (by decide) rfl rfl (c_X7_answer l D cy sz H0 u r (0 : Int32) hzw15) wl_X7_126 wm_X7_answer ws_X7_answer wi_X7 wd_X7_answer rfl rfl (by decide +kernel) ⟨by decide, by decide⟩ rfl rfl (by first | exact Nat.le_of_ble_eq_true rfl | simp [rv_cat, cat_i, cat_l, cat_r, cat_n]) dX7_sees_57 ⟨by decide, by decide⟩ rfl (fun H locs hM => ?_)
          cases h
          exact m_iret hx hb hr hlk hM rfl rfl dX7_sees_60
        · replace h := (k_if h).2 c14
          refine lv_iconst (v := 1) hx hb dX7_sees_52 (by decide) ?_
          refine lv_goto (tgt := 57) hx hb dX7_sees_53 (by decide) ?_
          obtain ⟨w16, hzw16, h⟩ := k_bd h
          refine m_callV (C := RX7) (T := TX7) (N := 8) (ci := 7) (n := 1) (As := [.int (1 : Int32)]) (rest := []) (st1 := (.int w16.1 :: [])) E hM hl.1 ok1 (by decide) rfl rfl (c_X7_answer l D cy sz H0 u r (1 : Int32) hzw16) wl_X7_126 wm_X7_answer ws_X7_answer wi_X7 wd_X7_answer rfl rfl (by decide +kernel) ⟨by decide, by decide⟩ rfl rfl (by first | exact Nat.le_of_ble_eq_true rfl | simp [rv_cat, cat_i, cat_l, cat_r, cat_n]) dX7_sees_57 ⟨by decide, by decide⟩ rfl (fun H locs hM => ?_)
          cases h
          exact m_iret hx hb hr hlk hM rfl rfl dX7_sees_60
      · replace h := (k_if h).1 c11
        refine lv_aload_n hx hb dX7_sees_35 rfl (lv_at hl 1 rfl) ?_
        refine lv_iconst (v := 5) hx hb dX7_sees_36 (by decide) ?_
        obtain ⟨w17, hzw17, h⟩ := k_bd h
        refine m_callV (C := RX7) (T := TX7) (N := 8) (ci := 7) (n := 1) (As := [.int (5 : Int32)]) (rest := []) (st1 := (.int w17.1 :: [])) E hM hl.1 ok1 (by decide) rfl rfl (c_X7_refuse l D cy sz H0 u r (5 : Int32) hzw17) wl_X7_83 wm_X7_refuse ws_X7_refuse wi_X7 wd_X7_refuse rfl rfl (by decide +kernel) ⟨by decide, by decide⟩ rfl rfl (by first | exact Nat.le_of_ble_eq_true rfl | simp [rv_cat, cat_i, cat_l, cat_r, cat_n]) dX7_sees_37 ⟨by decide, by decide⟩ rfl (fun H locs hM => ?_)
        cases h
        exact m_iret hx hb hr hlk hM rfl rfl dX7_sees_40
    · replace h := (k_if h).1 c9
      refine lv_aload_n hx hb dX7_sees_22 rfl (lv_at hl 1 rfl) ?_
      refine lv_iconst (v := 2) hx hb dX7_sees_23 (by decide) ?_
      obtain ⟨w18, hzw18, h⟩ := k_bd h
      refine m_callV (C := RX7) (T := TX7) (N := 8) (ci := 7) (n := 1) (As := [.int (2 : Int32)]) (rest := []) (st1 := (.int w18.1 :: [])) E hM hl.1 ok1 (by decide) rfl rfl (c_X7_refuse l D cy sz H0 u r (2 : Int32) hzw18) wl_X7_83 wm_X7_refuse ws_X7_refuse wi_X7 wd_X7_refuse rfl rfl (by decide +kernel) ⟨by decide, by decide⟩ rfl rfl (by first | exact Nat.le_of_ble_eq_true rfl | simp [rv_cat, cat_i, cat_l, cat_r, cat_n]) dX7_sees_24 ⟨by decide, by decide⟩ rfl (fun H locs hM => ?_)
      cases h
      exact m_iret hx hb hr hlk hM rfl rfl dX7_sees_27

abbrev rm_X7_number : Room := { frames := 4, cells := 0, slots := 0, locals := 144 }
def f_X7_number (r : Nat) (p1 : Int32) (p2 : Int32) (p3 : Int32) (p4 : Int32) (u : Mm) : Option ((Int32) × Mm) := gd (okO u r 7) (bb (gR u r 1) (fun x2 => cs x2 none (fun k3 => gd (okO u k3 0) (bd (f_X0_at k3 p1 u) (fun w5 => cs w5 (bd (f_X7_refuse r (2 : Int32) u) (fun w7 => some (w7.1, w7.2))) (fun k6 => bd (f_X7_isPerson p3 u) (fun w8 => (if w8 = 0 then bd (f_X7_refuse r (2 : Int32) u) (fun w32 => some (w32.1, w32.2)) else bd (f_X7_within p2 (0 : Int32) (3 : Int32) u) (fun w10 => (if w10 = 0 then bd (f_X7_refuse r (5 : Int32) u) (fun w12 => some (w12.1, w12.2)) else bd (f_X7_isDay p4 u) (fun w13 => (if w13 = 0 then bd (f_X7_refuse r (5 : Int32) u) (fun w31 => some (w31.1, w31.2)) else (if p2 = (3 : Int32) then bb (gR u r 1) (fun x21 => cs x21 none (fun k22 => gd (okO u k22 0) (bd (f_X0_piecesSeen k22 (some k6) p3 p4 u) (fun w24 => gd (okO w24.2 r 7) (bb (gR w24.2 r 1) (fun x26 => cs x26 none (fun k27 => gd (okO w24.2 k27 0) (bd (f_X0_uncataloguedSeen k27 (some k6) p3 p4 w24.2) (fun w29 => bd (f_X7_answer r (w24.1 + w29) w24.2) (fun w30 => some (w30.1, w30.2))))))))))) else bb (gR u r 1) (fun x16 => cs x16 none (fun k17 => gd (okO u k17 0) (bd (f_X0_partsSeen k17 (some k6) p2 p3 p4 u) (fun w19 => bd (f_X7_answer r w19 u) (fun w20 => some (w20.1, w20.2)))))))))))))))))))
set_option maxHeartbeats 4000000 in
set_option maxRecDepth 100000 in
theorem c_X7_number (l : Launch) (D : va_G) (cy : Nat → ClassId) (sz : Nat) (H0 : Heap) (u : Mm) (r : Nat) (p1 : Int32) (p2 : Int32) (p3 : Int32) (p4 : Int32) {res : (Int32) × Mm} (h : f_X7_number r p1 p2 p3 p4 u = some res) : Ctr l yX7_number cX7_number 6 (some .int) rm_X7_number 0 0 D cy sz H0 u [.ref (sz + r), .int p1, .int p2, .int p3, .int p4] (some (.int res.1)) res.2 := by
  refine m_start (lv := [(0, .ref (sz + r)), (1, .int p1), (2, .int p2), (3, .int p3), (4, .int p4)]) (by decide) (by first | exact Nat.le_of_ble_eq_true rfl | simp [lg_sl, rv_cat, cat_i, cat_l, cat_r, cat_n]) (by first | rfl | simp [lv_args, rv_cat, cat_i, cat_l, cat_r, cat_n]) ?_
  intro p e s m below meth c ls E hr hlk hinit hM hl
  obtain ⟨hx, hb, hml, hown, hts, hKK⟩ := id E
  obtain ⟨H, hH⟩ : ∃ H, H = s.heap := ⟨_, rfl⟩
  obtain ⟨locs, hlocs⟩ : ∃ L : List Loc, L = [] := ⟨_, rfl⟩
  rw [← hH, ← hlocs] at hM ⊢
  unfold f_X7_number at h
  refine lv_aload_n hx hb dX7_number_0 rfl (lv_at hl 0 rfl) ?_
  obtain ⟨ok1, h⟩ := k_gd h
  refine gs_X7_18 E hM ok1 dX7_number_1 (fun x2 hxx2 => ?_)
  replace h := k_bb h x2 hxx2.symm
  refine lv_iload_n hx hb dX7_number_4 rfl (lv_at hl 1 rfl) ?_
  rcases x2 with _ | k3
  · cases h
  rw [cs_s] at h
  obtain ⟨ok4, h⟩ := k_gd h
  obtain ⟨w5, hzw5, h⟩ := k_bd h
  refine m_callV (C := RX0) (T := TX0) (N := 4) (ci := 0) (n := 1) (As := [.int p1]) (rest := []) (st1 := (rv sz w5 :: [])) E hM hl.1 ok4 (by decide) rfl rfl (c_X0_at l D cy sz H0 u k3 p1 hzw5) wl_X7_107 wm_X0_at ws_X0_at wi_X0 wd_X0_at rfl rfl (by decide +kernel) ⟨by decide, by decide⟩ rfl rfl (by first | exact Nat.le_of_ble_eq_true rfl | simp [rv_cat, cat_i, cat_l, cat_r, cat_n]) dX7_number_5 ⟨by decide, by decide⟩ rfl (fun H locs hM => ?_)
  refine m_astore (i := 5) (lv' := [(5, rv sz w5), (0, .ref (sz + r)), (1, .int p1), (2, .int p2), (3, .int p3), (4, .int p4)]) hx hb dX7_number_8 hl (by decide) (by first | rfl | simp [rv_cat, cat_i, cat_l, cat_r, cat_n]) (fun ls hl => ?_)
  refine m_aload hx hb dX7_number_10 (lv_at hl 0 rfl) ?_
  rcases w5 with _ | k6
  · rw [cs_n] at h
    refine lv_ifnullN (tgt := 22) hx hb dX7_number_12 (by decide) ?_
    refine lv_aload_n hx hb dX7_number_22 rfl (lv_at hl 1 rfl) ?_
    refine lv_iconst (v := 2) hx hb dX7_number_23 (by decide) ?_
    obtain ⟨w7, hzw7, h⟩ := k_bd h
    refine m_callV (C := RX7) (T := TX7) (N := 8) (ci := 7) (n := 1) (As := [.int (2 : Int32)]) (rest := []) (st1 := (.int w7.1 :: [])) E hM hl.1 ok1 (by decide) rfl rfl (c_X7_refuse l D cy sz H0 u r (2 : Int32) hzw7) wl_X7_83 wm_X7_refuse ws_X7_refuse wi_X7 wd_X7_refuse rfl rfl (by decide +kernel) ⟨by decide, by decide⟩ rfl rfl (by first | exact Nat.le_of_ble_eq_true rfl | simp [rv_cat, cat_i, cat_l, cat_r, cat_n]) dX7_number_24 ⟨by decide, by decide⟩ rfl (fun H locs hM => ?_)
    cases h
    exact m_iret hx hb hr hlk hM rfl rfl dX7_number_27
  · rw [cs_s] at h
    refine lv_ifnull hx hb dX7_number_12 ?_
    refine lv_iload_n hx hb dX7_number_15 rfl (lv_at hl 4 rfl) ?_
    obtain ⟨w8, hzw8, h⟩ := k_bd h
    refine m_callS (n := 1) (As := [.int p3]) (rest := []) (st1 := (.int w8 :: [])) E hM hl.1 (c_X7_isPerson l D cy sz H0 u p3 hzw8) wl_X7_199 wst_X7_isPerson wi_X7 wd_X7_isPerson rfl rfl (by decide +kernel) ⟨by decide, by decide⟩ rfl rfl (by first | exact Nat.le_of_ble_eq_true rfl | simp [rv_cat, cat_i, cat_l, cat_r, cat_n]) dX7_number_16 ⟨by decide, by decide⟩ rfl (fun H locs hM => ?_)
    refine lv_if_ne (tgt := 28) hx hb dX7_number_19 (by decide) (fun c9 => ?_) (fun c9 => ?_)
    · replace h := (k_if h).2 c9
      refine lv_iload_n hx hb dX7_number_28 rfl (lv_at hl 3 rfl) ?_
      refine lv_iconst (v := 0) hx hb dX7_number_29 (by decide) ?_
      refine lv_iconst (v := 3) hx hb dX7_number_30 (by decide) ?_
      obtain ⟨w10, hzw10, h⟩ := k_bd h
      refine m_callS (n := 3) (As := [.int p2, .int (0 : Int32), .int (3 : Int32)]) (rest := []) (st1 := (.int w10 :: [])) E hM hl.1 (c_X7_within l D cy sz H0 u p2 (0 : Int32) (3 : Int32) hzw10) wl_X7_59 wst_X7_within wi_X7 wd_X7_within rfl rfl (by decide +kernel) ⟨by decide, by decide⟩ rfl rfl (by first | exact Nat.le_of_ble_eq_true rfl | simp [rv_cat, cat_i, cat_l, cat_r, cat_n]) dX7_number_31 ⟨by decide, by decide⟩ rfl (fun H locs hM => ?_)
      refine lv_if_eq (tgt := 45) hx hb dX7_number_34 (by decide) (fun c11 => ?_) (fun c11 => ?_)
      · replace h := (k_if h).1 c11
        refine lv_aload_n hx hb dX7_number_45 rfl (lv_at hl 1 rfl) ?_
        refine lv_iconst (v := 5) hx hb dX7_number_46 (by decide) ?_
        obtain ⟨w12, hzw12, h⟩ := k_bd h
        refine m_callV (C := RX7) (T := TX7) (N := 8) (ci := 7) (n := 1) (As := [.int (5 : Int32)]) (rest := []) (st1 := (.int w12.1 :: [])) E hM hl.1 ok1 (by decide) rfl rfl (c_X7_refuse l D cy sz H0 u r (5 : Int32) hzw12) wl_X7_83 wm_X7_refuse ws_X7_refuse wi_X7 wd_X7_refuse rfl rfl (by decide +kernel) ⟨by decide, by decide⟩ rfl rfl (by first | exact Nat.le_of_ble_eq_true rfl | simp [rv_cat, cat_i, cat_l, cat_r, cat_n]) dX7_number_47 ⟨by decide, by decide⟩ rfl (fun H locs hM => ?_)
        cases h
        exact m_iret hx hb hr hlk hM rfl rfl dX7_number_50
      · replace h := (k_if h).2 c11
        refine lv_iload hx hb dX7_number_37 (lv_at hl 5 rfl) ?_
        obtain ⟨w13, hzw13, h⟩ := k_bd h
        refine m_callS (n := 1) (As := [.int p4]) (rest := []) (st1 := (.int w13 :: [])) E hM hl.1 (c_X7_isDay l D cy sz H0 u p4 hzw13) wl_X7_202 wst_X7_isDay wi_X7 wd_X7_isDay rfl rfl (by decide +kernel) ⟨by decide, by decide⟩ rfl rfl (by first | exact Nat.le_of_ble_eq_true rfl | simp [rv_cat, cat_i, cat_l, cat_r, cat_n]) dX7_number_39 ⟨by decide, by decide⟩ rfl (fun H locs hM => ?_)
        refine lv_if_ne (tgt := 51) hx hb dX7_number_42 (by decide) (fun c14 => ?_) (fun c14 => ?_)
        · replace h := (k_if h).2 c14
          refine lv_iload_n hx hb dX7_number_51 rfl (lv_at hl 3 rfl) ?_
          refine lv_iconst (v := 3) hx hb dX7_number_52 (by decide) ?_
          refine lv_icmp_ne (tgt := 86) hx hb dX7_number_53 (by decide) (fun c15 => ?_) (fun c15 => ?_)
          · replace h := (k_if h).2 c15
            refine lv_aload_n hx hb dX7_number_86 rfl (lv_at hl 1 rfl) ?_
            refine lv_aload_n hx hb dX7_number_87 rfl (lv_at hl 1 rfl) ?_
            refine gs_X7_18 E hM ok1 dX7_number_88 (fun x16 hxx16 => ?_)
            replace h := k_bb h x16 hxx16.symm
            refine lv_aload hx hb dX7_number_91 (lv_at hl 0 rfl) ?_
            refine lv_iload_n hx hb dX7_number_93 rfl (lv_at hl 3 rfl) ?_
            refine lv_iload_n hx hb dX7_number_94 rfl (lv_at hl 4 rfl) ?_
            refine lv_iload hx hb dX7_number_95 (lv_at hl 5 rfl) ?_
            rcases x16 with _ | k17
            · cases h
            rw [cs_s] at h
            obtain ⟨ok18, h⟩ := k_gd h
            obtain ⟨w19, hzw19, h⟩ := k_bd h
            refine m_callV (C := RX0) (T := TX0) (N := 4) (ci := 0) (n := 4) (As := [.ref (sz + k6), .int p2, .int p3, .int p4]) (rest := [.ref (sz + r)]) (st1 := (.int w19 :: [.ref (sz + r)])) E hM hl.1 ok18 (by decide) rfl rfl (c_X0_partsSeen l D cy sz H0 u k17 (some k6) p2 p3 p4 hzw19) wl_X7_215 wm_X0_partsSeen ws_X0_partsSeen wi_X0 wd_X0_partsSeen rfl rfl (by decide +kernel) ⟨by decide, by decide⟩ rfl rfl (by first | exact Nat.le_of_ble_eq_true rfl | simp [rv_cat, cat_i, cat_l, cat_r, cat_n]) dX7_number_97 ⟨by decide, by decide⟩ rfl (fun H locs hM => ?_)
            obtain ⟨w20, hzw20, h⟩ := k_bd h
            refine m_callV (C := RX7) (T := TX7) (N := 8) (ci := 7) (n := 1) (As := [.int w19]) (rest := []) (st1 := (.int w20.1 :: [])) E hM hl.1 ok1 (by decide) rfl rfl (c_X7_answer l D cy sz H0 u r w19 hzw20) wl_X7_126 wm_X7_answer ws_X7_answer wi_X7 wd_X7_answer rfl rfl (by decide +kernel) ⟨by decide, by decide⟩ rfl rfl (by first | exact Nat.le_of_ble_eq_true rfl | simp [rv_cat, cat_i, cat_l, cat_r, cat_n]) dX7_number_100 ⟨by decide, by decide⟩ rfl (fun H locs hM => ?_)
            cases h
            exact m_iret hx hb hr hlk hM rfl rfl dX7_number_103
          · replace h := (k_if h).1 c15
            refine lv_aload_n hx hb dX7_number_56 rfl (lv_at hl 1 rfl) ?_
            refine lv_aload_n hx hb dX7_number_57 rfl (lv_at hl 1 rfl) ?_
            refine gs_X7_18 E hM ok1 dX7_number_58 (fun x21 hxx21 => ?_)
            replace h := k_bb h x21 hxx21.symm
            refine lv_aload hx hb dX7_number_61 (lv_at hl 0 rfl) ?_
            refine lv_iload_n hx hb dX7_number_63 rfl (lv_at hl 4 rfl) ?_
            refine lv_iload hx hb dX7_number_64 (lv_at hl 5 rfl) ?_
            rcases x21 with _ | k22
            · cases h
            rw [cs_s] at h
            obtain ⟨ok23, h⟩ := k_gd h
            obtain ⟨w24, hzw24, h⟩ := k_bd h
            refine m_callV (C := RX0) (T := TX0) (N := 4) (ci := 0) (n := 3) (As := [.ref (sz + k6), .int p3, .int p4]) (rest := [.ref (sz + r)]) (st1 := (.int w24.1 :: [.ref (sz + r)])) E hM hl.1 ok23 (by decide) rfl rfl (c_X0_piecesSeen l D cy sz H0 u k22 (some k6) p3 p4 hzw24) wl_X7_208 wm_X0_piecesSeen ws_X0_piecesSeen wi_X0 wd_X0_piecesSeen rfl rfl (by decide +kernel) ⟨by decide, by decide⟩ rfl rfl (by first | exact Nat.le_of_ble_eq_true rfl | simp [rv_cat, cat_i, cat_l, cat_r, cat_n]) dX7_number_66 ⟨by decide, by decide⟩ rfl (fun H locs hM => ?_)
            refine lv_aload_n hx hb dX7_number_69 rfl (lv_at hl 1 rfl) ?_
            obtain ⟨ok25, h⟩ := k_gd h
            refine gs_X7_18 E hM ok25 dX7_number_70 (fun x26 hxx26 => ?_)
            replace h := k_bb h x26 hxx26.symm
            refine lv_aload hx hb dX7_number_73 (lv_at hl 0 rfl) ?_
            refine lv_iload_n hx hb dX7_number_75 rfl (lv_at hl 4 rfl) ?_
            refine lv_iload hx hb dX7_number_76 (lv_at hl 5 rfl) ?_
            rcases x26 with _ | k27
            · cases h
            rw [cs_s] at h
            obtain ⟨ok28, h⟩ := k_gd h
            obtain ⟨w29, hzw29, h⟩ := k_bd h
            refine m_callV (C := RX0) (T := TX0) (N := 4) (ci := 0) (n := 3) (As := [.ref (sz + k6), .int p3, .int p4]) (rest := [.int w24.1, .ref (sz + r)]) (st1 := (.int w29 :: [.int w24.1, .ref (sz + r)])) E hM hl.1 ok28 (by decide) rfl rfl (c_X0_uncataloguedSeen l D cy sz H0 w24.2 k27 (some k6) p3 p4 hzw29) wl_X7_212 wm_X0_uncataloguedSeen ws_X0_uncataloguedSeen wi_X0 wd_X0_uncataloguedSeen rfl rfl (by decide +kernel) ⟨by decide, by decide⟩ rfl rfl (by first | exact Nat.le_of_ble_eq_true rfl | simp [rv_cat, cat_i, cat_l, cat_r, cat_n]) dX7_number_78 ⟨by decide, by decide⟩ rfl (fun H locs hM => ?_)
            refine lv_iadd hx hb dX7_number_81 ?_
            obtain ⟨w30, hzw30, h⟩ := k_bd h
            refine m_callV (C := RX7) (T := TX7) (N := 8) (ci := 7) (n := 1) (As := [.int (w24.1 + w29)]) (rest := []) (st1 := (.int w30.1 :: [])) E hM hl.1 ok25 (by decide) rfl rfl (c_X7_answer l D cy sz H0 w24.2 r (w24.1 + w29) hzw30) wl_X7_126 wm_X7_answer ws_X7_answer wi_X7 wd_X7_answer rfl rfl (by decide +kernel) ⟨by decide, by decide⟩ rfl rfl (by first | exact Nat.le_of_ble_eq_true rfl | simp [rv_cat, cat_i, cat_l, cat_r, cat_n]) dX7_number_82 ⟨by decide, by decide⟩ rfl (fun H locs hM => ?_)
            cases h
            exact m_iret hx hb hr hlk hM rfl rfl dX7_number_85
        · replace h := (k_if h).1 c14
          refine lv_aload_n hx hb dX7_number_45 rfl (lv_at hl 1 rfl) ?_
          refine lv_iconst (v := 5) hx hb dX7_number_46 (by decide) ?_
          obtain ⟨w31, hzw31, h⟩ := k_bd h
          refine m_callV (C := RX7) (T := TX7) (N := 8) (ci := 7) (n := 1) (As := [.int (5 : Int32)]) (rest := []) (st1 := (.int w31.1 :: [])) E hM hl.1 ok1 (by decide) rfl rfl (c_X7_refuse l D cy sz H0 u r (5 : Int32) hzw31) wl_X7_83 wm_X7_refuse ws_X7_refuse wi_X7 wd_X7_refuse rfl rfl (by decide +kernel) ⟨by decide, by decide⟩ rfl rfl (by first | exact Nat.le_of_ble_eq_true rfl | simp [rv_cat, cat_i, cat_l, cat_r, cat_n]) dX7_number_47 ⟨by decide, by decide⟩ rfl (fun H locs hM => ?_)
          cases h
          exact m_iret hx hb hr hlk hM rfl rfl dX7_number_50
    · replace h := (k_if h).1 c9
      refine lv_aload_n hx hb dX7_number_22 rfl (lv_at hl 1 rfl) ?_
      refine lv_iconst (v := 2) hx hb dX7_number_23 (by decide) ?_
      obtain ⟨w32, hzw32, h⟩ := k_bd h
      refine m_callV (C := RX7) (T := TX7) (N := 8) (ci := 7) (n := 1) (As := [.int (2 : Int32)]) (rest := []) (st1 := (.int w32.1 :: [])) E hM hl.1 ok1 (by decide) rfl rfl (c_X7_refuse l D cy sz H0 u r (2 : Int32) hzw32) wl_X7_83 wm_X7_refuse ws_X7_refuse wi_X7 wd_X7_refuse rfl rfl (by decide +kernel) ⟨by decide, by decide⟩ rfl rfl (by first | exact Nat.le_of_ble_eq_true rfl | simp [rv_cat, cat_i, cat_l, cat_r, cat_n]) dX7_number_24 ⟨by decide, by decide⟩ rfl (fun H locs hM => ?_)
      cases h
      exact m_iret hx hb hr hlk hM rfl rfl dX7_number_27

abbrev rm_X7_find : Room := { frames := 2, cells := 0, slots := 0, locals := 72 }
def L_X7_find_84 (b0 : Nat) (b1 : Int32) (b2 : Int32) (b3 : Int32) (b4 : Int32) (b5 : Int32) (b6 : Nat) (k : Int32 → Int32 → Mm → Option ((Int32) × Mm)) : Nat → Int32 → Int32 → Mm → Option ((Int32) × Mm)
  | 0, _, _, _ => none
  | n + 1, a7, a8, u => gd (okO u b0 7) (bb (gR u b0 1) (fun x19 => cs x19 none (fun k20 => gd (okO u k20 0) ((if (gI u k20 1) ≤ a8 then k a7 a8 u else bb (gR u b0 1) (fun x23 => cs x23 none (fun k24 => gd (okO u k24 0) (bb (gR u k24 0) (fun x26 => cs x26 none (fun k27 => gd (okA u k27 12 a8) (bb (gR u k27 (Int32.toNatClampNeg a8)) (fun x29 => cs x29 none (fun k30 => gd (okO u k30 5) ((if (gI u k30 1) = (3 : Int32) then bd (f_X5_saidInLine k30 b1 u) (fun w34 => (if w34 = b2 then bd (f_X5_isSeen k30 b3 b4 u) (fun w37 => (if w37 = 0 then bb (a8 + (1)) (fun v39 => L_X7_find_84 b0 b1 b2 b3 b4 b5 b6 k n a7 v39 u) else gd (okO u b6 6) (bd (f_X6_hasPlace b6 a7 u) (fun w41 => (if w41 = 0 then bb (a7 + (1)) (fun v43 => bb (a8 + (1)) (fun v44 => L_X7_find_84 b0 b1 b2 b3 b4 b5 b6 k n v43 v44 u)) else bd (f_X6_put b6 a7 (Int32.toInt64 a8) u) (fun w45 => bb (a7 + (1)) (fun v46 => bb (a8 + (1)) (fun v47 => L_X7_find_84 b0 b1 b2 b3 b4 b5 b6 k n v46 v47 w45)))))))) else bb (a8 + (1)) (fun v36 => L_X7_find_84 b0 b1 b2 b3 b4 b5 b6 k n a7 v36 u))) else bb (a8 + (1)) (fun v33 => L_X7_find_84 b0 b1 b2 b3 b4 b5 b6 k n a7 v33 u))))))))))))))))
set_option maxHeartbeats 4000000 in
set_option maxRecDepth 100000 in
theorem lp_X7_find_84 {p : Program} {l : Launch} {e : Env} {s : State} {m : MethodId} {args : Array Value} {below : List Frame} {meth : Method} {c : Code} {D : va_G} {cy : Nat → ClassId} {sz : Nat} {H0 : Heap} {b0 : Nat} {b1 : Int32} {b2 : Int32} {b3 : Int32} {b4 : Int32} {b5 : Int32} {b6 : Nat} {k : Int32 → Int32 → Mm → Option ((Int32) × Mm)} {res : (Int32) × Mm} (hr : meth.sig.returnType = (some .int)) (hlk : meth.locks = false) (E : EE p s m args c cX7_find 10 RX7 D cy) : ∀ (n : Nat) (a7 : Int32) (a8 : Int32) (u : Mm) (H : Heap) (locs : List Loc) (ls : Array Slot), MM D cy sz H0 u H locs → lv_has ls 10 [(0, .ref (sz + b0)), (1, .int b1), (2, .int b2), (3, .int b3), (4, .int b4), (5, .int b5), (6, .ref (sz + b6)), (7, .int a7), (8, .int a8)] → L_X7_find_84 b0 b1 b2 b3 b4 b5 b6 k n a7 a8 u = some res → (∀ (a7 : Int32) (a8 : Int32) (u : Mm) (H : Heap) (locs : List Loc) (ls : Array Slot), MM D cy sz H0 u H locs → lv_has ls 10 [(0, .ref (sz + b0)), (1, .int b1), (2, .int b2), (3, .int b3), (4, .int b4), (5, .int b5), (6, .ref (sz + b6)), (7, .int a7), (8, .int a8)] → k a7 a8 u = some res → W p l e rm_X7_find s m args below meth c H locs 0 0 (MQ below (Post D cy sz H0 (some (.int res.1)) res.2) args s 0 0 (fun q => sz ≤ q)) (F0 m 167 ls [])) → W p l e rm_X7_find s m args below meth c H locs 0 0 (MQ below (Post D cy sz H0 (some (.int res.1)) res.2) args s 0 0 (fun q => sz ≤ q)) (F0 m 84 ls []) := by
  obtain ⟨hx, hb, hml, hown, hts, hKK⟩ := id E
  intro n
  induction n with
  | zero => intros; rename_i h _; cases h
  | succ n ih =>
    intro a7 a8 u H locs ls hM hl h hk
    rw [L_X7_find_84] at h
    refine lv_iload hx hb dX7_find_84 (lv_at hl 8 rfl) ?_
    refine lv_aload_n hx hb dX7_find_86 rfl (lv_at hl 0 rfl) ?_
    obtain ⟨ok18, h⟩ := k_gd h
    refine gs_X7_18 E hM ok18 dX7_find_87 (fun x19 hxx19 => ?_)
    replace h := k_bb h x19 hxx19.symm
    rcases x19 with _ | k20
    · cases h
    rw [cs_s] at h
    obtain ⟨ok21, h⟩ := k_gd h
    refine gs_X7_119 E hM ok21 dX7_find_90 ?_
    refine lv_icmp_ge (tgt := 167) hx hb dX7_find_93 (by decide) (fun c22 => ?_) (fun c22 => ?_)
    · replace h := (k_if h).1 c22
      exact hk a7 a8 u H locs ls hM (lv_sub hl [0, 1, 2, 3, 4, 5, 6, 7, 8] rfl) h
    · replace h := (k_if h).2 c22
      refine lv_aload_n hx hb dX7_find_96 rfl (lv_at hl 0 rfl) ?_
      refine gs_X7_18 E hM ok18 dX7_find_97 (fun x23 hxx23 => ?_)
      replace h := k_bb h x23 hxx23.symm
      rcases x23 with _ | k24
      · cases h
      rw [cs_s] at h
      obtain ⟨ok25, h⟩ := k_gd h
      refine gs_X7_219 E hM ok25 dX7_find_100 (fun x26 hxx26 => ?_)
      replace h := k_bb h x26 hxx26.symm
      refine lv_iload hx hb dX7_find_103 (lv_at hl 8 rfl) ?_
      rcases x26 with _ | k27
      · cases h
      rw [cs_s] at h
      obtain ⟨ok28, h⟩ := k_gd h
      refine m_aald (sh := 12) (tp := 3) (by decide) rfl rfl E hM ok28 dX7_find_105 (fun x29 hxx29 => ?_)
      replace h := k_bb h x29 hxx29.symm
      refine m_astore (i := 9) (lv' := [(9, rv sz x29), (0, .ref (sz + b0)), (1, .int b1), (2, .int b2), (3, .int b3), (4, .int b4), (5, .int b5), (6, .ref (sz + b6)), (7, .int a7), (8, .int a8)]) hx hb dX7_find_106 hl (by decide) (by first | rfl | simp [rv_cat, cat_i, cat_l, cat_r, cat_n]) (fun ls hl => ?_)
      refine m_aload hx hb dX7_find_108 (lv_at hl 0 rfl) ?_
      rcases x29 with _ | k30
      · cases h
      rw [cs_s] at h
      obtain ⟨ok31, h⟩ := k_gd h
      refine gs_X7_111 E hM ok31 dX7_find_110 ?_
      refine lv_iconst (v := 3) hx hb dX7_find_113 (by decide) ?_
      refine lv_icmp_ne (tgt := 161) hx hb dX7_find_114 (by decide) (fun c32 => ?_) (fun c32 => ?_)
      · replace h := (k_if h).2 c32
        obtain ⟨v33, hvv33⟩ : ∃ y : Int32, y = a8 + (1) := ⟨_, rfl⟩
        replace h := k_bb h v33 hvv33
        refine lv_iinc (v := v33) (lv' := [(8, .int v33), (9, .ref (sz + k30)), (0, .ref (sz + b0)), (1, .int b1), (2, .int b2), (3, .int b3), (4, .int b4), (5, .int b5), (6, .ref (sz + b6)), (7, .int a7)]) hx hb dX7_find_161 hl (k := 9) rfl (by rw [hvv33]; rfl) (by decide) (by first | rfl | simp [rv_cat, cat_i, cat_l, cat_r, cat_n]) (fun ls hl => ?_)
        refine lv_goto (tgt := 84) hx hb dX7_find_164 (by decide) ?_
        exact ih a7 v33 u H locs ls hM (lv_sub hl [2, 3, 4, 5, 6, 7, 8, 9, 0] rfl) h hk
      · replace h := (k_if h).1 c32
        refine lv_aload hx hb dX7_find_117 (lv_at hl 0 rfl) ?_
        refine lv_iload_n hx hb dX7_find_119 rfl (lv_at hl 2 rfl) ?_
        obtain ⟨w34, hzw34, h⟩ := k_bd h
        refine m_callV (C := RX5) (T := TX5) (N := 11) (ci := 5) (n := 1) (As := [.int b1]) (rest := []) (st1 := (.int w34 :: [])) E hM hl.1 ok31 (by decide) rfl rfl (c_X5_saidInLine l D cy sz H0 u k30 b1 hzw34) wl_X7_165 wm_X5_saidInLine ws_X5_saidInLine wi_X5 wd_X5_saidInLine rfl rfl (by decide +kernel) ⟨by decide, by decide⟩ rfl rfl (by first | exact Nat.le_of_ble_eq_true rfl | simp [rv_cat, cat_i, cat_l, cat_r, cat_n]) dX7_find_120 ⟨by decide, by decide⟩ rfl (fun H locs hM => ?_)
        refine lv_iload_n hx hb dX7_find_123 rfl (lv_at hl 3 rfl) ?_
        refine lv_icmp_ne (tgt := 161) hx hb dX7_find_124 (by decide) (fun c35 => ?_) (fun c35 => ?_)
        · replace h := (k_if h).2 c35
          obtain ⟨v36, hvv36⟩ : ∃ y : Int32, y = a8 + (1) := ⟨_, rfl⟩
          replace h := k_bb h v36 hvv36
          refine lv_iinc (v := v36) (lv' := [(8, .int v36), (9, .ref (sz + k30)), (0, .ref (sz + b0)), (1, .int b1), (2, .int b2), (3, .int b3), (4, .int b4), (5, .int b5), (6, .ref (sz + b6)), (7, .int a7)]) hx hb dX7_find_161 hl (k := 9) rfl (by rw [hvv36]; rfl) (by decide) (by first | rfl | simp [rv_cat, cat_i, cat_l, cat_r, cat_n]) (fun ls hl => ?_)
          refine lv_goto (tgt := 84) hx hb dX7_find_164 (by decide) ?_
          exact ih a7 v36 u H locs ls hM (lv_sub hl [2, 3, 4, 5, 6, 7, 8, 9, 0] rfl) h hk
        · replace h := (k_if h).1 c35
          refine lv_aload hx hb dX7_find_127 (lv_at hl 0 rfl) ?_
          refine lv_iload_n hx hb dX7_find_129 rfl (lv_at hl 4 rfl) ?_
          refine lv_iload hx hb dX7_find_130 (lv_at hl 5 rfl) ?_
          obtain ⟨w37, hzw37, h⟩ := k_bd h
          refine m_callV (C := RX5) (T := TX5) (N := 11) (ci := 5) (n := 2) (As := [.int b3, .int b4]) (rest := []) (st1 := (.int w37 :: [])) E hM hl.1 ok31 (by decide) rfl rfl (c_X5_isSeen l D cy sz H0 u k30 b3 b4 hzw37) wl_X7_205 wm_X5_isSeen ws_X5_isSeen wi_X5 wd_X5_isSeen rfl rfl (by decide +kernel) ⟨by decide, by decide⟩ rfl rfl (by first | exact Nat.le_of_ble_eq_true rfl | simp [rv_cat, cat_i, cat_l, cat_r, cat_n]) dX7_find_132 ⟨by decide, by decide⟩ rfl (fun H locs hM => ?_)
          refine lv_if_eq (tgt := 161) hx hb dX7_find_135 (by decide) (fun c38 => ?_) (fun c38 => ?_)
          · replace h := (k_if h).1 c38
            obtain ⟨v39, hvv39⟩ : ∃ y : Int32, y = a8 + (1) := ⟨_, rfl⟩
            replace h := k_bb h v39 hvv39
            refine lv_iinc (v := v39) (lv' := [(8, .int v39), (9, .ref (sz + k30)), (0, .ref (sz + b0)), (1, .int b1), (2, .int b2), (3, .int b3), (4, .int b4), (5, .int b5), (6, .ref (sz + b6)), (7, .int a7)]) hx hb dX7_find_161 hl (k := 9) rfl (by rw [hvv39]; rfl) (by decide) (by first | rfl | simp [rv_cat, cat_i, cat_l, cat_r, cat_n]) (fun ls hl => ?_)
            refine lv_goto (tgt := 84) hx hb dX7_find_164 (by decide) ?_
            exact ih a7 v39 u H locs ls hM (lv_sub hl [2, 3, 4, 5, 6, 7, 8, 9, 0] rfl) h hk
          · replace h := (k_if h).2 c38
            refine lv_aload hx hb dX7_find_138 (lv_at hl 7 rfl) ?_
            refine lv_iload hx hb dX7_find_140 (lv_at hl 8 rfl) ?_
            obtain ⟨ok40, h⟩ := k_gd h
            obtain ⟨w41, hzw41, h⟩ := k_bd h
            refine m_callV (C := RX6) (T := TX6) (N := 3) (ci := 6) (n := 1) (As := [.int a7]) (rest := []) (st1 := (.int w41 :: [])) E hM hl.1 ok40 (by decide) rfl rfl (c_X6_hasPlace l D cy sz H0 u b6 a7 hzw41) wl_X7_223 wm_X6_hasPlace ws_X6_hasPlace wi_X6 wd_X6_hasPlace rfl rfl (by decide +kernel) ⟨by decide, by decide⟩ rfl rfl (by first | exact Nat.le_of_ble_eq_true rfl | simp [rv_cat, cat_i, cat_l, cat_r, cat_n]) dX7_find_142 ⟨by decide, by decide⟩ rfl (fun H locs hM => ?_)
            refine lv_if_eq (tgt := 158) hx hb dX7_find_145 (by decide) (fun c42 => ?_) (fun c42 => ?_)
            · replace h := (k_if h).1 c42
              obtain ⟨v43, hvv43⟩ : ∃ y : Int32, y = a7 + (1) := ⟨_, rfl⟩
              replace h := k_bb h v43 hvv43
              refine lv_iinc (v := v43) (lv' := [(7, .int v43), (9, .ref (sz + k30)), (0, .ref (sz + b0)), (1, .int b1), (2, .int b2), (3, .int b3), (4, .int b4), (5, .int b5), (6, .ref (sz + b6)), (8, .int a8)]) hx hb dX7_find_158 hl (k := 8) rfl (by rw [hvv43]; rfl) (by decide) (by first | rfl | simp [rv_cat, cat_i, cat_l, cat_r, cat_n]) (fun ls hl => ?_)
              obtain ⟨v44, hvv44⟩ : ∃ y : Int32, y = a8 + (1) := ⟨_, rfl⟩
              replace h := k_bb h v44 hvv44
              refine lv_iinc (v := v44) (lv' := [(8, .int v44), (7, .int v43), (9, .ref (sz + k30)), (0, .ref (sz + b0)), (1, .int b1), (2, .int b2), (3, .int b3), (4, .int b4), (5, .int b5), (6, .ref (sz + b6))]) hx hb dX7_find_161 hl (k := 9) rfl (by rw [hvv44]; rfl) (by decide) (by first | rfl | simp [rv_cat, cat_i, cat_l, cat_r, cat_n]) (fun ls hl => ?_)
              refine lv_goto (tgt := 84) hx hb dX7_find_164 (by decide) ?_
              exact ih v43 v44 u H locs ls hM (lv_sub hl [3, 4, 5, 6, 7, 8, 9, 1, 0] rfl) h hk
            · replace h := (k_if h).2 c42
              refine lv_aload hx hb dX7_find_148 (lv_at hl 7 rfl) ?_
              refine lv_iload hx hb dX7_find_150 (lv_at hl 8 rfl) ?_
              refine lv_iload hx hb dX7_find_152 (lv_at hl 9 rfl) ?_
              refine lv_i2l hx hb dX7_find_154 rfl ?_
              obtain ⟨w45, hzw45, h⟩ := k_bd h
              refine m_callV (C := RX6) (T := TX6) (N := 3) (ci := 6) (n := 2) (As := [.int a7, .long (Int32.toInt64 a8)]) (rest := []) (st1 := []) E hM hl.1 ok40 (by decide) rfl rfl (c_X6_put l D cy sz H0 u b6 a7 (Int32.toInt64 a8) hzw45) wl_X7_79 wm_X6_put ws_X6_put wi_X6 wd_X6_put rfl rfl (by decide +kernel) ⟨by decide, by decide⟩ rfl rfl (by first | exact Nat.le_of_ble_eq_true rfl | simp [rv_cat, cat_i, cat_l, cat_r, cat_n]) dX7_find_155 ⟨by decide, by decide⟩ rfl (fun H locs hM => ?_)
              obtain ⟨v46, hvv46⟩ : ∃ y : Int32, y = a7 + (1) := ⟨_, rfl⟩
              replace h := k_bb h v46 hvv46
              refine lv_iinc (v := v46) (lv' := [(7, .int v46), (9, .ref (sz + k30)), (0, .ref (sz + b0)), (1, .int b1), (2, .int b2), (3, .int b3), (4, .int b4), (5, .int b5), (6, .ref (sz + b6)), (8, .int a8)]) hx hb dX7_find_158 hl (k := 8) rfl (by rw [hvv46]; rfl) (by decide) (by first | rfl | simp [rv_cat, cat_i, cat_l, cat_r, cat_n]) (fun ls hl => ?_)
              obtain ⟨v47, hvv47⟩ : ∃ y : Int32, y = a8 + (1) := ⟨_, rfl⟩
              replace h := k_bb h v47 hvv47
              refine lv_iinc (v := v47) (lv' := [(8, .int v47), (7, .int v46), (9, .ref (sz + k30)), (0, .ref (sz + b0)), (1, .int b1), (2, .int b2), (3, .int b3), (4, .int b4), (5, .int b5), (6, .ref (sz + b6))]) hx hb dX7_find_161 hl (k := 9) rfl (by rw [hvv47]; rfl) (by decide) (by first | rfl | simp [rv_cat, cat_i, cat_l, cat_r, cat_n]) (fun ls hl => ?_)
              refine lv_goto (tgt := 84) hx hb dX7_find_164 (by decide) ?_
              exact ih v46 v47 w45 H locs ls hM (lv_sub hl [3, 4, 5, 6, 7, 8, 9, 1, 0] rfl) h hk

def f_X7_find (r : Nat) (p1 : Int32) (p2 : Int32) (p3 : Int32) (p4 : Int32) (p5 : Int32) (u : Mm) : Option ((Int32) × Mm) := gd (okO u r 7) (bd (f_X7_trayAt r p5 u) (fun w2 => cs w2 (bd (f_X7_refuse r (1 : Int32) u) (fun w4 => some (w4.1, w4.2))) (fun k3 => bd (f_X7_isField p1 u) (fun w5 => (if w5 = 0 then bd (f_X7_refuse r (2 : Int32) u) (fun w7 => some (w7.1, w7.2)) else bd (f_X7_isPerson p3 u) (fun w8 => (if w8 = 0 then bd (f_X7_refuse r (2 : Int32) u) (fun w55 => some (w55.1, w55.2)) else gd (okO u k3 6) (bd (f_X6_isMissing k3 u) (fun w11 => (if w11 = 0 then bd (f_X7_within p2 (0 : Int32) (999 : Int32) u) (fun w13 => (if w13 = 0 then bd (f_X7_refuse r (5 : Int32) u) (fun w15 => some (w15.1, w15.2)) else bd (f_X7_isDay p4 u) (fun w16 => (if w16 = 0 then bd (f_X7_refuse r (5 : Int32) u) (fun w53 => some (w53.1, w53.2)) else L_X7_find_84 r p1 p2 p3 p4 p5 k3  (fun a48 a49 u50 => gd (okO u50 r 7) (bd (f_X7_answer r a48 u50) (fun w52 => some (w52.1, w52.2)))) 1000 (0 : Int32) (0 : Int32) u)))) else bd (f_X7_refuse r (3 : Int32) u) (fun w54 => some (w54.1, w54.2))))))))))))
set_option maxHeartbeats 4000000 in
set_option maxRecDepth 100000 in
theorem c_X7_find (l : Launch) (D : va_G) (cy : Nat → ClassId) (sz : Nat) (H0 : Heap) (u : Mm) (r : Nat) (p1 : Int32) (p2 : Int32) (p3 : Int32) (p4 : Int32) (p5 : Int32) {res : (Int32) × Mm} (h : f_X7_find r p1 p2 p3 p4 p5 u = some res) : Ctr l yX7_find cX7_find 10 (some .int) rm_X7_find 0 0 D cy sz H0 u [.ref (sz + r), .int p1, .int p2, .int p3, .int p4, .int p5] (some (.int res.1)) res.2 := by
  refine m_start (lv := [(0, .ref (sz + r)), (1, .int p1), (2, .int p2), (3, .int p3), (4, .int p4), (5, .int p5)]) (by decide) (by first | exact Nat.le_of_ble_eq_true rfl | simp [lg_sl, rv_cat, cat_i, cat_l, cat_r, cat_n]) (by first | rfl | simp [lv_args, rv_cat, cat_i, cat_l, cat_r, cat_n]) ?_
  intro p e s m below meth c ls E hr hlk hinit hM hl
  obtain ⟨hx, hb, hml, hown, hts, hKK⟩ := id E
  obtain ⟨H, hH⟩ : ∃ H, H = s.heap := ⟨_, rfl⟩
  obtain ⟨locs, hlocs⟩ : ∃ L : List Loc, L = [] := ⟨_, rfl⟩
  rw [← hH, ← hlocs] at hM ⊢
  unfold f_X7_find at h
  refine lv_aload_n hx hb dX7_find_0 rfl (lv_at hl 0 rfl) ?_
  refine lv_iload hx hb dX7_find_1 (lv_at hl 5 rfl) ?_
  obtain ⟨ok1, h⟩ := k_gd h
  obtain ⟨w2, hzw2, h⟩ := k_bd h
  refine m_callV (C := RX7) (T := TX7) (N := 8) (ci := 7) (n := 1) (As := [.int p5]) (rest := []) (st1 := (rv sz w2 :: [])) E hM hl.1 ok1 (by decide) rfl rfl (c_X7_trayAt l D cy sz H0 u r p5 hzw2) wl_X7_55 wm_X7_trayAt ws_X7_trayAt wi_X7 wd_X7_trayAt rfl rfl (by decide +kernel) ⟨by decide, by decide⟩ rfl rfl (by first | exact Nat.le_of_ble_eq_true rfl | simp [rv_cat, cat_i, cat_l, cat_r, cat_n]) dX7_find_3 ⟨by decide, by decide⟩ rfl (fun H locs hM => ?_)
  refine m_astore (i := 6) (lv' := [(6, rv sz w2), (0, .ref (sz + r)), (1, .int p1), (2, .int p2), (3, .int p3), (4, .int p4), (5, .int p5)]) hx hb dX7_find_6 hl (by decide) (by first | rfl | simp [rv_cat, cat_i, cat_l, cat_r, cat_n]) (fun ls hl => ?_)
  refine m_aload hx hb dX7_find_8 (lv_at hl 0 rfl) ?_
  rcases w2 with _ | k3
  · rw [cs_n] at h
    refine lv_ifnonnullN hx hb dX7_find_10 ?_
    refine lv_aload_n hx hb dX7_find_13 rfl (lv_at hl 1 rfl) ?_
    refine lv_iconst (v := 1) hx hb dX7_find_14 (by decide) ?_
    obtain ⟨w4, hzw4, h⟩ := k_bd h
    refine m_callV (C := RX7) (T := TX7) (N := 8) (ci := 7) (n := 1) (As := [.int (1 : Int32)]) (rest := []) (st1 := (.int w4.1 :: [])) E hM hl.1 ok1 (by decide) rfl rfl (c_X7_refuse l D cy sz H0 u r (1 : Int32) hzw4) wl_X7_83 wm_X7_refuse ws_X7_refuse wi_X7 wd_X7_refuse rfl rfl (by decide +kernel) ⟨by decide, by decide⟩ rfl rfl (by first | exact Nat.le_of_ble_eq_true rfl | simp [rv_cat, cat_i, cat_l, cat_r, cat_n]) dX7_find_15 ⟨by decide, by decide⟩ rfl (fun H locs hM => ?_)
    cases h
    exact m_iret hx hb hr hlk hM rfl rfl dX7_find_18
  · rw [cs_s] at h
    refine lv_ifnonnull (tgt := 19) hx hb dX7_find_10 (by decide) ?_
    refine lv_iload_n hx hb dX7_find_19 rfl (lv_at hl 2 rfl) ?_
    obtain ⟨w5, hzw5, h⟩ := k_bd h
    refine m_callS (n := 1) (As := [.int p1]) (rest := []) (st1 := (.int w5 :: [])) E hM hl.1 (c_X7_isField l D cy sz H0 u p1 hzw5) wl_X7_159 wst_X7_isField wi_X7 wd_X7_isField rfl rfl (by decide +kernel) ⟨by decide, by decide⟩ rfl rfl (by first | exact Nat.le_of_ble_eq_true rfl | simp [rv_cat, cat_i, cat_l, cat_r, cat_n]) dX7_find_20 ⟨by decide, by decide⟩ rfl (fun H locs hM => ?_)
    refine lv_if_eq (tgt := 33) hx hb dX7_find_23 (by decide) (fun c6 => ?_) (fun c6 => ?_)
    · replace h := (k_if h).1 c6
      refine lv_aload_n hx hb dX7_find_33 rfl (lv_at hl 1 rfl) ?_
      refine lv_iconst (v := 2) hx hb dX7_find_34 (by decide) ?_
      obtain ⟨w7, hzw7, h⟩ := k_bd h
      refine m_callV (C := RX7) (T := TX7) (N := 8) (ci := 7) (n := 1) (As := [.int (2 : Int32)]) (rest := []) (st1 := (.int w7.1 :: [])) E hM hl.1 ok1 (by decide) rfl rfl (c_X7_refuse l D cy sz H0 u r (2 : Int32) hzw7) wl_X7_83 wm_X7_refuse ws_X7_refuse wi_X7 wd_X7_refuse rfl rfl (by decide +kernel) ⟨by decide, by decide⟩ rfl rfl (by first | exact Nat.le_of_ble_eq_true rfl | simp [rv_cat, cat_i, cat_l, cat_r, cat_n]) dX7_find_35 ⟨by decide, by decide⟩ rfl (fun H locs hM => ?_)
      cases h
      exact m_iret hx hb hr hlk hM rfl rfl dX7_find_38
    · replace h := (k_if h).2 c6
      refine lv_iload_n hx hb dX7_find_26 rfl (lv_at hl 4 rfl) ?_
      obtain ⟨w8, hzw8, h⟩ := k_bd h
      refine m_callS (n := 1) (As := [.int p3]) (rest := []) (st1 := (.int w8 :: [])) E hM hl.1 (c_X7_isPerson l D cy sz H0 u p3 hzw8) wl_X7_199 wst_X7_isPerson wi_X7 wd_X7_isPerson rfl rfl (by decide +kernel) ⟨by decide, by decide⟩ rfl rfl (by first | exact Nat.le_of_ble_eq_true rfl | simp [rv_cat, cat_i, cat_l, cat_r, cat_n]) dX7_find_27 ⟨by decide, by decide⟩ rfl (fun H locs hM => ?_)
      refine lv_if_ne (tgt := 39) hx hb dX7_find_30 (by decide) (fun c9 => ?_) (fun c9 => ?_)
      · replace h := (k_if h).2 c9
        refine lv_aload hx hb dX7_find_39 (lv_at hl 0 rfl) ?_
        obtain ⟨ok10, h⟩ := k_gd h
        obtain ⟨w11, hzw11, h⟩ := k_bd h
        refine m_callV (C := RX6) (T := TX6) (N := 3) (ci := 6) (n := 0) (As := []) (rest := []) (st1 := (.int w11 :: [])) E hM hl.1 ok10 (by decide) rfl rfl (c_X6_isMissing l D cy sz H0 u k3 hzw11) wl_X7_91 wm_X6_isMissing ws_X6_isMissing wi_X6 wd_X6_isMissing rfl rfl (by decide +kernel) ⟨by decide, by decide⟩ rfl rfl (by first | exact Nat.le_of_ble_eq_true rfl | simp [rv_cat, cat_i, cat_l, cat_r, cat_n]) dX7_find_41 ⟨by decide, by decide⟩ rfl (fun H locs hM => ?_)
        refine lv_if_eq (tgt := 53) hx hb dX7_find_44 (by decide) (fun c12 => ?_) (fun c12 => ?_)
        · replace h := (k_if h).1 c12
          refine lv_iload_n hx hb dX7_find_53 rfl (lv_at hl 3 rfl) ?_
          refine lv_iconst (v := 0) hx hb dX7_find_54 (by decide) ?_
          refine lv_sipush (v := 999) hx hb dX7_find_55 (by decide) ?_
          obtain ⟨w13, hzw13, h⟩ := k_bd h
          refine m_callS (n := 3) (As := [.int p2, .int (0 : Int32), .int (999 : Int32)]) (rest := []) (st1 := (.int w13 :: [])) E hM hl.1 (c_X7_within l D cy sz H0 u p2 (0 : Int32) (999 : Int32) hzw13) wl_X7_59 wst_X7_within wi_X7 wd_X7_within rfl rfl (by decide +kernel) ⟨by decide, by decide⟩ rfl rfl (by first | exact Nat.le_of_ble_eq_true rfl | simp [rv_cat, cat_i, cat_l, cat_r, cat_n]) dX7_find_58 ⟨by decide, by decide⟩ rfl (fun H locs hM => ?_)
          refine lv_if_eq (tgt := 72) hx hb dX7_find_61 (by decide) (fun c14 => ?_) (fun c14 => ?_)
          · replace h := (k_if h).1 c14
            refine lv_aload_n hx hb dX7_find_72 rfl (lv_at hl 1 rfl) ?_
            refine lv_iconst (v := 5) hx hb dX7_find_73 (by decide) ?_
            obtain ⟨w15, hzw15, h⟩ := k_bd h
            refine m_callV (C := RX7) (T := TX7) (N := 8) (ci := 7) (n := 1) (As := [.int (5 : Int32)]) (rest := []) (st1 := (.int w15.1 :: [])) E hM hl.1 ok1 (by decide) rfl rfl (c_X7_refuse l D cy sz H0 u r (5 : Int32) hzw15) wl_X7_83 wm_X7_refuse ws_X7_refuse wi_X7 wd_X7_refuse rfl rfl (by decide +kernel) ⟨by decide, by decide⟩ rfl rfl (by first | exact Nat.le_of_ble_eq_true rfl | simp [rv_cat, cat_i, cat_l, cat_r, cat_n]) dX7_find_74 ⟨by decide, by decide⟩ rfl (fun H locs hM => ?_)
            cases h
            exact m_iret hx hb hr hlk hM rfl rfl dX7_find_77
          · replace h := (k_if h).2 c14
            refine lv_iload hx hb dX7_find_64 (lv_at hl 5 rfl) ?_
            obtain ⟨w16, hzw16, h⟩ := k_bd h
            refine m_callS (n := 1) (As := [.int p4]) (rest := []) (st1 := (.int w16 :: [])) E hM hl.1 (c_X7_isDay l D cy sz H0 u p4 hzw16) wl_X7_202 wst_X7_isDay wi_X7 wd_X7_isDay rfl rfl (by decide +kernel) ⟨by decide, by decide⟩ rfl rfl (by first | exact Nat.le_of_ble_eq_true rfl | simp [rv_cat, cat_i, cat_l, cat_r, cat_n]) dX7_find_66 ⟨by decide, by decide⟩ rfl (fun H locs hM => ?_)
            refine lv_if_ne (tgt := 78) hx hb dX7_find_69 (by decide) (fun c17 => ?_) (fun c17 => ?_)
            · replace h := (k_if h).2 c17
              refine lv_iconst (v := 0) hx hb dX7_find_78 (by decide) ?_
              refine lv_istore (i := 7) (lv' := [(7, .int (0 : Int32)), (6, .ref (sz + k3)), (0, .ref (sz + r)), (1, .int p1), (2, .int p2), (3, .int p3), (4, .int p4), (5, .int p5)]) hx hb dX7_find_79 hl (by decide) (by first | rfl | simp [rv_cat, cat_i, cat_l, cat_r, cat_n]) (fun ls hl => ?_)
              refine lv_iconst (v := 0) hx hb dX7_find_81 (by decide) ?_
              refine lv_istore (i := 8) (lv' := [(8, .int (0 : Int32)), (7, .int (0 : Int32)), (6, .ref (sz + k3)), (0, .ref (sz + r)), (1, .int p1), (2, .int p2), (3, .int p3), (4, .int p4), (5, .int p5)]) hx hb dX7_find_82 hl (by decide) (by first | rfl | simp [rv_cat, cat_i, cat_l, cat_r, cat_n]) (fun ls hl => ?_)
              refine lp_X7_find_84 hr hlk  E 1000 (0 : Int32) (0 : Int32) u H locs ls hM (lv_sub hl [3, 4, 5, 6, 7, 8, 2, 1, 0] rfl) h (fun a48 a49 u50 H locs ls hM hl h => ?_)
              refine lv_aload_n hx hb dX7_find_167 rfl (lv_at hl 0 rfl) ?_
              refine lv_iload hx hb dX7_find_168 (lv_at hl 7 rfl) ?_
              obtain ⟨ok51, h⟩ := k_gd h
              obtain ⟨w52, hzw52, h⟩ := k_bd h
              refine m_callV (C := RX7) (T := TX7) (N := 8) (ci := 7) (n := 1) (As := [.int a48]) (rest := []) (st1 := (.int w52.1 :: [])) E hM hl.1 ok51 (by decide) rfl rfl (c_X7_answer l D cy sz H0 u50 r a48 hzw52) wl_X7_126 wm_X7_answer ws_X7_answer wi_X7 wd_X7_answer rfl rfl (by decide +kernel) ⟨by decide, by decide⟩ rfl rfl (by first | exact Nat.le_of_ble_eq_true rfl | simp [rv_cat, cat_i, cat_l, cat_r, cat_n]) dX7_find_170 ⟨by decide, by decide⟩ rfl (fun H locs hM => ?_)
              cases h
              exact m_iret hx hb hr hlk hM rfl rfl dX7_find_173
            · replace h := (k_if h).1 c17
              refine lv_aload_n hx hb dX7_find_72 rfl (lv_at hl 1 rfl) ?_
              refine lv_iconst (v := 5) hx hb dX7_find_73 (by decide) ?_
              obtain ⟨w53, hzw53, h⟩ := k_bd h
              refine m_callV (C := RX7) (T := TX7) (N := 8) (ci := 7) (n := 1) (As := [.int (5 : Int32)]) (rest := []) (st1 := (.int w53.1 :: [])) E hM hl.1 ok1 (by decide) rfl rfl (c_X7_refuse l D cy sz H0 u r (5 : Int32) hzw53) wl_X7_83 wm_X7_refuse ws_X7_refuse wi_X7 wd_X7_refuse rfl rfl (by decide +kernel) ⟨by decide, by decide⟩ rfl rfl (by first | exact Nat.le_of_ble_eq_true rfl | simp [rv_cat, cat_i, cat_l, cat_r, cat_n]) dX7_find_74 ⟨by decide, by decide⟩ rfl (fun H locs hM => ?_)
              cases h
              exact m_iret hx hb hr hlk hM rfl rfl dX7_find_77
        · replace h := (k_if h).2 c12
          refine lv_aload_n hx hb dX7_find_47 rfl (lv_at hl 1 rfl) ?_
          refine lv_iconst (v := 3) hx hb dX7_find_48 (by decide) ?_
          obtain ⟨w54, hzw54, h⟩ := k_bd h
          refine m_callV (C := RX7) (T := TX7) (N := 8) (ci := 7) (n := 1) (As := [.int (3 : Int32)]) (rest := []) (st1 := (.int w54.1 :: [])) E hM hl.1 ok1 (by decide) rfl rfl (c_X7_refuse l D cy sz H0 u r (3 : Int32) hzw54) wl_X7_83 wm_X7_refuse ws_X7_refuse wi_X7 wd_X7_refuse rfl rfl (by decide +kernel) ⟨by decide, by decide⟩ rfl rfl (by first | exact Nat.le_of_ble_eq_true rfl | simp [rv_cat, cat_i, cat_l, cat_r, cat_n]) dX7_find_49 ⟨by decide, by decide⟩ rfl (fun H locs hM => ?_)
          cases h
          exact m_iret hx hb hr hlk hM rfl rfl dX7_find_52
      · replace h := (k_if h).1 c9
        refine lv_aload_n hx hb dX7_find_33 rfl (lv_at hl 1 rfl) ?_
        refine lv_iconst (v := 2) hx hb dX7_find_34 (by decide) ?_
        obtain ⟨w55, hzw55, h⟩ := k_bd h
        refine m_callV (C := RX7) (T := TX7) (N := 8) (ci := 7) (n := 1) (As := [.int (2 : Int32)]) (rest := []) (st1 := (.int w55.1 :: [])) E hM hl.1 ok1 (by decide) rfl rfl (c_X7_refuse l D cy sz H0 u r (2 : Int32) hzw55) wl_X7_83 wm_X7_refuse ws_X7_refuse wi_X7 wd_X7_refuse rfl rfl (by decide +kernel) ⟨by decide, by decide⟩ rfl rfl (by first | exact Nat.le_of_ble_eq_true rfl | simp [rv_cat, cat_i, cat_l, cat_r, cat_n]) dX7_find_35 ⟨by decide, by decide⟩ rfl (fun H locs hM => ?_)
        cases h
        exact m_iret hx hb hr hlk hM rfl rfl dX7_find_38

