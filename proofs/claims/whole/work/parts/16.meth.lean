abbrev rm_X7_mark : Room := { frames := 1, cells := 0, slots := 0, locals := 36 }
def f_X7_mark (r : Nat) (p1 : Int32) (p2 : Int32) (u : Mm) : Option ((Int32) × Mm) := gd (okO u r 7) (bb (gR u r 1) (fun x2 => cs x2 none (fun k3 => gd (okO u k3 0) (bd (f_X0_at k3 p1 u) (fun w5 => cs w5 (bd (f_X7_deny r (2 : Int32) u) (fun w7 => gd (isB w7.1) (some (w7.1, w7.2)))) (fun k6 => bd (f_X7_within p2 (-1 : Int32) (9999 : Int32) u) (fun w9 => (if w9 = 0 then bd (f_X7_deny r (5 : Int32) u) (fun w25 => gd (isB w25.1) (some (w25.1, w25.2))) else (if p2 = (-1 : Int32) then gd (okO u k6 5) (bd (f_X7_grant r (sI u k6 9 p2)) (fun w13 => gd (isB w13.1) (some (w13.1, w13.2)))) else bb (gR u r 1) (fun x15 => cs x15 none (fun k16 => gd (okO u k16 0) (bd (f_X0_isMarkOfAnother k16 p2 (some k6) u) (fun w18 => (if w18 = 0 then gd (okO u k6 5) (bd (f_X7_grant r (sI u k6 9 p2)) (fun w21 => gd (isB w21.1) (some (w21.1, w21.2)))) else bd (f_X7_deny r (10 : Int32) u) (fun w23 => gd (isB w23.1) (some (w23.1, w23.2)))))))))))))))))
set_option maxHeartbeats 4000000 in
set_option maxRecDepth 100000 in
theorem c_X7_mark (l : Launch) (D : va_G) (cy : Nat → ClassId) (sz : Nat) (H0 : Heap) (u : Mm) (r : Nat) (p1 : Int32) (p2 : Int32) {res : (Int32) × Mm} (h : f_X7_mark r p1 p2 u = some res) : Ctr l yX7_mark cX7_mark 4 (some .boolean) rm_X7_mark 0 0 D cy sz H0 u [.ref (sz + r), .int p1, .int p2] (some (.int res.1)) res.2 := by
  refine m_start (lv := [(0, .ref (sz + r)), (1, .int p1), (2, .int p2)]) (by decide) (by first | exact Nat.le_of_ble_eq_true rfl | simp [lg_sl, rv_cat, cat_i, cat_l, cat_r, cat_n]) (by first | rfl | simp [lv_args, rv_cat, cat_i, cat_l, cat_r, cat_n]) ?_
  intro p e s m below meth c ls E hr hlk hinit hM hl
  obtain ⟨hx, hb, hml, hown, hts, hKK⟩ := id E
  obtain ⟨H, hH⟩ : ∃ H, H = s.heap := ⟨_, rfl⟩
  obtain ⟨locs, hlocs⟩ : ∃ L : List Loc, L = [] := ⟨_, rfl⟩
  rw [← hH, ← hlocs] at hM ⊢
  unfold f_X7_mark at h
  refine lv_aload_n hx hb dX7_mark_0 rfl (lv_at hl 0 rfl) ?_
  obtain ⟨ok1, h⟩ := k_gd h
  refine gs_X7_18 E hM ok1 dX7_mark_1 (fun x2 hxx2 => ?_)
  replace h := k_bb h x2 hxx2.symm
  refine lv_iload_n hx hb dX7_mark_4 rfl (lv_at hl 1 rfl) ?_
  rcases x2 with _ | k3
  · cases h
  rw [cs_s] at h
  obtain ⟨ok4, h⟩ := k_gd h
  obtain ⟨w5, hzw5, h⟩ := k_bd h
  refine m_callV (C := RX0) (T := TX0) (N := 4) (ci := 0) (n := 1) (As := [.int p1]) (rest := []) (st1 := (rv sz w5 :: [])) E hM hl.1 ok4 (by decide) rfl rfl (c_X0_at l D cy sz H0 u k3 p1 hzw5) wl_X7_107 wm_X0_at ws_X0_at wi_X0 wd_X0_at rfl rfl (by decide +kernel) ⟨by decide, by decide⟩ rfl rfl (by first | exact Nat.le_of_ble_eq_true rfl | simp [rv_cat, cat_i, cat_l, cat_r, cat_n]) dX7_mark_5 ⟨by decide, by decide⟩ rfl (fun H locs hM => ?_)
  refine m_astore_n (i := 3) (lv' := [(3, rv sz w5), (0, .ref (sz + r)), (1, .int p1), (2, .int p2)]) hx hb dX7_mark_8 rfl hl (by decide) (by first | rfl | simp [rv_cat, cat_i, cat_l, cat_r, cat_n]) (fun ls hl => ?_)
  refine m_aload_n hx hb dX7_mark_9 rfl (lv_at hl 0 rfl) ?_
  rcases w5 with _ | k6
  · rw [cs_n] at h
    refine lv_ifnonnullN hx hb dX7_mark_10 ?_
    refine lv_aload_n hx hb dX7_mark_13 rfl (lv_at hl 1 rfl) ?_
    refine lv_iconst (v := 2) hx hb dX7_mark_14 (by decide) ?_
    obtain ⟨w7, hzw7, h⟩ := k_bd h
    refine m_callV (C := RX7) (T := TX7) (N := 8) (ci := 7) (n := 1) (As := [.int (2 : Int32)]) (rest := []) (st1 := (.int w7.1 :: [])) E hM hl.1 ok1 (by decide) rfl rfl (c_X7_deny l D cy sz H0 u r (2 : Int32) hzw7) wl_X7_63 wm_X7_deny ws_X7_deny wi_X7 wd_X7_deny rfl rfl (by decide +kernel) ⟨by decide, by decide⟩ rfl rfl (by first | exact Nat.le_of_ble_eq_true rfl | simp [rv_cat, cat_i, cat_l, cat_r, cat_n]) dX7_mark_15 ⟨by decide, by decide⟩ rfl (fun H locs hM => ?_)
    obtain ⟨hB8, h⟩ := k_gd h
    cases h
    exact m_zret hx hb hr hlk hM hB8 rfl rfl dX7_mark_18
  · rw [cs_s] at h
    refine lv_ifnonnull (tgt := 19) hx hb dX7_mark_10 (by decide) ?_
    refine lv_iload_n hx hb dX7_mark_19 rfl (lv_at hl 3 rfl) ?_
    refine lv_iconst (v := (-1)) hx hb dX7_mark_20 (by decide) ?_
    refine lv_sipush (v := 9999) hx hb dX7_mark_21 (by decide) ?_
    obtain ⟨w9, hzw9, h⟩ := k_bd h
    refine m_callS (n := 3) (As := [.int p2, .int (-1 : Int32), .int (9999 : Int32)]) (rest := []) (st1 := (.int w9 :: [])) E hM hl.1 (c_X7_within l D cy sz H0 u p2 (-1 : Int32) (9999 : Int32) hzw9) wl_X7_59 wst_X7_within wi_X7 wd_X7_within rfl rfl (by decide +kernel) ⟨by decide, by decide⟩ rfl rfl (by first | exact Nat.le_of_ble_eq_true rfl | simp [rv_cat, cat_i, cat_l, cat_r, cat_n]) dX7_mark_24 ⟨by decide, by decide⟩ rfl (fun H locs hM => ?_)
    refine lv_if_ne (tgt := 36) hx hb dX7_mark_27 (by decide) (fun c10 => ?_) (fun c10 => ?_)
    · replace h := (k_if h).2 c10
      refine lv_iload_n hx hb dX7_mark_36 rfl (lv_at hl 3 rfl) ?_
      refine lv_iconst (v := (-1)) hx hb dX7_mark_37 (by decide) ?_
      refine lv_icmp_eq (tgt := 60) hx hb dX7_mark_38 (by decide) (fun c11 => ?_) (fun c11 => ?_)
      · replace h := (k_if h).1 c11
        refine lv_aload_n hx hb dX7_mark_60 rfl (lv_at hl 0 rfl) ?_
        refine lv_iload_n hx hb dX7_mark_61 rfl (lv_at hl 3 rfl) ?_
        obtain ⟨ok12, h⟩ := k_gd h
        refine ps_X7_156 (v := p2) E hM ok12 dX7_mark_62 (fun H locs hM => ?_)
        refine lv_aload_n hx hb dX7_mark_65 rfl (lv_at hl 1 rfl) ?_
        obtain ⟨w13, hzw13, h⟩ := k_bd h
        refine m_callV (C := RX7) (T := TX7) (N := 8) (ci := 7) (n := 0) (As := []) (rest := []) (st1 := (.int w13.1 :: [])) E hM hl.1 ok1 (by decide) rfl rfl (c_X7_grant l D cy sz H0 (sI u k6 9 p2) r hzw13) wl_X7_71 wm_X7_grant ws_X7_grant wi_X7 wd_X7_grant rfl rfl (by decide +kernel) ⟨by decide, by decide⟩ rfl rfl (by first | exact Nat.le_of_ble_eq_true rfl | simp [rv_cat, cat_i, cat_l, cat_r, cat_n]) dX7_mark_66 ⟨by decide, by decide⟩ rfl (fun H locs hM => ?_)
        obtain ⟨hB14, h⟩ := k_gd h
        cases h
        exact m_zret hx hb hr hlk hM hB14 rfl rfl dX7_mark_69
      · replace h := (k_if h).2 c11
        refine lv_aload_n hx hb dX7_mark_41 rfl (lv_at hl 1 rfl) ?_
        refine gs_X7_18 E hM ok1 dX7_mark_42 (fun x15 hxx15 => ?_)
        replace h := k_bb h x15 hxx15.symm
        refine lv_iload_n hx hb dX7_mark_45 rfl (lv_at hl 3 rfl) ?_
        refine lv_aload_n hx hb dX7_mark_46 rfl (lv_at hl 0 rfl) ?_
        rcases x15 with _ | k16
        · cases h
        rw [cs_s] at h
        obtain ⟨ok17, h⟩ := k_gd h
        obtain ⟨w18, hzw18, h⟩ := k_bd h
        refine m_callV (C := RX0) (T := TX0) (N := 4) (ci := 0) (n := 2) (As := [.int p2, .ref (sz + k6)]) (rest := []) (st1 := (.int w18 :: [])) E hM hl.1 ok17 (by decide) rfl rfl (c_X0_isMarkOfAnother l D cy sz H0 u k16 p2 (some k6) hzw18) wl_X7_226 wm_X0_isMarkOfAnother ws_X0_isMarkOfAnother wi_X0 wd_X0_isMarkOfAnother rfl rfl (by decide +kernel) ⟨by decide, by decide⟩ rfl rfl (by first | exact Nat.le_of_ble_eq_true rfl | simp [rv_cat, cat_i, cat_l, cat_r, cat_n]) dX7_mark_47 ⟨by decide, by decide⟩ rfl (fun H locs hM => ?_)
        refine lv_if_eq (tgt := 60) hx hb dX7_mark_50 (by decide) (fun c19 => ?_) (fun c19 => ?_)
        · replace h := (k_if h).1 c19
          refine lv_aload_n hx hb dX7_mark_60 rfl (lv_at hl 0 rfl) ?_
          refine lv_iload_n hx hb dX7_mark_61 rfl (lv_at hl 3 rfl) ?_
          obtain ⟨ok20, h⟩ := k_gd h
          refine ps_X7_156 (v := p2) E hM ok20 dX7_mark_62 (fun H locs hM => ?_)
          refine lv_aload_n hx hb dX7_mark_65 rfl (lv_at hl 1 rfl) ?_
          obtain ⟨w21, hzw21, h⟩ := k_bd h
          refine m_callV (C := RX7) (T := TX7) (N := 8) (ci := 7) (n := 0) (As := []) (rest := []) (st1 := (.int w21.1 :: [])) E hM hl.1 ok1 (by decide) rfl rfl (c_X7_grant l D cy sz H0 (sI u k6 9 p2) r hzw21) wl_X7_71 wm_X7_grant ws_X7_grant wi_X7 wd_X7_grant rfl rfl (by decide +kernel) ⟨by decide, by decide⟩ rfl rfl (by first | exact Nat.le_of_ble_eq_true rfl | simp [rv_cat, cat_i, cat_l, cat_r, cat_n]) dX7_mark_66 ⟨by decide, by decide⟩ rfl (fun H locs hM => ?_)
          obtain ⟨hB22, h⟩ := k_gd h
          cases h
          exact m_zret hx hb hr hlk hM hB22 rfl rfl dX7_mark_69
        · replace h := (k_if h).2 c19
          refine lv_aload_n hx hb dX7_mark_53 rfl (lv_at hl 1 rfl) ?_
          refine lv_bipush (v := 10) hx hb dX7_mark_54 (by decide) ?_
          obtain ⟨w23, hzw23, h⟩ := k_bd h
          refine m_callV (C := RX7) (T := TX7) (N := 8) (ci := 7) (n := 1) (As := [.int (10 : Int32)]) (rest := []) (st1 := (.int w23.1 :: [])) E hM hl.1 ok1 (by decide) rfl rfl (c_X7_deny l D cy sz H0 u r (10 : Int32) hzw23) wl_X7_63 wm_X7_deny ws_X7_deny wi_X7 wd_X7_deny rfl rfl (by decide +kernel) ⟨by decide, by decide⟩ rfl rfl (by first | exact Nat.le_of_ble_eq_true rfl | simp [rv_cat, cat_i, cat_l, cat_r, cat_n]) dX7_mark_56 ⟨by decide, by decide⟩ rfl (fun H locs hM => ?_)
          obtain ⟨hB24, h⟩ := k_gd h
          cases h
          exact m_zret hx hb hr hlk hM hB24 rfl rfl dX7_mark_59
    · replace h := (k_if h).1 c10
      refine lv_aload_n hx hb dX7_mark_30 rfl (lv_at hl 1 rfl) ?_
      refine lv_iconst (v := 5) hx hb dX7_mark_31 (by decide) ?_
      obtain ⟨w25, hzw25, h⟩ := k_bd h
      refine m_callV (C := RX7) (T := TX7) (N := 8) (ci := 7) (n := 1) (As := [.int (5 : Int32)]) (rest := []) (st1 := (.int w25.1 :: [])) E hM hl.1 ok1 (by decide) rfl rfl (c_X7_deny l D cy sz H0 u r (5 : Int32) hzw25) wl_X7_63 wm_X7_deny ws_X7_deny wi_X7 wd_X7_deny rfl rfl (by decide +kernel) ⟨by decide, by decide⟩ rfl rfl (by first | exact Nat.le_of_ble_eq_true rfl | simp [rv_cat, cat_i, cat_l, cat_r, cat_n]) dX7_mark_32 ⟨by decide, by decide⟩ rfl (fun H locs hM => ?_)
      obtain ⟨hB26, h⟩ := k_gd h
      cases h
      exact m_zret hx hb hr hlk hM hB26 rfl rfl dX7_mark_35

abbrev rm_X7_walk : Room := { frames := 3, cells := 0, slots := 0, locals := 108 }
def f_X7_walk (r : Nat) (p1 : Int32) (p2 : Int32) (p3 : Int32) (u : Mm) : Option ((Int32) × Mm) := bd (f_X7_isPerson p2 u) (fun w1 => (if w1 = 0 then gd (okO u r 7) (bd (f_X7_refuse r (2 : Int32) u) (fun w31 => some (w31.1, w31.2))) else (if p1 < 0 then gd (okO u r 7) (bd (f_X7_refuse r (5 : Int32) u) (fun w5 => some (w5.1, w5.2))) else bd (f_X7_isDay p3 u) (fun w6 => (if w6 = 0 then gd (okO u r 7) (bd (f_X7_refuse r (5 : Int32) u) (fun w29 => some (w29.1, w29.2))) else gd (okO u r 7) (bb (gR u r 1) (fun x9 => cs x9 none (fun k10 => gd (okO u k10 0) (bd (f_X0_lineUpByMark k10 p2 p3 u) (fun w12 => bb (w12.1) (fun v13 => (if v13 ≤ p1 then gd (okO w12.2 r 7) (bd (f_X7_refuse r (9 : Int32) w12.2) (fun w16 => some (w16.1, w16.2))) else gd (okO w12.2 r 7) (bb (gR w12.2 r 1) (fun x18 => cs x18 none (fun k19 => gd (okO w12.2 k19 0) (bb (gR w12.2 k19 2) (fun x21 => cs x21 none (fun k22 => gd (okA w12.2 k22 12 p1) (bb (gR w12.2 k22 (Int32.toNatClampNeg p1)) (fun x24 => cs x24 none (fun k25 => gd (okO w12.2 k25 5) (bd (f_X7_answer r (gI w12.2 k25 0) w12.2) (fun w27 => some (w27.1, w27.2))))))))))))))))))))))))
set_option maxHeartbeats 4000000 in
set_option maxRecDepth 100000 in
theorem c_X7_walk (l : Launch) (D : va_G) (cy : Nat → ClassId) (sz : Nat) (H0 : Heap) (u : Mm) (r : Nat) (p1 : Int32) (p2 : Int32) (p3 : Int32) {res : (Int32) × Mm} (h : f_X7_walk r p1 p2 p3 u = some res) : Ctr l yX7_walk cX7_walk 5 (some .int) rm_X7_walk 0 0 D cy sz H0 u [.ref (sz + r), .int p1, .int p2, .int p3] (some (.int res.1)) res.2 := by
  refine m_start (lv := [(0, .ref (sz + r)), (1, .int p1), (2, .int p2), (3, .int p3)]) (by decide) (by first | exact Nat.le_of_ble_eq_true rfl | simp [lg_sl, rv_cat, cat_i, cat_l, cat_r, cat_n]) (by first | rfl | simp [lv_args, rv_cat, cat_i, cat_l, cat_r, cat_n]) ?_
  intro p e s m below meth c ls E hr hlk hinit hM hl
  obtain ⟨hx, hb, hml, hown, hts, hKK⟩ := id E
  obtain ⟨H, hH⟩ : ∃ H, H = s.heap := ⟨_, rfl⟩
  obtain ⟨locs, hlocs⟩ : ∃ L : List Loc, L = [] := ⟨_, rfl⟩
  rw [← hH, ← hlocs] at hM ⊢
  unfold f_X7_walk at h
  refine lv_iload_n hx hb dX7_walk_0 rfl (lv_at hl 2 rfl) ?_
  obtain ⟨w1, hzw1, h⟩ := k_bd h
  refine m_callS (n := 1) (As := [.int p2]) (rest := []) (st1 := (.int w1 :: [])) E hM hl.1 (c_X7_isPerson l D cy sz H0 u p2 hzw1) wl_X7_199 wst_X7_isPerson wi_X7 wd_X7_isPerson rfl rfl (by decide +kernel) ⟨by decide, by decide⟩ rfl rfl (by first | exact Nat.le_of_ble_eq_true rfl | simp [rv_cat, cat_i, cat_l, cat_r, cat_n]) dX7_walk_1 ⟨by decide, by decide⟩ rfl (fun H locs hM => ?_)
  refine lv_if_ne (tgt := 13) hx hb dX7_walk_4 (by decide) (fun c2 => ?_) (fun c2 => ?_)
  · replace h := (k_if h).2 c2
    refine lv_iload_n hx hb dX7_walk_13 rfl (lv_at hl 1 rfl) ?_
    refine lv_if_lt (tgt := 24) hx hb dX7_walk_14 (by decide) (fun c3 => ?_) (fun c3 => ?_)
    · replace h := (k_if h).1 c3
      refine lv_aload_n hx hb dX7_walk_24 rfl (lv_at hl 0 rfl) ?_
      refine lv_iconst (v := 5) hx hb dX7_walk_25 (by decide) ?_
      obtain ⟨ok4, h⟩ := k_gd h
      obtain ⟨w5, hzw5, h⟩ := k_bd h
      refine m_callV (C := RX7) (T := TX7) (N := 8) (ci := 7) (n := 1) (As := [.int (5 : Int32)]) (rest := []) (st1 := (.int w5.1 :: [])) E hM hl.1 ok4 (by decide) rfl rfl (c_X7_refuse l D cy sz H0 u r (5 : Int32) hzw5) wl_X7_83 wm_X7_refuse ws_X7_refuse wi_X7 wd_X7_refuse rfl rfl (by decide +kernel) ⟨by decide, by decide⟩ rfl rfl (by first | exact Nat.le_of_ble_eq_true rfl | simp [rv_cat, cat_i, cat_l, cat_r, cat_n]) dX7_walk_26 ⟨by decide, by decide⟩ rfl (fun H locs hM => ?_)
      cases h
      exact m_iret hx hb hr hlk hM rfl rfl dX7_walk_29
    · replace h := (k_if h).2 c3
      refine lv_iload_n hx hb dX7_walk_17 rfl (lv_at hl 3 rfl) ?_
      obtain ⟨w6, hzw6, h⟩ := k_bd h
      refine m_callS (n := 1) (As := [.int p3]) (rest := []) (st1 := (.int w6 :: [])) E hM hl.1 (c_X7_isDay l D cy sz H0 u p3 hzw6) wl_X7_202 wst_X7_isDay wi_X7 wd_X7_isDay rfl rfl (by decide +kernel) ⟨by decide, by decide⟩ rfl rfl (by first | exact Nat.le_of_ble_eq_true rfl | simp [rv_cat, cat_i, cat_l, cat_r, cat_n]) dX7_walk_18 ⟨by decide, by decide⟩ rfl (fun H locs hM => ?_)
      refine lv_if_ne (tgt := 30) hx hb dX7_walk_21 (by decide) (fun c7 => ?_) (fun c7 => ?_)
      · replace h := (k_if h).2 c7
        refine lv_aload_n hx hb dX7_walk_30 rfl (lv_at hl 0 rfl) ?_
        obtain ⟨ok8, h⟩ := k_gd h
        refine gs_X7_18 E hM ok8 dX7_walk_31 (fun x9 hxx9 => ?_)
        replace h := k_bb h x9 hxx9.symm
        refine lv_iload_n hx hb dX7_walk_34 rfl (lv_at hl 2 rfl) ?_
        refine lv_iload_n hx hb dX7_walk_35 rfl (lv_at hl 3 rfl) ?_
        rcases x9 with _ | k10
        · cases h
        rw [cs_s] at h
        obtain ⟨ok11, h⟩ := k_gd h
        obtain ⟨w12, hzw12, h⟩ := k_bd h
        refine m_callV (C := RX0) (T := TX0) (N := 4) (ci := 0) (n := 2) (As := [.int p2, .int p3]) (rest := []) (st1 := (.int w12.1 :: [])) E hM hl.1 ok11 (by decide) rfl rfl (c_X0_lineUpByMark l D cy sz H0 u k10 p2 p3 hzw12) wl_X7_230 wm_X0_lineUpByMark ws_X0_lineUpByMark wi_X0 wd_X0_lineUpByMark rfl rfl (by decide +kernel) ⟨by decide, by decide⟩ rfl rfl (by first | exact Nat.le_of_ble_eq_true rfl | simp [rv_cat, cat_i, cat_l, cat_r, cat_n]) dX7_walk_36 ⟨by decide, by decide⟩ rfl (fun H locs hM => ?_)
        refine lv_topi (fun v13 hvv13 => ?_)
        replace h := k_bb h v13 hvv13
        refine lv_istore (i := 4) (lv' := [(4, .int v13), (0, .ref (sz + r)), (1, .int p1), (2, .int p2), (3, .int p3)]) hx hb dX7_walk_39 hl (by decide) (by first | rfl | simp [rv_cat, cat_i, cat_l, cat_r, cat_n]) (fun ls hl => ?_)
        refine lv_iload_n hx hb dX7_walk_41 rfl (lv_at hl 2 rfl) ?_
        refine lv_iload hx hb dX7_walk_42 (lv_at hl 0 rfl) ?_
        refine lv_icmp_ge (tgt := 66) hx hb dX7_walk_44 (by decide) (fun c14 => ?_) (fun c14 => ?_)
        · replace h := (k_if h).1 c14
          refine lv_aload_n hx hb dX7_walk_66 rfl (lv_at hl 1 rfl) ?_
          refine lv_bipush (v := 9) hx hb dX7_walk_67 (by decide) ?_
          obtain ⟨ok15, h⟩ := k_gd h
          obtain ⟨w16, hzw16, h⟩ := k_bd h
          refine m_callV (C := RX7) (T := TX7) (N := 8) (ci := 7) (n := 1) (As := [.int (9 : Int32)]) (rest := []) (st1 := (.int w16.1 :: [])) E hM hl.1 ok15 (by decide) rfl rfl (c_X7_refuse l D cy sz H0 w12.2 r (9 : Int32) hzw16) wl_X7_83 wm_X7_refuse ws_X7_refuse wi_X7 wd_X7_refuse rfl rfl (by decide +kernel) ⟨by decide, by decide⟩ rfl rfl (by first | exact Nat.le_of_ble_eq_true rfl | simp [rv_cat, cat_i, cat_l, cat_r, cat_n]) dX7_walk_69 ⟨by decide, by decide⟩ rfl (fun H locs hM => ?_)
          cases h
          exact m_iret hx hb hr hlk hM rfl rfl dX7_walk_72
        · replace h := (k_if h).2 c14
          refine lv_aload_n hx hb dX7_walk_47 rfl (lv_at hl 1 rfl) ?_
          refine lv_aload_n hx hb dX7_walk_48 rfl (lv_at hl 1 rfl) ?_
          obtain ⟨ok17, h⟩ := k_gd h
          refine gs_X7_18 E hM ok17 dX7_walk_49 (fun x18 hxx18 => ?_)
          replace h := k_bb h x18 hxx18.symm
          rcases x18 with _ | k19
          · cases h
          rw [cs_s] at h
          obtain ⟨ok20, h⟩ := k_gd h
          refine gs_X7_234 E hM ok20 dX7_walk_52 (fun x21 hxx21 => ?_)
          replace h := k_bb h x21 hxx21.symm
          refine lv_iload_n hx hb dX7_walk_55 rfl (lv_at hl 2 rfl) ?_
          rcases x21 with _ | k22
          · cases h
          rw [cs_s] at h
          obtain ⟨ok23, h⟩ := k_gd h
          refine m_aald (sh := 12) (tp := 3) (by decide) rfl rfl E hM ok23 dX7_walk_56 (fun x24 hxx24 => ?_)
          replace h := k_bb h x24 hxx24.symm
          rcases x24 with _ | k25
          · cases h
          rw [cs_s] at h
          obtain ⟨ok26, h⟩ := k_gd h
          refine gs_X7_133 E hM ok26 dX7_walk_57 ?_
          obtain ⟨w27, hzw27, h⟩ := k_bd h
          refine m_callV (C := RX7) (T := TX7) (N := 8) (ci := 7) (n := 1) (As := [.int (gI w12.2 k25 0)]) (rest := []) (st1 := (.int w27.1 :: [])) E hM hl.1 ok17 (by decide) rfl rfl (c_X7_answer l D cy sz H0 w12.2 r (gI w12.2 k25 0) hzw27) wl_X7_126 wm_X7_answer ws_X7_answer wi_X7 wd_X7_answer rfl rfl (by decide +kernel) ⟨by decide, by decide⟩ rfl rfl (by first | exact Nat.le_of_ble_eq_true rfl | simp [rv_cat, cat_i, cat_l, cat_r, cat_n]) dX7_walk_60 ⟨by decide, by decide⟩ rfl (fun H locs hM => ?_)
          refine lv_goto (tgt := 72) hx hb dX7_walk_63 (by decide) ?_
          cases h
          exact m_iret hx hb hr hlk hM rfl rfl dX7_walk_72
      · replace h := (k_if h).1 c7
        refine lv_aload_n hx hb dX7_walk_24 rfl (lv_at hl 0 rfl) ?_
        refine lv_iconst (v := 5) hx hb dX7_walk_25 (by decide) ?_
        obtain ⟨ok28, h⟩ := k_gd h
        obtain ⟨w29, hzw29, h⟩ := k_bd h
        refine m_callV (C := RX7) (T := TX7) (N := 8) (ci := 7) (n := 1) (As := [.int (5 : Int32)]) (rest := []) (st1 := (.int w29.1 :: [])) E hM hl.1 ok28 (by decide) rfl rfl (c_X7_refuse l D cy sz H0 u r (5 : Int32) hzw29) wl_X7_83 wm_X7_refuse ws_X7_refuse wi_X7 wd_X7_refuse rfl rfl (by decide +kernel) ⟨by decide, by decide⟩ rfl rfl (by first | exact Nat.le_of_ble_eq_true rfl | simp [rv_cat, cat_i, cat_l, cat_r, cat_n]) dX7_walk_26 ⟨by decide, by decide⟩ rfl (fun H locs hM => ?_)
        cases h
        exact m_iret hx hb hr hlk hM rfl rfl dX7_walk_29
  · replace h := (k_if h).1 c2
    refine lv_aload_n hx hb dX7_walk_7 rfl (lv_at hl 0 rfl) ?_
    refine lv_iconst (v := 2) hx hb dX7_walk_8 (by decide) ?_
    obtain ⟨ok30, h⟩ := k_gd h
    obtain ⟨w31, hzw31, h⟩ := k_bd h
    refine m_callV (C := RX7) (T := TX7) (N := 8) (ci := 7) (n := 1) (As := [.int (2 : Int32)]) (rest := []) (st1 := (.int w31.1 :: [])) E hM hl.1 ok30 (by decide) rfl rfl (c_X7_refuse l D cy sz H0 u r (2 : Int32) hzw31) wl_X7_83 wm_X7_refuse ws_X7_refuse wi_X7 wd_X7_refuse rfl rfl (by decide +kernel) ⟨by decide, by decide⟩ rfl rfl (by first | exact Nat.le_of_ble_eq_true rfl | simp [rv_cat, cat_i, cat_l, cat_r, cat_n]) dX7_walk_9 ⟨by decide, by decide⟩ rfl (fun H locs hM => ?_)
    cases h
    exact m_iret hx hb hr hlk hM rfl rfl dX7_walk_12

abbrev rm_X7_fetch : Room := { frames := 2, cells := 0, slots := 0, locals := 72 }
def f_X7_fetch (r : Nat) (p1 : Int32) (p2 : Int32) (p3 : Int32) (u : Mm) : Option ((Int32) × Mm) := gd (okO u r 7) (bb (gR u r 1) (fun x2 => cs x2 none (fun k3 => gd (okO u k3 0) (bd (f_X0_at k3 p1 u) (fun w5 => cs w5 (bd (f_X7_deny r (2 : Int32) u) (fun w7 => gd (isB w7.1) (some (w7.1, w7.2)))) (fun k6 => bd (f_X7_isPerson p2 u) (fun w9 => (if w9 = 0 then bd (f_X7_deny r (2 : Int32) u) (fun w32 => gd (isB w32.1) (some (w32.1, w32.2))) else bb (gR u r 2) (fun x11 => cs x11 none (fun k12 => gd (okO u k12 2) (bd (f_X2_whyNot k12 p3 u) (fun w14 => (if w14 = 0 then bb (gR u r 2) (fun x16 => cs x16 none (fun k17 => gd (okO u k17 2) (bd (f_X2_holder k17 p1 p3 u) (fun w19 => (if w19 = (-1 : Int32) then bb (gR u r 2) (fun x21 => cs x21 none (fun k22 => gd (okO u k22 2) (bd (f_X2_append k22 p1 p2 p3 u) (fun w24 => gd (okO w24 r 7) (bd (f_X7_grant r w24) (fun w26 => gd (isB w26.1) (some (w26.1, w26.2)))))))) else bd (f_X7_deny r (10 : Int32) u) (fun w28 => gd (isB w28.1) (some (w28.1, w28.2)))))))) else bd (f_X7_deny r w14 u) (fun w30 => gd (isB w30.1) (some (w30.1, w30.2))))))))))))))))
set_option maxHeartbeats 4000000 in
set_option maxRecDepth 100000 in
theorem c_X7_fetch (l : Launch) (D : va_G) (cy : Nat → ClassId) (sz : Nat) (H0 : Heap) (u : Mm) (r : Nat) (p1 : Int32) (p2 : Int32) (p3 : Int32) {res : (Int32) × Mm} (h : f_X7_fetch r p1 p2 p3 u = some res) : Ctr l yX7_fetch cX7_fetch 5 (some .boolean) rm_X7_fetch 0 0 D cy sz H0 u [.ref (sz + r), .int p1, .int p2, .int p3] (some (.int res.1)) res.2 := by
  refine m_start (lv := [(0, .ref (sz + r)), (1, .int p1), (2, .int p2), (3, .int p3)]) (by decide) (by first | exact Nat.le_of_ble_eq_true rfl | simp [lg_sl, rv_cat, cat_i, cat_l, cat_r, cat_n]) (by first | rfl | simp [lv_args, rv_cat, cat_i, cat_l, cat_r, cat_n]) ?_
  intro p e s m below meth c ls E hr hlk hinit hM hl
  obtain ⟨hx, hb, hml, hown, hts, hKK⟩ := id E
  obtain ⟨H, hH⟩ : ∃ H, H = s.heap := ⟨_, rfl⟩
  obtain ⟨locs, hlocs⟩ : ∃ L : List Loc, L = [] := ⟨_, rfl⟩
  rw [← hH, ← hlocs] at hM ⊢
  unfold f_X7_fetch at h
  refine lv_aload_n hx hb dX7_fetch_0 rfl (lv_at hl 0 rfl) ?_
  obtain ⟨ok1, h⟩ := k_gd h
  refine gs_X7_18 E hM ok1 dX7_fetch_1 (fun x2 hxx2 => ?_)
  replace h := k_bb h x2 hxx2.symm
  refine lv_iload_n hx hb dX7_fetch_4 rfl (lv_at hl 1 rfl) ?_
  rcases x2 with _ | k3
  · cases h
  rw [cs_s] at h
  obtain ⟨ok4, h⟩ := k_gd h
  obtain ⟨w5, hzw5, h⟩ := k_bd h
  refine m_callV (C := RX0) (T := TX0) (N := 4) (ci := 0) (n := 1) (As := [.int p1]) (rest := []) (st1 := (rv sz w5 :: [])) E hM hl.1 ok4 (by decide) rfl rfl (c_X0_at l D cy sz H0 u k3 p1 hzw5) wl_X7_107 wm_X0_at ws_X0_at wi_X0 wd_X0_at rfl rfl (by decide +kernel) ⟨by decide, by decide⟩ rfl rfl (by first | exact Nat.le_of_ble_eq_true rfl | simp [rv_cat, cat_i, cat_l, cat_r, cat_n]) dX7_fetch_5 ⟨by decide, by decide⟩ rfl (fun H locs hM => ?_)
  rcases w5 with _ | k6
  · rw [cs_n] at h
    refine lv_ifnullN (tgt := 18) hx hb dX7_fetch_8 (by decide) ?_
    refine lv_aload_n hx hb dX7_fetch_18 rfl (lv_at hl 0 rfl) ?_
    refine lv_iconst (v := 2) hx hb dX7_fetch_19 (by decide) ?_
    obtain ⟨w7, hzw7, h⟩ := k_bd h
    refine m_callV (C := RX7) (T := TX7) (N := 8) (ci := 7) (n := 1) (As := [.int (2 : Int32)]) (rest := []) (st1 := (.int w7.1 :: [])) E hM hl.1 ok1 (by decide) rfl rfl (c_X7_deny l D cy sz H0 u r (2 : Int32) hzw7) wl_X7_63 wm_X7_deny ws_X7_deny wi_X7 wd_X7_deny rfl rfl (by decide +kernel) ⟨by decide, by decide⟩ rfl rfl (by first | exact Nat.le_of_ble_eq_true rfl | simp [rv_cat, cat_i, cat_l, cat_r, cat_n]) dX7_fetch_20 ⟨by decide, by decide⟩ rfl (fun H locs hM => ?_)
    obtain ⟨hB8, h⟩ := k_gd h
    cases h
    exact m_zret hx hb hr hlk hM hB8 rfl rfl dX7_fetch_23
  · rw [cs_s] at h
    refine lv_ifnull hx hb dX7_fetch_8 ?_
    refine lv_iload_n hx hb dX7_fetch_11 rfl (lv_at hl 2 rfl) ?_
    obtain ⟨w9, hzw9, h⟩ := k_bd h
    refine m_callS (n := 1) (As := [.int p2]) (rest := []) (st1 := (.int w9 :: [])) E hM hl.1 (c_X7_isPerson l D cy sz H0 u p2 hzw9) wl_X7_199 wst_X7_isPerson wi_X7 wd_X7_isPerson rfl rfl (by decide +kernel) ⟨by decide, by decide⟩ rfl rfl (by first | exact Nat.le_of_ble_eq_true rfl | simp [rv_cat, cat_i, cat_l, cat_r, cat_n]) dX7_fetch_12 ⟨by decide, by decide⟩ rfl (fun H locs hM => ?_)
    refine lv_if_ne (tgt := 24) hx hb dX7_fetch_15 (by decide) (fun c10 => ?_) (fun c10 => ?_)
    · replace h := (k_if h).2 c10
      refine lv_aload_n hx hb dX7_fetch_24 rfl (lv_at hl 0 rfl) ?_
      refine gs_X7_25 E hM ok1 dX7_fetch_25 (fun x11 hxx11 => ?_)
      replace h := k_bb h x11 hxx11.symm
      refine lv_iload_n hx hb dX7_fetch_28 rfl (lv_at hl 3 rfl) ?_
      rcases x11 with _ | k12
      · cases h
      rw [cs_s] at h
      obtain ⟨ok13, h⟩ := k_gd h
      obtain ⟨w14, hzw14, h⟩ := k_bd h
      refine m_callV (C := RX2) (T := TX2) (N := 4) (ci := 2) (n := 1) (As := [.int p3]) (rest := []) (st1 := (.int w14 :: [])) E hM hl.1 ok13 (by decide) rfl rfl (c_X2_whyNot l D cy sz H0 u k12 p3 hzw14) wl_X7_237 wm_X2_whyNot ws_X2_whyNot wi_X2 wd_X2_whyNot rfl rfl (by decide +kernel) ⟨by decide, by decide⟩ rfl rfl (by first | exact Nat.le_of_ble_eq_true rfl | simp [rv_cat, cat_i, cat_l, cat_r, cat_n]) dX7_fetch_29 ⟨by decide, by decide⟩ rfl (fun H locs hM => ?_)
      refine lv_istore (i := 4) (lv' := [(4, .int w14), (0, .ref (sz + r)), (1, .int p1), (2, .int p2), (3, .int p3)]) hx hb dX7_fetch_32 hl (by decide) (by first | rfl | simp [rv_cat, cat_i, cat_l, cat_r, cat_n]) (fun ls hl => ?_)
      refine lv_iload hx hb dX7_fetch_34 (lv_at hl 0 rfl) ?_
      refine lv_if_eq (tgt := 46) hx hb dX7_fetch_36 (by decide) (fun c15 => ?_) (fun c15 => ?_)
      · replace h := (k_if h).1 c15
        refine lv_aload_n hx hb dX7_fetch_46 rfl (lv_at hl 1 rfl) ?_
        refine gs_X7_25 E hM ok1 dX7_fetch_47 (fun x16 hxx16 => ?_)
        replace h := k_bb h x16 hxx16.symm
        refine lv_iload_n hx hb dX7_fetch_50 rfl (lv_at hl 2 rfl) ?_
        refine lv_iload_n hx hb dX7_fetch_51 rfl (lv_at hl 4 rfl) ?_
        rcases x16 with _ | k17
        · cases h
        rw [cs_s] at h
        obtain ⟨ok18, h⟩ := k_gd h
        obtain ⟨w19, hzw19, h⟩ := k_bd h
        refine m_callV (C := RX2) (T := TX2) (N := 4) (ci := 2) (n := 2) (As := [.int p1, .int p3]) (rest := []) (st1 := (.int w19 :: [])) E hM hl.1 ok18 (by decide) rfl rfl (c_X2_holder l D cy sz H0 u k17 p1 p3 hzw19) wl_X7_240 wm_X2_holder ws_X2_holder wi_X2 wd_X2_holder rfl rfl (by decide +kernel) ⟨by decide, by decide⟩ rfl rfl (by first | exact Nat.le_of_ble_eq_true rfl | simp [rv_cat, cat_i, cat_l, cat_r, cat_n]) dX7_fetch_52 ⟨by decide, by decide⟩ rfl (fun H locs hM => ?_)
        refine lv_iconst (v := (-1)) hx hb dX7_fetch_55 (by decide) ?_
        refine lv_icmp_eq (tgt := 66) hx hb dX7_fetch_56 (by decide) (fun c20 => ?_) (fun c20 => ?_)
        · replace h := (k_if h).1 c20
          refine lv_aload_n hx hb dX7_fetch_66 rfl (lv_at hl 1 rfl) ?_
          refine gs_X7_25 E hM ok1 dX7_fetch_67 (fun x21 hxx21 => ?_)
          replace h := k_bb h x21 hxx21.symm
          refine lv_iload_n hx hb dX7_fetch_70 rfl (lv_at hl 2 rfl) ?_
          refine lv_iload_n hx hb dX7_fetch_71 rfl (lv_at hl 3 rfl) ?_
          refine lv_iload_n hx hb dX7_fetch_72 rfl (lv_at hl 4 rfl) ?_
          rcases x21 with _ | k22
          · cases h
          rw [cs_s] at h
          obtain ⟨ok23, h⟩ := k_gd h
          obtain ⟨w24, hzw24, h⟩ := k_bd h
          refine m_callV (C := RX2) (T := TX2) (N := 4) (ci := 2) (n := 3) (As := [.int p1, .int p2, .int p3]) (rest := []) (st1 := []) E hM hl.1 ok23 (by decide) rfl rfl (c_X2_append l D cy sz H0 u k22 p1 p2 p3 hzw24) wl_X7_243 wm_X2_append ws_X2_append wi_X2 wd_X2_append rfl rfl (by decide +kernel) ⟨by decide, by decide⟩ rfl rfl (by first | exact Nat.le_of_ble_eq_true rfl | simp [rv_cat, cat_i, cat_l, cat_r, cat_n]) dX7_fetch_73 ⟨by decide, by decide⟩ rfl (fun H locs hM => ?_)
          refine lv_aload_n hx hb dX7_fetch_76 rfl (lv_at hl 1 rfl) ?_
          obtain ⟨ok25, h⟩ := k_gd h
          obtain ⟨w26, hzw26, h⟩ := k_bd h
          refine m_callV (C := RX7) (T := TX7) (N := 8) (ci := 7) (n := 0) (As := []) (rest := []) (st1 := (.int w26.1 :: [])) E hM hl.1 ok25 (by decide) rfl rfl (c_X7_grant l D cy sz H0 w24 r hzw26) wl_X7_71 wm_X7_grant ws_X7_grant wi_X7 wd_X7_grant rfl rfl (by decide +kernel) ⟨by decide, by decide⟩ rfl rfl (by first | exact Nat.le_of_ble_eq_true rfl | simp [rv_cat, cat_i, cat_l, cat_r, cat_n]) dX7_fetch_77 ⟨by decide, by decide⟩ rfl (fun H locs hM => ?_)
          obtain ⟨hB27, h⟩ := k_gd h
          cases h
          exact m_zret hx hb hr hlk hM hB27 rfl rfl dX7_fetch_80
        · replace h := (k_if h).2 c20
          refine lv_aload_n hx hb dX7_fetch_59 rfl (lv_at hl 1 rfl) ?_
          refine lv_bipush (v := 10) hx hb dX7_fetch_60 (by decide) ?_
          obtain ⟨w28, hzw28, h⟩ := k_bd h
          refine m_callV (C := RX7) (T := TX7) (N := 8) (ci := 7) (n := 1) (As := [.int (10 : Int32)]) (rest := []) (st1 := (.int w28.1 :: [])) E hM hl.1 ok1 (by decide) rfl rfl (c_X7_deny l D cy sz H0 u r (10 : Int32) hzw28) wl_X7_63 wm_X7_deny ws_X7_deny wi_X7 wd_X7_deny rfl rfl (by decide +kernel) ⟨by decide, by decide⟩ rfl rfl (by first | exact Nat.le_of_ble_eq_true rfl | simp [rv_cat, cat_i, cat_l, cat_r, cat_n]) dX7_fetch_62 ⟨by decide, by decide⟩ rfl (fun H locs hM => ?_)
          obtain ⟨hB29, h⟩ := k_gd h
          cases h
          exact m_zret hx hb hr hlk hM hB29 rfl rfl dX7_fetch_65
      · replace h := (k_if h).2 c15
        refine lv_aload_n hx hb dX7_fetch_39 rfl (lv_at hl 1 rfl) ?_
        refine lv_iload hx hb dX7_fetch_40 (lv_at hl 0 rfl) ?_
        obtain ⟨w30, hzw30, h⟩ := k_bd h
        refine m_callV (C := RX7) (T := TX7) (N := 8) (ci := 7) (n := 1) (As := [.int w14]) (rest := []) (st1 := (.int w30.1 :: [])) E hM hl.1 ok1 (by decide) rfl rfl (c_X7_deny l D cy sz H0 u r w14 hzw30) wl_X7_63 wm_X7_deny ws_X7_deny wi_X7 wd_X7_deny rfl rfl (by decide +kernel) ⟨by decide, by decide⟩ rfl rfl (by first | exact Nat.le_of_ble_eq_true rfl | simp [rv_cat, cat_i, cat_l, cat_r, cat_n]) dX7_fetch_42 ⟨by decide, by decide⟩ rfl (fun H locs hM => ?_)
        obtain ⟨hB31, h⟩ := k_gd h
        cases h
        exact m_zret hx hb hr hlk hM hB31 rfl rfl dX7_fetch_45
    · replace h := (k_if h).1 c10
      refine lv_aload_n hx hb dX7_fetch_18 rfl (lv_at hl 0 rfl) ?_
      refine lv_iconst (v := 2) hx hb dX7_fetch_19 (by decide) ?_
      obtain ⟨w32, hzw32, h⟩ := k_bd h
      refine m_callV (C := RX7) (T := TX7) (N := 8) (ci := 7) (n := 1) (As := [.int (2 : Int32)]) (rest := []) (st1 := (.int w32.1 :: [])) E hM hl.1 ok1 (by decide) rfl rfl (c_X7_deny l D cy sz H0 u r (2 : Int32) hzw32) wl_X7_63 wm_X7_deny ws_X7_deny wi_X7 wd_X7_deny rfl rfl (by decide +kernel) ⟨by decide, by decide⟩ rfl rfl (by first | exact Nat.le_of_ble_eq_true rfl | simp [rv_cat, cat_i, cat_l, cat_r, cat_n]) dX7_fetch_20 ⟨by decide, by decide⟩ rfl (fun H locs hM => ?_)
      obtain ⟨hB33, h⟩ := k_gd h
      cases h
      exact m_zret hx hb hr hlk hM hB33 rfl rfl dX7_fetch_23

abbrev rm_X7_back : Room := { frames := 2, cells := 0, slots := 0, locals := 72 }
def f_X7_back (r : Nat) (p1 : Int32) (p2 : Int32) (u : Mm) : Option ((Int32) × Mm) := gd (okO u r 7) (bb (gR u r 1) (fun x2 => cs x2 none (fun k3 => gd (okO u k3 0) (bd (f_X0_at k3 p1 u) (fun w5 => cs w5 (bd (f_X7_deny r (2 : Int32) u) (fun w7 => gd (isB w7.1) (some (w7.1, w7.2)))) (fun k6 => bb (gR u r 2) (fun x9 => cs x9 none (fun k10 => gd (okO u k10 2) (bd (f_X2_whyNot k10 p2 u) (fun w12 => (if w12 = 0 then bb (gR u r 2) (fun x14 => cs x14 none (fun k15 => gd (okO u k15 2) (bd (f_X2_holder k15 p1 p2 u) (fun w17 => (if w17 = (-1 : Int32) then bd (f_X7_deny r (10 : Int32) u) (fun w26 => gd (isB w26.1) (some (w26.1, w26.2))) else bb (gR u r 2) (fun x19 => cs x19 none (fun k20 => gd (okO u k20 2) (bd (f_X2_append k20 p1 (-1 : Int32) p2 u) (fun w22 => gd (okO w22 r 7) (bd (f_X7_grant r w22) (fun w24 => gd (isB w24.1) (some (w24.1, w24.2))))))))))))) else bd (f_X7_deny r w12 u) (fun w28 => gd (isB w28.1) (some (w28.1, w28.2))))))))))))))
set_option maxHeartbeats 4000000 in
set_option maxRecDepth 100000 in
theorem c_X7_back (l : Launch) (D : va_G) (cy : Nat → ClassId) (sz : Nat) (H0 : Heap) (u : Mm) (r : Nat) (p1 : Int32) (p2 : Int32) {res : (Int32) × Mm} (h : f_X7_back r p1 p2 u = some res) : Ctr l yX7_back cX7_back 4 (some .boolean) rm_X7_back 0 0 D cy sz H0 u [.ref (sz + r), .int p1, .int p2] (some (.int res.1)) res.2 := by
  refine m_start (lv := [(0, .ref (sz + r)), (1, .int p1), (2, .int p2)]) (by decide) (by first | exact Nat.le_of_ble_eq_true rfl | simp [lg_sl, rv_cat, cat_i, cat_l, cat_r, cat_n]) (by first | rfl | simp [lv_args, rv_cat, cat_i, cat_l, cat_r, cat_n]) ?_
  intro p e s m below meth c ls E hr hlk hinit hM hl
  obtain ⟨hx, hb, hml, hown, hts, hKK⟩ := id E
  obtain ⟨H, hH⟩ : ∃ H, H = s.heap := ⟨_, rfl⟩
  obtain ⟨locs, hlocs⟩ : ∃ L : List Loc, L = [] := ⟨_, rfl⟩
  rw [← hH, ← hlocs] at hM ⊢
  unfold f_X7_back at h
  refine lv_aload_n hx hb dX7_back_0 rfl (lv_at hl 0 rfl) ?_
  obtain ⟨ok1, h⟩ := k_gd h
  refine gs_X7_18 E hM ok1 dX7_back_1 (fun x2 hxx2 => ?_)
  replace h := k_bb h x2 hxx2.symm
  refine lv_iload_n hx hb dX7_back_4 rfl (lv_at hl 1 rfl) ?_
  rcases x2 with _ | k3
  · cases h
  rw [cs_s] at h
  obtain ⟨ok4, h⟩ := k_gd h
  obtain ⟨w5, hzw5, h⟩ := k_bd h
  refine m_callV (C := RX0) (T := TX0) (N := 4) (ci := 0) (n := 1) (As := [.int p1]) (rest := []) (st1 := (rv sz w5 :: [])) E hM hl.1 ok4 (by decide) rfl rfl (c_X0_at l D cy sz H0 u k3 p1 hzw5) wl_X7_107 wm_X0_at ws_X0_at wi_X0 wd_X0_at rfl rfl (by decide +kernel) ⟨by decide, by decide⟩ rfl rfl (by first | exact Nat.le_of_ble_eq_true rfl | simp [rv_cat, cat_i, cat_l, cat_r, cat_n]) dX7_back_5 ⟨by decide, by decide⟩ rfl (fun H locs hM => ?_)
  rcases w5 with _ | k6
  · rw [cs_n] at h
    refine lv_ifnonnullN hx hb dX7_back_8 ?_
    refine lv_aload_n hx hb dX7_back_11 rfl (lv_at hl 0 rfl) ?_
    refine lv_iconst (v := 2) hx hb dX7_back_12 (by decide) ?_
    obtain ⟨w7, hzw7, h⟩ := k_bd h
    refine m_callV (C := RX7) (T := TX7) (N := 8) (ci := 7) (n := 1) (As := [.int (2 : Int32)]) (rest := []) (st1 := (.int w7.1 :: [])) E hM hl.1 ok1 (by decide) rfl rfl (c_X7_deny l D cy sz H0 u r (2 : Int32) hzw7) wl_X7_63 wm_X7_deny ws_X7_deny wi_X7 wd_X7_deny rfl rfl (by decide +kernel) ⟨by decide, by decide⟩ rfl rfl (by first | exact Nat.le_of_ble_eq_true rfl | simp [rv_cat, cat_i, cat_l, cat_r, cat_n]) dX7_back_13 ⟨by decide, by decide⟩ rfl (fun H locs hM => ?_)
    obtain ⟨hB8, h⟩ := k_gd h
    cases h
    exact m_zret hx hb hr hlk hM hB8 rfl rfl dX7_back_16
  · rw [cs_s] at h
    refine lv_ifnonnull (tgt := 17) hx hb dX7_back_8 (by decide) ?_
    refine lv_aload_n hx hb dX7_back_17 rfl (lv_at hl 0 rfl) ?_
    refine gs_X7_25 E hM ok1 dX7_back_18 (fun x9 hxx9 => ?_)
    replace h := k_bb h x9 hxx9.symm
    refine lv_iload_n hx hb dX7_back_21 rfl (lv_at hl 2 rfl) ?_
    rcases x9 with _ | k10
    · cases h
    rw [cs_s] at h
    obtain ⟨ok11, h⟩ := k_gd h
    obtain ⟨w12, hzw12, h⟩ := k_bd h
    refine m_callV (C := RX2) (T := TX2) (N := 4) (ci := 2) (n := 1) (As := [.int p2]) (rest := []) (st1 := (.int w12 :: [])) E hM hl.1 ok11 (by decide) rfl rfl (c_X2_whyNot l D cy sz H0 u k10 p2 hzw12) wl_X7_237 wm_X2_whyNot ws_X2_whyNot wi_X2 wd_X2_whyNot rfl rfl (by decide +kernel) ⟨by decide, by decide⟩ rfl rfl (by first | exact Nat.le_of_ble_eq_true rfl | simp [rv_cat, cat_i, cat_l, cat_r, cat_n]) dX7_back_22 ⟨by decide, by decide⟩ rfl (fun H locs hM => ?_)
    refine lv_istore_n (i := 3) (lv' := [(3, .int w12), (0, .ref (sz + r)), (1, .int p1), (2, .int p2)]) hx hb dX7_back_25 rfl hl (by decide) (by first | rfl | simp [rv_cat, cat_i, cat_l, cat_r, cat_n]) (fun ls hl => ?_)
    refine lv_iload_n hx hb dX7_back_26 rfl (lv_at hl 0 rfl) ?_
    refine lv_if_eq (tgt := 36) hx hb dX7_back_27 (by decide) (fun c13 => ?_) (fun c13 => ?_)
    · replace h := (k_if h).1 c13
      refine lv_aload_n hx hb dX7_back_36 rfl (lv_at hl 1 rfl) ?_
      refine gs_X7_25 E hM ok1 dX7_back_37 (fun x14 hxx14 => ?_)
      replace h := k_bb h x14 hxx14.symm
      refine lv_iload_n hx hb dX7_back_40 rfl (lv_at hl 2 rfl) ?_
      refine lv_iload_n hx hb dX7_back_41 rfl (lv_at hl 3 rfl) ?_
      rcases x14 with _ | k15
      · cases h
      rw [cs_s] at h
      obtain ⟨ok16, h⟩ := k_gd h
      obtain ⟨w17, hzw17, h⟩ := k_bd h
      refine m_callV (C := RX2) (T := TX2) (N := 4) (ci := 2) (n := 2) (As := [.int p1, .int p2]) (rest := []) (st1 := (.int w17 :: [])) E hM hl.1 ok16 (by decide) rfl rfl (c_X2_holder l D cy sz H0 u k15 p1 p2 hzw17) wl_X7_240 wm_X2_holder ws_X2_holder wi_X2 wd_X2_holder rfl rfl (by decide +kernel) ⟨by decide, by decide⟩ rfl rfl (by first | exact Nat.le_of_ble_eq_true rfl | simp [rv_cat, cat_i, cat_l, cat_r, cat_n]) dX7_back_42 ⟨by decide, by decide⟩ rfl (fun H locs hM => ?_)
      refine lv_iconst (v := (-1)) hx hb dX7_back_45 (by decide) ?_
      refine lv_icmp_ne (tgt := 56) hx hb dX7_back_46 (by decide) (fun c18 => ?_) (fun c18 => ?_)
      · replace h := (k_if h).2 c18
        refine lv_aload_n hx hb dX7_back_56 rfl (lv_at hl 1 rfl) ?_
        refine gs_X7_25 E hM ok1 dX7_back_57 (fun x19 hxx19 => ?_)
        replace h := k_bb h x19 hxx19.symm
        refine lv_iload_n hx hb dX7_back_60 rfl (lv_at hl 2 rfl) ?_
        refine lv_iconst (v := (-1)) hx hb dX7_back_61 (by decide) ?_
        refine lv_iload_n hx hb dX7_back_62 rfl (lv_at hl 3 rfl) ?_
        rcases x19 with _ | k20
        · cases h
        rw [cs_s] at h
        obtain ⟨ok21, h⟩ := k_gd h
        obtain ⟨w22, hzw22, h⟩ := k_bd h
        refine m_callV (C := RX2) (T := TX2) (N := 4) (ci := 2) (n := 3) (As := [.int p1, .int (-1 : Int32), .int p2]) (rest := []) (st1 := []) E hM hl.1 ok21 (by decide) rfl rfl (c_X2_append l D cy sz H0 u k20 p1 (-1 : Int32) p2 hzw22) wl_X7_243 wm_X2_append ws_X2_append wi_X2 wd_X2_append rfl rfl (by decide +kernel) ⟨by decide, by decide⟩ rfl rfl (by first | exact Nat.le_of_ble_eq_true rfl | simp [rv_cat, cat_i, cat_l, cat_r, cat_n]) dX7_back_63 ⟨by decide, by decide⟩ rfl (fun H locs hM => ?_)
        refine lv_aload_n hx hb dX7_back_66 rfl (lv_at hl 1 rfl) ?_
        obtain ⟨ok23, h⟩ := k_gd h
        obtain ⟨w24, hzw24, h⟩ := k_bd h
        refine m_callV (C := RX7) (T := TX7) (N := 8) (ci := 7) (n := 0) (As := []) (rest := []) (st1 := (.int w24.1 :: [])) E hM hl.1 ok23 (by decide) rfl rfl (c_X7_grant l D cy sz H0 w22 r hzw24) wl_X7_71 wm_X7_grant ws_X7_grant wi_X7 wd_X7_grant rfl rfl (by decide +kernel) ⟨by decide, by decide⟩ rfl rfl (by first | exact Nat.le_of_ble_eq_true rfl | simp [rv_cat, cat_i, cat_l, cat_r, cat_n]) dX7_back_67 ⟨by decide, by decide⟩ rfl (fun H locs hM => ?_)
        obtain ⟨hB25, h⟩ := k_gd h
        cases h
        exact m_zret hx hb hr hlk hM hB25 rfl rfl dX7_back_70
      · replace h := (k_if h).1 c18
        refine lv_aload_n hx hb dX7_back_49 rfl (lv_at hl 1 rfl) ?_
        refine lv_bipush (v := 10) hx hb dX7_back_50 (by decide) ?_
        obtain ⟨w26, hzw26, h⟩ := k_bd h
        refine m_callV (C := RX7) (T := TX7) (N := 8) (ci := 7) (n := 1) (As := [.int (10 : Int32)]) (rest := []) (st1 := (.int w26.1 :: [])) E hM hl.1 ok1 (by decide) rfl rfl (c_X7_deny l D cy sz H0 u r (10 : Int32) hzw26) wl_X7_63 wm_X7_deny ws_X7_deny wi_X7 wd_X7_deny rfl rfl (by decide +kernel) ⟨by decide, by decide⟩ rfl rfl (by first | exact Nat.le_of_ble_eq_true rfl | simp [rv_cat, cat_i, cat_l, cat_r, cat_n]) dX7_back_52 ⟨by decide, by decide⟩ rfl (fun H locs hM => ?_)
        obtain ⟨hB27, h⟩ := k_gd h
        cases h
        exact m_zret hx hb hr hlk hM hB27 rfl rfl dX7_back_55
    · replace h := (k_if h).2 c13
      refine lv_aload_n hx hb dX7_back_30 rfl (lv_at hl 1 rfl) ?_
      refine lv_iload_n hx hb dX7_back_31 rfl (lv_at hl 0 rfl) ?_
      obtain ⟨w28, hzw28, h⟩ := k_bd h
      refine m_callV (C := RX7) (T := TX7) (N := 8) (ci := 7) (n := 1) (As := [.int w12]) (rest := []) (st1 := (.int w28.1 :: [])) E hM hl.1 ok1 (by decide) rfl rfl (c_X7_deny l D cy sz H0 u r w12 hzw28) wl_X7_63 wm_X7_deny ws_X7_deny wi_X7 wd_X7_deny rfl rfl (by decide +kernel) ⟨by decide, by decide⟩ rfl rfl (by first | exact Nat.le_of_ble_eq_true rfl | simp [rv_cat, cat_i, cat_l, cat_r, cat_n]) dX7_back_32 ⟨by decide, by decide⟩ rfl (fun H locs hM => ?_)
      obtain ⟨hB29, h⟩ := k_gd h
      cases h
      exact m_zret hx hb hr hlk hM hB29 rfl rfl dX7_back_35

abbrev rm_X7_where : Room := { frames := 1, cells := 0, slots := 0, locals := 36 }
def L_X7_where_41 (b0 : Nat) (b1 : Int32) (b2 : Int32) (b3 : Nat) (u : Mm) (k : Int32 → Option Nat → Option ((Int32) × Mm)) : Nat → Int32 → Option Nat → Option ((Int32) × Mm)
  | 0, _, _ => none
  | n + 1, a4, a5 => cs a5 (k a4 (none : Option Nat)) (fun k10 => (if a4 = (-1 : Int32) then gd (okO u b0 7) (bb (gR u b0 2) (fun x13 => gd (okO u k10 5) (cs x13 none (fun k15 => gd (okO u k15 2) (bd (f_X2_holder k15 (gI u k10 0) b2 u) (fun w17 => bb (gR u k10 2) (fun x18 => L_X7_where_41 b0 b1 b2 b3 u k n w17 x18))))))) else k a4 (some k10)))
set_option maxHeartbeats 4000000 in
set_option maxRecDepth 100000 in
theorem lp_X7_where_41 {p : Program} {l : Launch} {e : Env} {s : State} {m : MethodId} {args : Array Value} {below : List Frame} {meth : Method} {c : Code} {D : va_G} {cy : Nat → ClassId} {sz : Nat} {H0 : Heap} {b0 : Nat} {b1 : Int32} {b2 : Int32} {b3 : Nat} {u : Mm} {k : Int32 → Option Nat → Option ((Int32) × Mm)} {res : (Int32) × Mm} (hr : meth.sig.returnType = (some .int)) (hlk : meth.locks = false) (E : EE p s m args c cX7_where 6 RX7 D cy) : ∀ (n : Nat) (a4 : Int32) (a5 : Option Nat) (H : Heap) (locs : List Loc) (ls : Array Slot), MM D cy sz H0 u H locs → lv_has ls 6 [(0, .ref (sz + b0)), (1, .int b1), (2, .int b2), (3, .ref (sz + b3)), (4, .int a4), (5, rv sz a5)] → L_X7_where_41 b0 b1 b2 b3 u k n a4 a5 = some res → (∀ (a4 : Int32) (a5 : Option Nat) (H : Heap) (locs : List Loc) (ls : Array Slot), MM D cy sz H0 u H locs → lv_has ls 6 [(0, .ref (sz + b0)), (1, .int b1), (2, .int b2), (3, .ref (sz + b3)), (4, .int a4), (5, rv sz a5)] → k a4 a5 = some res → W p l e rm_X7_where s m args below meth c H locs 0 0 (MQ below (Post D cy sz H0 (some (.int res.1)) res.2) args s 0 0 (fun q => sz ≤ q)) (F0 m 77 ls [])) → W p l e rm_X7_where s m args below meth c H locs 0 0 (MQ below (Post D cy sz H0 (some (.int res.1)) res.2) args s 0 0 (fun q => sz ≤ q)) (F0 m 41 ls []) := by
  obtain ⟨hx, hb, hml, hown, hts, hKK⟩ := id E
  intro n
  induction n with
  | zero => intros; rename_i h _; cases h
  | succ n ih =>
    intro a4 a5 H locs ls hM hl h hk
    rw [L_X7_where_41] at h
    refine m_aload hx hb dX7_where_41 (lv_at hl 5 rfl) ?_
    rcases a5 with _ | k10
    · rw [cs_n] at h
      refine lv_ifnullN (tgt := 77) hx hb dX7_where_43 (by decide) ?_
      exact hk a4 (none : Option Nat) H locs ls hM (lv_sub hl [0, 1, 2, 3, 4, 5] rfl) h
    · rw [cs_s] at h
      refine lv_ifnull hx hb dX7_where_43 ?_
      refine lv_iload hx hb dX7_where_46 (lv_at hl 4 rfl) ?_
      refine lv_iconst (v := (-1)) hx hb dX7_where_48 (by decide) ?_
      refine lv_icmp_ne (tgt := 77) hx hb dX7_where_49 (by decide) (fun c11 => ?_) (fun c11 => ?_)
      · replace h := (k_if h).2 c11
        exact hk a4 (some k10) H locs ls hM (lv_sub hl [0, 1, 2, 3, 4, 5] rfl) h
      · replace h := (k_if h).1 c11
        refine lv_aload_n hx hb dX7_where_52 rfl (lv_at hl 0 rfl) ?_
        obtain ⟨ok12, h⟩ := k_gd h
        refine gs_X7_25 E hM ok12 dX7_where_53 (fun x13 hxx13 => ?_)
        replace h := k_bb h x13 hxx13.symm
        refine lv_aload hx hb dX7_where_56 (lv_at hl 5 rfl) ?_
        obtain ⟨ok14, h⟩ := k_gd h
        refine gs_X7_133 E hM ok14 dX7_where_58 ?_
        refine lv_iload_n hx hb dX7_where_61 rfl (lv_at hl 2 rfl) ?_
        rcases x13 with _ | k15
        · cases h
        rw [cs_s] at h
        obtain ⟨ok16, h⟩ := k_gd h
        obtain ⟨w17, hzw17, h⟩ := k_bd h
        refine m_callV (C := RX2) (T := TX2) (N := 4) (ci := 2) (n := 2) (As := [.int (gI u k10 0), .int b2]) (rest := []) (st1 := (.int w17 :: [])) E hM hl.1 ok16 (by decide) rfl rfl (c_X2_holder l D cy sz H0 u k15 (gI u k10 0) b2 hzw17) wl_X7_240 wm_X2_holder ws_X2_holder wi_X2 wd_X2_holder rfl rfl (by decide +kernel) ⟨by decide, by decide⟩ rfl rfl (by first | exact Nat.le_of_ble_eq_true rfl | simp [rv_cat, cat_i, cat_l, cat_r, cat_n]) dX7_where_62 ⟨by decide, by decide⟩ rfl (fun H locs hM => ?_)
        refine lv_istore (i := 4) (lv' := [(4, .int w17), (0, .ref (sz + b0)), (1, .int b1), (2, .int b2), (3, .ref (sz + b3)), (5, .ref (sz + k10))]) hx hb dX7_where_65 hl (by decide) (by first | rfl | simp [rv_cat, cat_i, cat_l, cat_r, cat_n]) (fun ls hl => ?_)
        refine lv_aload hx hb dX7_where_67 (lv_at hl 5 rfl) ?_
        refine gs_X7_129 E hM ok14 dX7_where_69 (fun x18 hxx18 => ?_)
        replace h := k_bb h x18 hxx18.symm
        refine m_astore (i := 5) (lv' := [(5, rv sz x18), (4, .int w17), (0, .ref (sz + b0)), (1, .int b1), (2, .int b2), (3, .ref (sz + b3))]) hx hb dX7_where_72 hl (by decide) (by first | rfl | simp [rv_cat, cat_i, cat_l, cat_r, cat_n]) (fun ls hl => ?_)
        refine lv_goto (tgt := 41) hx hb dX7_where_74 (by decide) ?_
        exact ih w17 x18 H locs ls hM (lv_sub hl [2, 3, 4, 5, 1, 0] rfl) h hk

def f_X7_where (r : Nat) (p1 : Int32) (p2 : Int32) (u : Mm) : Option ((Int32) × Mm) := gd (okO u r 7) (bb (gR u r 1) (fun x2 => cs x2 none (fun k3 => gd (okO u k3 0) (bd (f_X0_at k3 p1 u) (fun w5 => cs w5 (bd (f_X7_refuse r (2 : Int32) u) (fun w7 => some (w7.1, w7.2))) (fun k6 => bd (f_X7_within p2 (0 : Int32) (100000 : Int32) u) (fun w8 => (if w8 = 0 then bd (f_X7_refuse r (5 : Int32) u) (fun w22 => some (w22.1, w22.2)) else L_X7_where_41 r p1 p2 k6 u (fun a19 a20 => bd (f_X7_answer r a19 u) (fun w21 => some (w21.1, w21.2))) 1000 (-1 : Int32) (some k6) ))))))))
set_option maxHeartbeats 4000000 in
set_option maxRecDepth 100000 in
theorem c_X7_where (l : Launch) (D : va_G) (cy : Nat → ClassId) (sz : Nat) (H0 : Heap) (u : Mm) (r : Nat) (p1 : Int32) (p2 : Int32) {res : (Int32) × Mm} (h : f_X7_where r p1 p2 u = some res) : Ctr l yX7_where cX7_where 6 (some .int) rm_X7_where 0 0 D cy sz H0 u [.ref (sz + r), .int p1, .int p2] (some (.int res.1)) res.2 := by
  refine m_start (lv := [(0, .ref (sz + r)), (1, .int p1), (2, .int p2)]) (by decide) (by first | exact Nat.le_of_ble_eq_true rfl | simp [lg_sl, rv_cat, cat_i, cat_l, cat_r, cat_n]) (by first | rfl | simp [lv_args, rv_cat, cat_i, cat_l, cat_r, cat_n]) ?_
  intro p e s m below meth c ls E hr hlk hinit hM hl
  obtain ⟨hx, hb, hml, hown, hts, hKK⟩ := id E
  obtain ⟨H, hH⟩ : ∃ H, H = s.heap := ⟨_, rfl⟩
  obtain ⟨locs, hlocs⟩ : ∃ L : List Loc, L = [] := ⟨_, rfl⟩
  rw [← hH, ← hlocs] at hM ⊢
  unfold f_X7_where at h
  refine lv_aload_n hx hb dX7_where_0 rfl (lv_at hl 0 rfl) ?_
  obtain ⟨ok1, h⟩ := k_gd h
  refine gs_X7_18 E hM ok1 dX7_where_1 (fun x2 hxx2 => ?_)
  replace h := k_bb h x2 hxx2.symm
  refine lv_iload_n hx hb dX7_where_4 rfl (lv_at hl 1 rfl) ?_
  rcases x2 with _ | k3
  · cases h
  rw [cs_s] at h
  obtain ⟨ok4, h⟩ := k_gd h
  obtain ⟨w5, hzw5, h⟩ := k_bd h
  refine m_callV (C := RX0) (T := TX0) (N := 4) (ci := 0) (n := 1) (As := [.int p1]) (rest := []) (st1 := (rv sz w5 :: [])) E hM hl.1 ok4 (by decide) rfl rfl (c_X0_at l D cy sz H0 u k3 p1 hzw5) wl_X7_107 wm_X0_at ws_X0_at wi_X0 wd_X0_at rfl rfl (by decide +kernel) ⟨by decide, by decide⟩ rfl rfl (by first | exact Nat.le_of_ble_eq_true rfl | simp [rv_cat, cat_i, cat_l, cat_r, cat_n]) dX7_where_5 ⟨by decide, by decide⟩ rfl (fun H locs hM => ?_)
  refine m_astore_n (i := 3) (lv' := [(3, rv sz w5), (0, .ref (sz + r)), (1, .int p1), (2, .int p2)]) hx hb dX7_where_8 rfl hl (by decide) (by first | rfl | simp [rv_cat, cat_i, cat_l, cat_r, cat_n]) (fun ls hl => ?_)
  refine m_aload_n hx hb dX7_where_9 rfl (lv_at hl 0 rfl) ?_
  rcases w5 with _ | k6
  · rw [cs_n] at h
    refine lv_ifnonnullN hx hb dX7_where_10 ?_
    refine lv_aload_n hx hb dX7_where_13 rfl (lv_at hl 1 rfl) ?_
    refine lv_iconst (v := 2) hx hb dX7_where_14 (by decide) ?_
    obtain ⟨w7, hzw7, h⟩ := k_bd h
    refine m_callV (C := RX7) (T := TX7) (N := 8) (ci := 7) (n := 1) (As := [.int (2 : Int32)]) (rest := []) (st1 := (.int w7.1 :: [])) E hM hl.1 ok1 (by decide) rfl rfl (c_X7_refuse l D cy sz H0 u r (2 : Int32) hzw7) wl_X7_83 wm_X7_refuse ws_X7_refuse wi_X7 wd_X7_refuse rfl rfl (by decide +kernel) ⟨by decide, by decide⟩ rfl rfl (by first | exact Nat.le_of_ble_eq_true rfl | simp [rv_cat, cat_i, cat_l, cat_r, cat_n]) dX7_where_15 ⟨by decide, by decide⟩ rfl (fun H locs hM => ?_)
    cases h
    exact m_iret hx hb hr hlk hM rfl rfl dX7_where_18
  · rw [cs_s] at h
    refine lv_ifnonnull (tgt := 19) hx hb dX7_where_10 (by decide) ?_
    refine lv_iload_n hx hb dX7_where_19 rfl (lv_at hl 3 rfl) ?_
    refine lv_iconst (v := 0) hx hb dX7_where_20 (by decide) ?_
    refine lv_ldc hx hb hown (hts _ wk_X7_168) dX7_where_21 ?_
    obtain ⟨w8, hzw8, h⟩ := k_bd h
    refine m_callS (n := 3) (As := [.int p2, .int (0 : Int32), .int (100000 : Int32)]) (rest := []) (st1 := (.int w8 :: [])) E hM hl.1 (c_X7_within l D cy sz H0 u p2 (0 : Int32) (100000 : Int32) hzw8) wl_X7_59 wst_X7_within wi_X7 wd_X7_within rfl rfl (by decide +kernel) ⟨by decide, by decide⟩ rfl rfl (by first | exact Nat.le_of_ble_eq_true rfl | simp [rv_cat, cat_i, cat_l, cat_r, cat_n]) dX7_where_23 ⟨by decide, by decide⟩ rfl (fun H locs hM => ?_)
    refine lv_if_ne (tgt := 35) hx hb dX7_where_26 (by decide) (fun c9 => ?_) (fun c9 => ?_)
    · replace h := (k_if h).2 c9
      refine lv_iconst (v := (-1)) hx hb dX7_where_35 (by decide) ?_
      refine lv_istore (i := 4) (lv' := [(4, .int (-1 : Int32)), (3, .ref (sz + k6)), (0, .ref (sz + r)), (1, .int p1), (2, .int p2)]) hx hb dX7_where_36 hl (by decide) (by first | rfl | simp [rv_cat, cat_i, cat_l, cat_r, cat_n]) (fun ls hl => ?_)
      refine lv_aload_n hx hb dX7_where_38 rfl (lv_at hl 1 rfl) ?_
      refine lv_astore (i := 5) (lv' := [(5, .ref (sz + k6)), (4, .int (-1 : Int32)), (3, .ref (sz + k6)), (0, .ref (sz + r)), (1, .int p1), (2, .int p2)]) hx hb dX7_where_39 hl (by decide) (by first | rfl | simp [rv_cat, cat_i, cat_l, cat_r, cat_n]) (fun ls hl => ?_)
      refine lp_X7_where_41 hr hlk  E 1000 (-1 : Int32) (some k6) H locs ls hM (lv_sub hl [3, 4, 5, 2, 1, 0] rfl) h (fun a19 a20 H locs ls hM hl h => ?_)
      refine lv_aload_n hx hb dX7_where_77 rfl (lv_at hl 0 rfl) ?_
      refine lv_iload hx hb dX7_where_78 (lv_at hl 4 rfl) ?_
      obtain ⟨w21, hzw21, h⟩ := k_bd h
      refine m_callV (C := RX7) (T := TX7) (N := 8) (ci := 7) (n := 1) (As := [.int a19]) (rest := []) (st1 := (.int w21.1 :: [])) E hM hl.1 ok1 (by decide) rfl rfl (c_X7_answer l D cy sz H0 u r a19 hzw21) wl_X7_126 wm_X7_answer ws_X7_answer wi_X7 wd_X7_answer rfl rfl (by decide +kernel) ⟨by decide, by decide⟩ rfl rfl (by first | exact Nat.le_of_ble_eq_true rfl | simp [rv_cat, cat_i, cat_l, cat_r, cat_n]) dX7_where_80 ⟨by decide, by decide⟩ rfl (fun H locs hM => ?_)
      cases h
      exact m_iret hx hb hr hlk hM rfl rfl dX7_where_83
    · replace h := (k_if h).1 c9
      refine lv_aload_n hx hb dX7_where_29 rfl (lv_at hl 1 rfl) ?_
      refine lv_iconst (v := 5) hx hb dX7_where_30 (by decide) ?_
      obtain ⟨w22, hzw22, h⟩ := k_bd h
      refine m_callV (C := RX7) (T := TX7) (N := 8) (ci := 7) (n := 1) (As := [.int (5 : Int32)]) (rest := []) (st1 := (.int w22.1 :: [])) E hM hl.1 ok1 (by decide) rfl rfl (c_X7_refuse l D cy sz H0 u r (5 : Int32) hzw22) wl_X7_83 wm_X7_refuse ws_X7_refuse wi_X7 wd_X7_refuse rfl rfl (by decide +kernel) ⟨by decide, by decide⟩ rfl rfl (by first | exact Nat.le_of_ble_eq_true rfl | simp [rv_cat, cat_i, cat_l, cat_r, cat_n]) dX7_where_31 ⟨by decide, by decide⟩ rfl (fun H locs hM => ?_)
      cases h
      exact m_iret hx hb hr hlk hM rfl rfl dX7_where_34

abbrev rm_X7_whyNotOnShelf : Room := { frames := 1, cells := 0, slots := 0, locals := 36 }
def f_X7_whyNotOnShelf (r : Nat) (p1 : Int32) (p2 : Int32) (u : Mm) : Option (Int32) := gd (okO u r 7) (bb (gR u r 1) (fun x2 => cs x2 none (fun k3 => gd (okO u k3 0) (bd (f_X0_at k3 p1 u) (fun w5 => cs w5 (some (2 : Int32)) (fun k6 => bd (f_X7_within p2 (-1 : Int32) (39 : Int32) u) (fun w7 => (if w7 = 0 then some (2 : Int32) else gd (okO u k6 5) ((if (gI u k6 1) = (1 : Int32) then some (0 : Int32) else some (8 : Int32)))))))))))
set_option maxHeartbeats 4000000 in
set_option maxRecDepth 100000 in
theorem c_X7_whyNotOnShelf (l : Launch) (D : va_G) (cy : Nat → ClassId) (sz : Nat) (H0 : Heap) (u : Mm) (r : Nat) (p1 : Int32) (p2 : Int32) {res : Int32} (h : f_X7_whyNotOnShelf r p1 p2 u = some res) : Ctr l yX7_whyNotOnShelf cX7_whyNotOnShelf 4 (some .int) rm_X7_whyNotOnShelf 0 0 D cy sz H0 u [.ref (sz + r), .int p1, .int p2] (some (.int res)) u := by
  refine m_start (lv := [(0, .ref (sz + r)), (1, .int p1), (2, .int p2)]) (by decide) (by first | exact Nat.le_of_ble_eq_true rfl | simp [lg_sl, rv_cat, cat_i, cat_l, cat_r, cat_n]) (by first | rfl | simp [lv_args, rv_cat, cat_i, cat_l, cat_r, cat_n]) ?_
  intro p e s m below meth c ls E hr hlk hinit hM hl
  obtain ⟨hx, hb, hml, hown, hts, hKK⟩ := id E
  obtain ⟨H, hH⟩ : ∃ H, H = s.heap := ⟨_, rfl⟩
  obtain ⟨locs, hlocs⟩ : ∃ L : List Loc, L = [] := ⟨_, rfl⟩
  rw [← hH, ← hlocs] at hM ⊢
  unfold f_X7_whyNotOnShelf at h
  refine lv_aload_n hx hb dX7_whyNotOnShelf_0 rfl (lv_at hl 0 rfl) ?_
  obtain ⟨ok1, h⟩ := k_gd h
  refine gs_X7_18 E hM ok1 dX7_whyNotOnShelf_1 (fun x2 hxx2 => ?_)
  replace h := k_bb h x2 hxx2.symm
  refine lv_iload_n hx hb dX7_whyNotOnShelf_4 rfl (lv_at hl 1 rfl) ?_
  rcases x2 with _ | k3
  · cases h
  rw [cs_s] at h
  obtain ⟨ok4, h⟩ := k_gd h
  obtain ⟨w5, hzw5, h⟩ := k_bd h
  refine m_callV (C := RX0) (T := TX0) (N := 4) (ci := 0) (n := 1) (As := [.int p1]) (rest := []) (st1 := (rv sz w5 :: [])) E hM hl.1 ok4 (by decide) rfl rfl (c_X0_at l D cy sz H0 u k3 p1 hzw5) wl_X7_107 wm_X0_at ws_X0_at wi_X0 wd_X0_at rfl rfl (by decide +kernel) ⟨by decide, by decide⟩ rfl rfl (by first | exact Nat.le_of_ble_eq_true rfl | simp [rv_cat, cat_i, cat_l, cat_r, cat_n]) dX7_whyNotOnShelf_5 ⟨by decide, by decide⟩ rfl (fun H locs hM => ?_)
  refine m_astore_n (i := 3) (lv' := [(3, rv sz w5), (0, .ref (sz + r)), (1, .int p1), (2, .int p2)]) hx hb dX7_whyNotOnShelf_8 rfl hl (by decide) (by first | rfl | simp [rv_cat, cat_i, cat_l, cat_r, cat_n]) (fun ls hl => ?_)
  refine m_aload_n hx hb dX7_whyNotOnShelf_9 rfl (lv_at hl 0 rfl) ?_
  rcases w5 with _ | k6
  · rw [cs_n] at h
    refine lv_ifnullN (tgt := 23) hx hb dX7_whyNotOnShelf_10 (by decide) ?_
    refine lv_iconst (v := 2) hx hb dX7_whyNotOnShelf_23 (by decide) ?_
    cases h
    exact m_iret hx hb hr hlk hM rfl rfl dX7_whyNotOnShelf_24
  · rw [cs_s] at h
    refine lv_ifnull hx hb dX7_whyNotOnShelf_10 ?_
    refine lv_iload_n hx hb dX7_whyNotOnShelf_13 rfl (lv_at hl 3 rfl) ?_
    refine lv_iconst (v := (-1)) hx hb dX7_whyNotOnShelf_14 (by decide) ?_
    refine lv_bipush (v := 39) hx hb dX7_whyNotOnShelf_15 (by decide) ?_
    obtain ⟨w7, hzw7, h⟩ := k_bd h
    refine m_callS (n := 3) (As := [.int p2, .int (-1 : Int32), .int (39 : Int32)]) (rest := []) (st1 := (.int w7 :: [])) E hM hl.1 (c_X7_within l D cy sz H0 u p2 (-1 : Int32) (39 : Int32) hzw7) wl_X7_59 wst_X7_within wi_X7 wd_X7_within rfl rfl (by decide +kernel) ⟨by decide, by decide⟩ rfl rfl (by first | exact Nat.le_of_ble_eq_true rfl | simp [rv_cat, cat_i, cat_l, cat_r, cat_n]) dX7_whyNotOnShelf_17 ⟨by decide, by decide⟩ rfl (fun H locs hM => ?_)
    refine lv_if_ne (tgt := 25) hx hb dX7_whyNotOnShelf_20 (by decide) (fun c8 => ?_) (fun c8 => ?_)
    · replace h := (k_if h).2 c8
      refine lv_aload_n hx hb dX7_whyNotOnShelf_25 rfl (lv_at hl 0 rfl) ?_
      obtain ⟨ok9, h⟩ := k_gd h
      refine gs_X7_111 E hM ok9 dX7_whyNotOnShelf_26 ?_
      refine lv_iconst (v := 1) hx hb dX7_whyNotOnShelf_29 (by decide) ?_
      refine lv_icmp_ne (tgt := 37) hx hb dX7_whyNotOnShelf_30 (by decide) (fun c10 => ?_) (fun c10 => ?_)
      · replace h := (k_if h).2 c10
        refine lv_bipush (v := 8) hx hb dX7_whyNotOnShelf_37 (by decide) ?_
        cases h
        exact m_iret hx hb hr hlk hM rfl rfl dX7_whyNotOnShelf_39
      · replace h := (k_if h).1 c10
        refine lv_iconst (v := 0) hx hb dX7_whyNotOnShelf_33 (by decide) ?_
        refine lv_goto (tgt := 39) hx hb dX7_whyNotOnShelf_34 (by decide) ?_
        cases h
        exact m_iret hx hb hr hlk hM rfl rfl dX7_whyNotOnShelf_39
    · replace h := (k_if h).1 c8
      refine lv_iconst (v := 2) hx hb dX7_whyNotOnShelf_23 (by decide) ?_
      cases h
      exact m_iret hx hb hr hlk hM rfl rfl dX7_whyNotOnShelf_24

abbrev rm_X7_stand : Room := { frames := 2, cells := 0, slots := 0, locals := 72 }
def f_X7_stand (r : Nat) (p1 : Int32) (p2 : Int32) (u : Mm) : Option ((Int32) × Mm) := gd (okO u r 7) (bd (f_X7_whyNotOnShelf r p1 p2 u) (fun w2 => (if w2 = 0 then (if p2 = (-1 : Int32) then bb (gR u r 3) (fun x5 => cs x5 none (fun k6 => gd (okO u k6 4) (bb (gR u k6 0) (fun x8 => cs x8 none (fun k9 => gd (okO u k9 1) (bd (f_X1_put k9 p1 p2 u) (fun w11 => gd (okO w11 r 7) (bd (f_X7_grant r w11) (fun w13 => gd (isB w13.1) (some (w13.1, w13.2))))))))))) else bb (gR u r 3) (fun x15 => cs x15 none (fun k16 => gd (okO u k16 4) (bb (gR u k16 0) (fun x18 => cs x18 none (fun k19 => gd (okO u k19 1) (bd (f_X1_isFreeFor k19 p1 p2 u) (fun w21 => (if w21 = 0 then bd (f_X7_deny r (10 : Int32) u) (fun w33 => gd (isB w33.1) (some (w33.1, w33.2))) else bb (gR u r 3) (fun x23 => cs x23 none (fun k24 => gd (okO u k24 4) (bb (gR u k24 0) (fun x26 => cs x26 none (fun k27 => gd (okO u k27 1) (bd (f_X1_put k27 p1 p2 u) (fun w29 => gd (okO w29 r 7) (bd (f_X7_grant r w29) (fun w31 => gd (isB w31.1) (some (w31.1, w31.2)))))))))))))))))))) else bd (f_X7_deny r w2 u) (fun w35 => gd (isB w35.1) (some (w35.1, w35.2))))))
set_option maxHeartbeats 4000000 in
set_option maxRecDepth 100000 in
theorem c_X7_stand (l : Launch) (D : va_G) (cy : Nat → ClassId) (sz : Nat) (H0 : Heap) (u : Mm) (r : Nat) (p1 : Int32) (p2 : Int32) {res : (Int32) × Mm} (h : f_X7_stand r p1 p2 u = some res) : Ctr l yX7_stand cX7_stand 4 (some .boolean) rm_X7_stand 0 0 D cy sz H0 u [.ref (sz + r), .int p1, .int p2] (some (.int res.1)) res.2 := by
  refine m_start (lv := [(0, .ref (sz + r)), (1, .int p1), (2, .int p2)]) (by decide) (by first | exact Nat.le_of_ble_eq_true rfl | simp [lg_sl, rv_cat, cat_i, cat_l, cat_r, cat_n]) (by first | rfl | simp [lv_args, rv_cat, cat_i, cat_l, cat_r, cat_n]) ?_
  intro p e s m below meth c ls E hr hlk hinit hM hl
  obtain ⟨hx, hb, hml, hown, hts, hKK⟩ := id E
  obtain ⟨H, hH⟩ : ∃ H, H = s.heap := ⟨_, rfl⟩
  obtain ⟨locs, hlocs⟩ : ∃ L : List Loc, L = [] := ⟨_, rfl⟩
  rw [← hH, ← hlocs] at hM ⊢
  unfold f_X7_stand at h
  refine lv_aload_n hx hb dX7_stand_0 rfl (lv_at hl 0 rfl) ?_
  refine lv_iload_n hx hb dX7_stand_1 rfl (lv_at hl 1 rfl) ?_
  refine lv_iload_n hx hb dX7_stand_2 rfl (lv_at hl 2 rfl) ?_
  obtain ⟨ok1, h⟩ := k_gd h
  obtain ⟨w2, hzw2, h⟩ := k_bd h
  refine m_callV (C := RX7) (T := TX7) (N := 8) (ci := 7) (n := 2) (As := [.int p1, .int p2]) (rest := []) (st1 := (.int w2 :: [])) E hM hl.1 ok1 (by decide) rfl rfl (c_X7_whyNotOnShelf l D cy sz H0 u r p1 p2 hzw2) wl_X7_247 wm_X7_whyNotOnShelf ws_X7_whyNotOnShelf wi_X7 wd_X7_whyNotOnShelf rfl rfl (by decide +kernel) ⟨by decide, by decide⟩ rfl rfl (by first | exact Nat.le_of_ble_eq_true rfl | simp [rv_cat, cat_i, cat_l, cat_r, cat_n]) dX7_stand_3 ⟨by decide, by decide⟩ rfl (fun H locs hM => ?_)
  refine lv_istore_n (i := 3) (lv' := [(3, .int w2), (0, .ref (sz + r)), (1, .int p1), (2, .int p2)]) hx hb dX7_stand_6 rfl hl (by decide) (by first | rfl | simp [rv_cat, cat_i, cat_l, cat_r, cat_n]) (fun ls hl => ?_)
  refine lv_iload_n hx hb dX7_stand_7 rfl (lv_at hl 0 rfl) ?_
  refine lv_if_eq (tgt := 17) hx hb dX7_stand_8 (by decide) (fun c3 => ?_) (fun c3 => ?_)
  · replace h := (k_if h).1 c3
    refine lv_iload_n hx hb dX7_stand_17 rfl (lv_at hl 3 rfl) ?_
    refine lv_iconst (v := (-1)) hx hb dX7_stand_18 (by decide) ?_
    refine lv_icmp_eq (tgt := 44) hx hb dX7_stand_19 (by decide) (fun c4 => ?_) (fun c4 => ?_)
    · replace h := (k_if h).1 c4
      refine lv_aload_n hx hb dX7_stand_44 rfl (lv_at hl 1 rfl) ?_
      refine gs_X7_32 E hM ok1 dX7_stand_45 (fun x5 hxx5 => ?_)
      replace h := k_bb h x5 hxx5.symm
      rcases x5 with _ | k6
      · cases h
      rw [cs_s] at h
      obtain ⟨ok7, h⟩ := k_gd h
      refine gs_X7_143 E hM ok7 dX7_stand_48 (fun x8 hxx8 => ?_)
      replace h := k_bb h x8 hxx8.symm
      refine lv_iload_n hx hb dX7_stand_51 rfl (lv_at hl 2 rfl) ?_
      refine lv_iload_n hx hb dX7_stand_52 rfl (lv_at hl 3 rfl) ?_
      rcases x8 with _ | k9
      · cases h
      rw [cs_s] at h
      obtain ⟨ok10, h⟩ := k_gd h
      obtain ⟨w11, hzw11, h⟩ := k_bd h
      refine m_callV (C := RX1) (T := TX1) (N := 2) (ci := 1) (n := 2) (As := [.int p1, .int p2]) (rest := []) (st1 := []) E hM hl.1 ok10 (by decide) rfl rfl (c_X1_put l D cy sz H0 u k9 p1 p2 hzw11) wl_X7_253 wm_X1_put ws_X1_put wi_X1 wd_X1_put rfl rfl (by decide +kernel) ⟨by decide, by decide⟩ rfl rfl (by first | exact Nat.le_of_ble_eq_true rfl | simp [rv_cat, cat_i, cat_l, cat_r, cat_n]) dX7_stand_53 ⟨by decide, by decide⟩ rfl (fun H locs hM => ?_)
      refine lv_aload_n hx hb dX7_stand_56 rfl (lv_at hl 1 rfl) ?_
      obtain ⟨ok12, h⟩ := k_gd h
      obtain ⟨w13, hzw13, h⟩ := k_bd h
      refine m_callV (C := RX7) (T := TX7) (N := 8) (ci := 7) (n := 0) (As := []) (rest := []) (st1 := (.int w13.1 :: [])) E hM hl.1 ok12 (by decide) rfl rfl (c_X7_grant l D cy sz H0 w11 r hzw13) wl_X7_71 wm_X7_grant ws_X7_grant wi_X7 wd_X7_grant rfl rfl (by decide +kernel) ⟨by decide, by decide⟩ rfl rfl (by first | exact Nat.le_of_ble_eq_true rfl | simp [rv_cat, cat_i, cat_l, cat_r, cat_n]) dX7_stand_57 ⟨by decide, by decide⟩ rfl (fun H locs hM => ?_)
      obtain ⟨hB14, h⟩ := k_gd h
      cases h
      exact m_zret hx hb hr hlk hM hB14 rfl rfl dX7_stand_60
    · replace h := (k_if h).2 c4
      refine lv_aload_n hx hb dX7_stand_22 rfl (lv_at hl 1 rfl) ?_
      refine gs_X7_32 E hM ok1 dX7_stand_23 (fun x15 hxx15 => ?_)
      replace h := k_bb h x15 hxx15.symm
      rcases x15 with _ | k16
      · cases h
      rw [cs_s] at h
      obtain ⟨ok17, h⟩ := k_gd h
      refine gs_X7_143 E hM ok17 dX7_stand_26 (fun x18 hxx18 => ?_)
      replace h := k_bb h x18 hxx18.symm
      refine lv_iload_n hx hb dX7_stand_29 rfl (lv_at hl 2 rfl) ?_
      refine lv_iload_n hx hb dX7_stand_30 rfl (lv_at hl 3 rfl) ?_
      rcases x18 with _ | k19
      · cases h
      rw [cs_s] at h
      obtain ⟨ok20, h⟩ := k_gd h
      obtain ⟨w21, hzw21, h⟩ := k_bd h
      refine m_callV (C := RX1) (T := TX1) (N := 2) (ci := 1) (n := 2) (As := [.int p1, .int p2]) (rest := []) (st1 := (.int w21 :: [])) E hM hl.1 ok20 (by decide) rfl rfl (c_X1_isFreeFor l D cy sz H0 u k19 p1 p2 hzw21) wl_X7_250 wm_X1_isFreeFor ws_X1_isFreeFor wi_X1 wd_X1_isFreeFor rfl rfl (by decide +kernel) ⟨by decide, by decide⟩ rfl rfl (by first | exact Nat.le_of_ble_eq_true rfl | simp [rv_cat, cat_i, cat_l, cat_r, cat_n]) dX7_stand_31 ⟨by decide, by decide⟩ rfl (fun H locs hM => ?_)
      refine lv_if_ne (tgt := 44) hx hb dX7_stand_34 (by decide) (fun c22 => ?_) (fun c22 => ?_)
      · replace h := (k_if h).2 c22
        refine lv_aload_n hx hb dX7_stand_44 rfl (lv_at hl 1 rfl) ?_
        refine gs_X7_32 E hM ok1 dX7_stand_45 (fun x23 hxx23 => ?_)
        replace h := k_bb h x23 hxx23.symm
        rcases x23 with _ | k24
        · cases h
        rw [cs_s] at h
        obtain ⟨ok25, h⟩ := k_gd h
        refine gs_X7_143 E hM ok25 dX7_stand_48 (fun x26 hxx26 => ?_)
        replace h := k_bb h x26 hxx26.symm
        refine lv_iload_n hx hb dX7_stand_51 rfl (lv_at hl 2 rfl) ?_
        refine lv_iload_n hx hb dX7_stand_52 rfl (lv_at hl 3 rfl) ?_
        rcases x26 with _ | k27
        · cases h
        rw [cs_s] at h
        obtain ⟨ok28, h⟩ := k_gd h
        obtain ⟨w29, hzw29, h⟩ := k_bd h
        refine m_callV (C := RX1) (T := TX1) (N := 2) (ci := 1) (n := 2) (As := [.int p1, .int p2]) (rest := []) (st1 := []) E hM hl.1 ok28 (by decide) rfl rfl (c_X1_put l D cy sz H0 u k27 p1 p2 hzw29) wl_X7_253 wm_X1_put ws_X1_put wi_X1 wd_X1_put rfl rfl (by decide +kernel) ⟨by decide, by decide⟩ rfl rfl (by first | exact Nat.le_of_ble_eq_true rfl | simp [rv_cat, cat_i, cat_l, cat_r, cat_n]) dX7_stand_53 ⟨by decide, by decide⟩ rfl (fun H locs hM => ?_)
        refine lv_aload_n hx hb dX7_stand_56 rfl (lv_at hl 1 rfl) ?_
        obtain ⟨ok30, h⟩ := k_gd h
        obtain ⟨w31, hzw31, h⟩ := k_bd h
        refine m_callV (C := RX7) (T := TX7) (N := 8) (ci := 7) (n := 0) (As := []) (rest := []) (st1 := (.int w31.1 :: [])) E hM hl.1 ok30 (by decide) rfl rfl (c_X7_grant l D cy sz H0 w29 r hzw31) wl_X7_71 wm_X7_grant ws_X7_grant wi_X7 wd_X7_grant rfl rfl (by decide +kernel) ⟨by decide, by decide⟩ rfl rfl (by first | exact Nat.le_of_ble_eq_true rfl | simp [rv_cat, cat_i, cat_l, cat_r, cat_n]) dX7_stand_57 ⟨by decide, by decide⟩ rfl (fun H locs hM => ?_)
        obtain ⟨hB32, h⟩ := k_gd h
        cases h
        exact m_zret hx hb hr hlk hM hB32 rfl rfl dX7_stand_60
      · replace h := (k_if h).1 c22
        refine lv_aload_n hx hb dX7_stand_37 rfl (lv_at hl 1 rfl) ?_
        refine lv_bipush (v := 10) hx hb dX7_stand_38 (by decide) ?_
        obtain ⟨w33, hzw33, h⟩ := k_bd h
        refine m_callV (C := RX7) (T := TX7) (N := 8) (ci := 7) (n := 1) (As := [.int (10 : Int32)]) (rest := []) (st1 := (.int w33.1 :: [])) E hM hl.1 ok1 (by decide) rfl rfl (c_X7_deny l D cy sz H0 u r (10 : Int32) hzw33) wl_X7_63 wm_X7_deny ws_X7_deny wi_X7 wd_X7_deny rfl rfl (by decide +kernel) ⟨by decide, by decide⟩ rfl rfl (by first | exact Nat.le_of_ble_eq_true rfl | simp [rv_cat, cat_i, cat_l, cat_r, cat_n]) dX7_stand_40 ⟨by decide, by decide⟩ rfl (fun H locs hM => ?_)
        obtain ⟨hB34, h⟩ := k_gd h
        cases h
        exact m_zret hx hb hr hlk hM hB34 rfl rfl dX7_stand_43
  · replace h := (k_if h).2 c3
    refine lv_aload_n hx hb dX7_stand_11 rfl (lv_at hl 1 rfl) ?_
    refine lv_iload_n hx hb dX7_stand_12 rfl (lv_at hl 0 rfl) ?_
    obtain ⟨w35, hzw35, h⟩ := k_bd h
    refine m_callV (C := RX7) (T := TX7) (N := 8) (ci := 7) (n := 1) (As := [.int w2]) (rest := []) (st1 := (.int w35.1 :: [])) E hM hl.1 ok1 (by decide) rfl rfl (c_X7_deny l D cy sz H0 u r w2 hzw35) wl_X7_63 wm_X7_deny ws_X7_deny wi_X7 wd_X7_deny rfl rfl (by decide +kernel) ⟨by decide, by decide⟩ rfl rfl (by first | exact Nat.le_of_ble_eq_true rfl | simp [rv_cat, cat_i, cat_l, cat_r, cat_n]) dX7_stand_13 ⟨by decide, by decide⟩ rfl (fun H locs hM => ?_)
    obtain ⟨hB36, h⟩ := k_gd h
    cases h
    exact m_zret hx hb hr hlk hM hB36 rfl rfl dX7_stand_16

abbrev rm_X7_goal : Room := { frames := 2, cells := 0, slots := 0, locals := 72 }
def f_X7_goal (r : Nat) (p1 : Int32) (p2 : Int32) (u : Mm) : Option ((Int32) × Mm) := gd (okO u r 7) (bd (f_X7_whyNotOnShelf r p1 p2 u) (fun w2 => (if w2 = 0 then (if p2 = (-1 : Int32) then bb (gR u r 3) (fun x5 => cs x5 none (fun k6 => gd (okO u k6 4) (bb (gR u k6 2) (fun x8 => cs x8 none (fun k9 => gd (okA u k9 9 p1) (bd (f_X7_grant r (sI u k9 (Int32.toNatClampNeg p1) p2)) (fun w11 => gd (isB w11.1) (some (w11.1, w11.2))))))))) else bb (gR u r 3) (fun x13 => cs x13 none (fun k14 => gd (okO u k14 4) (bd (f_X4_isGoalOfAnother k14 p2 p1 u) (fun w16 => (if w16 = 0 then bb (gR u r 3) (fun x18 => cs x18 none (fun k19 => gd (okO u k19 4) (bb (gR u k19 2) (fun x21 => cs x21 none (fun k22 => gd (okA u k22 9 p1) (bd (f_X7_grant r (sI u k22 (Int32.toNatClampNeg p1) p2)) (fun w24 => gd (isB w24.1) (some (w24.1, w24.2))))))))) else bd (f_X7_deny r (10 : Int32) u) (fun w26 => gd (isB w26.1) (some (w26.1, w26.2))))))))) else bd (f_X7_deny r w2 u) (fun w28 => gd (isB w28.1) (some (w28.1, w28.2))))))
set_option maxHeartbeats 4000000 in
set_option maxRecDepth 100000 in
theorem c_X7_goal (l : Launch) (D : va_G) (cy : Nat → ClassId) (sz : Nat) (H0 : Heap) (u : Mm) (r : Nat) (p1 : Int32) (p2 : Int32) {res : (Int32) × Mm} (h : f_X7_goal r p1 p2 u = some res) : Ctr l yX7_goal cX7_goal 4 (some .boolean) rm_X7_goal 0 0 D cy sz H0 u [.ref (sz + r), .int p1, .int p2] (some (.int res.1)) res.2 := by
  refine m_start (lv := [(0, .ref (sz + r)), (1, .int p1), (2, .int p2)]) (by decide) (by first | exact Nat.le_of_ble_eq_true rfl | simp [lg_sl, rv_cat, cat_i, cat_l, cat_r, cat_n]) (by first | rfl | simp [lv_args, rv_cat, cat_i, cat_l, cat_r, cat_n]) ?_
  intro p e s m below meth c ls E hr hlk hinit hM hl
  obtain ⟨hx, hb, hml, hown, hts, hKK⟩ := id E
  obtain ⟨H, hH⟩ : ∃ H, H = s.heap := ⟨_, rfl⟩
  obtain ⟨locs, hlocs⟩ : ∃ L : List Loc, L = [] := ⟨_, rfl⟩
  rw [← hH, ← hlocs] at hM ⊢
  unfold f_X7_goal at h
  refine lv_aload_n hx hb dX7_goal_0 rfl (lv_at hl 0 rfl) ?_
  refine lv_iload_n hx hb dX7_goal_1 rfl (lv_at hl 1 rfl) ?_
  refine lv_iload_n hx hb dX7_goal_2 rfl (lv_at hl 2 rfl) ?_
  obtain ⟨ok1, h⟩ := k_gd h
  obtain ⟨w2, hzw2, h⟩ := k_bd h
  refine m_callV (C := RX7) (T := TX7) (N := 8) (ci := 7) (n := 2) (As := [.int p1, .int p2]) (rest := []) (st1 := (.int w2 :: [])) E hM hl.1 ok1 (by decide) rfl rfl (c_X7_whyNotOnShelf l D cy sz H0 u r p1 p2 hzw2) wl_X7_247 wm_X7_whyNotOnShelf ws_X7_whyNotOnShelf wi_X7 wd_X7_whyNotOnShelf rfl rfl (by decide +kernel) ⟨by decide, by decide⟩ rfl rfl (by first | exact Nat.le_of_ble_eq_true rfl | simp [rv_cat, cat_i, cat_l, cat_r, cat_n]) dX7_goal_3 ⟨by decide, by decide⟩ rfl (fun H locs hM => ?_)
  refine lv_istore_n (i := 3) (lv' := [(3, .int w2), (0, .ref (sz + r)), (1, .int p1), (2, .int p2)]) hx hb dX7_goal_6 rfl hl (by decide) (by first | rfl | simp [rv_cat, cat_i, cat_l, cat_r, cat_n]) (fun ls hl => ?_)
  refine lv_iload_n hx hb dX7_goal_7 rfl (lv_at hl 0 rfl) ?_
  refine lv_if_eq (tgt := 17) hx hb dX7_goal_8 (by decide) (fun c3 => ?_) (fun c3 => ?_)
  · replace h := (k_if h).1 c3
    refine lv_iload_n hx hb dX7_goal_17 rfl (lv_at hl 3 rfl) ?_
    refine lv_iconst (v := (-1)) hx hb dX7_goal_18 (by decide) ?_
    refine lv_icmp_eq (tgt := 41) hx hb dX7_goal_19 (by decide) (fun c4 => ?_) (fun c4 => ?_)
    · replace h := (k_if h).1 c4
      refine lv_aload_n hx hb dX7_goal_41 rfl (lv_at hl 1 rfl) ?_
      refine gs_X7_32 E hM ok1 dX7_goal_42 (fun x5 hxx5 => ?_)
      replace h := k_bb h x5 hxx5.symm
      rcases x5 with _ | k6
      · cases h
      rw [cs_s] at h
      obtain ⟨ok7, h⟩ := k_gd h
      refine gs_X7_153 E hM ok7 dX7_goal_45 (fun x8 hxx8 => ?_)
      replace h := k_bb h x8 hxx8.symm
      refine lv_iload_n hx hb dX7_goal_48 rfl (lv_at hl 2 rfl) ?_
      refine lv_iload_n hx hb dX7_goal_49 rfl (lv_at hl 3 rfl) ?_
      rcases x8 with _ | k9
      · cases h
      rw [cs_s] at h
      obtain ⟨ok10, h⟩ := k_gd h
      refine m_iast E hM ok10 dX7_goal_50 (fun H locs hM => ?_)
      refine lv_aload_n hx hb dX7_goal_51 rfl (lv_at hl 1 rfl) ?_
      obtain ⟨w11, hzw11, h⟩ := k_bd h
      refine m_callV (C := RX7) (T := TX7) (N := 8) (ci := 7) (n := 0) (As := []) (rest := []) (st1 := (.int w11.1 :: [])) E hM hl.1 ok1 (by decide) rfl rfl (c_X7_grant l D cy sz H0 (sI u k9 (Int32.toNatClampNeg p1) p2) r hzw11) wl_X7_71 wm_X7_grant ws_X7_grant wi_X7 wd_X7_grant rfl rfl (by decide +kernel) ⟨by decide, by decide⟩ rfl rfl (by first | exact Nat.le_of_ble_eq_true rfl | simp [rv_cat, cat_i, cat_l, cat_r, cat_n]) dX7_goal_52 ⟨by decide, by decide⟩ rfl (fun H locs hM => ?_)
      obtain ⟨hB12, h⟩ := k_gd h
      cases h
      exact m_zret hx hb hr hlk hM hB12 rfl rfl dX7_goal_55
    · replace h := (k_if h).2 c4
      refine lv_aload_n hx hb dX7_goal_22 rfl (lv_at hl 1 rfl) ?_
      refine gs_X7_32 E hM ok1 dX7_goal_23 (fun x13 hxx13 => ?_)
      replace h := k_bb h x13 hxx13.symm
      refine lv_iload_n hx hb dX7_goal_26 rfl (lv_at hl 3 rfl) ?_
      refine lv_iload_n hx hb dX7_goal_27 rfl (lv_at hl 2 rfl) ?_
      rcases x13 with _ | k14
      · cases h
      rw [cs_s] at h
      obtain ⟨ok15, h⟩ := k_gd h
      obtain ⟨w16, hzw16, h⟩ := k_bd h
      refine m_callV (C := RX4) (T := TX4) (N := 7) (ci := 4) (n := 2) (As := [.int p2, .int p1]) (rest := []) (st1 := (.int w16 :: [])) E hM hl.1 ok15 (by decide) rfl rfl (c_X4_isGoalOfAnother l D cy sz H0 u k14 p2 p1 hzw16) wl_X7_255 wm_X4_isGoalOfAnother ws_X4_isGoalOfAnother wi_X4 wd_X4_isGoalOfAnother rfl rfl (by decide +kernel) ⟨by decide, by decide⟩ rfl rfl (by first | exact Nat.le_of_ble_eq_true rfl | simp [rv_cat, cat_i, cat_l, cat_r, cat_n]) dX7_goal_28 ⟨by decide, by decide⟩ rfl (fun H locs hM => ?_)
      refine lv_if_eq (tgt := 41) hx hb dX7_goal_31 (by decide) (fun c17 => ?_) (fun c17 => ?_)
      · replace h := (k_if h).1 c17
        refine lv_aload_n hx hb dX7_goal_41 rfl (lv_at hl 1 rfl) ?_
        refine gs_X7_32 E hM ok1 dX7_goal_42 (fun x18 hxx18 => ?_)
        replace h := k_bb h x18 hxx18.symm
        rcases x18 with _ | k19
        · cases h
        rw [cs_s] at h
        obtain ⟨ok20, h⟩ := k_gd h
        refine gs_X7_153 E hM ok20 dX7_goal_45 (fun x21 hxx21 => ?_)
        replace h := k_bb h x21 hxx21.symm
        refine lv_iload_n hx hb dX7_goal_48 rfl (lv_at hl 2 rfl) ?_
        refine lv_iload_n hx hb dX7_goal_49 rfl (lv_at hl 3 rfl) ?_
        rcases x21 with _ | k22
        · cases h
        rw [cs_s] at h
        obtain ⟨ok23, h⟩ := k_gd h
        refine m_iast E hM ok23 dX7_goal_50 (fun H locs hM => ?_)
        refine lv_aload_n hx hb dX7_goal_51 rfl (lv_at hl 1 rfl) ?_
        obtain ⟨w24, hzw24, h⟩ := k_bd h
        refine m_callV (C := RX7) (T := TX7) (N := 8) (ci := 7) (n := 0) (As := []) (rest := []) (st1 := (.int w24.1 :: [])) E hM hl.1 ok1 (by decide) rfl rfl (c_X7_grant l D cy sz H0 (sI u k22 (Int32.toNatClampNeg p1) p2) r hzw24) wl_X7_71 wm_X7_grant ws_X7_grant wi_X7 wd_X7_grant rfl rfl (by decide +kernel) ⟨by decide, by decide⟩ rfl rfl (by first | exact Nat.le_of_ble_eq_true rfl | simp [rv_cat, cat_i, cat_l, cat_r, cat_n]) dX7_goal_52 ⟨by decide, by decide⟩ rfl (fun H locs hM => ?_)
        obtain ⟨hB25, h⟩ := k_gd h
        cases h
        exact m_zret hx hb hr hlk hM hB25 rfl rfl dX7_goal_55
      · replace h := (k_if h).2 c17
        refine lv_aload_n hx hb dX7_goal_34 rfl (lv_at hl 1 rfl) ?_
        refine lv_bipush (v := 10) hx hb dX7_goal_35 (by decide) ?_
        obtain ⟨w26, hzw26, h⟩ := k_bd h
        refine m_callV (C := RX7) (T := TX7) (N := 8) (ci := 7) (n := 1) (As := [.int (10 : Int32)]) (rest := []) (st1 := (.int w26.1 :: [])) E hM hl.1 ok1 (by decide) rfl rfl (c_X7_deny l D cy sz H0 u r (10 : Int32) hzw26) wl_X7_63 wm_X7_deny ws_X7_deny wi_X7 wd_X7_deny rfl rfl (by decide +kernel) ⟨by decide, by decide⟩ rfl rfl (by first | exact Nat.le_of_ble_eq_true rfl | simp [rv_cat, cat_i, cat_l, cat_r, cat_n]) dX7_goal_37 ⟨by decide, by decide⟩ rfl (fun H locs hM => ?_)
        obtain ⟨hB27, h⟩ := k_gd h
        cases h
        exact m_zret hx hb hr hlk hM hB27 rfl rfl dX7_goal_40
  · replace h := (k_if h).2 c3
    refine lv_aload_n hx hb dX7_goal_11 rfl (lv_at hl 1 rfl) ?_
    refine lv_iload_n hx hb dX7_goal_12 rfl (lv_at hl 0 rfl) ?_
    obtain ⟨w28, hzw28, h⟩ := k_bd h
    refine m_callV (C := RX7) (T := TX7) (N := 8) (ci := 7) (n := 1) (As := [.int w2]) (rest := []) (st1 := (.int w28.1 :: [])) E hM hl.1 ok1 (by decide) rfl rfl (c_X7_deny l D cy sz H0 u r w2 hzw28) wl_X7_63 wm_X7_deny ws_X7_deny wi_X7 wd_X7_deny rfl rfl (by decide +kernel) ⟨by decide, by decide⟩ rfl rfl (by first | exact Nat.le_of_ble_eq_true rfl | simp [rv_cat, cat_i, cat_l, cat_r, cat_n]) dX7_goal_13 ⟨by decide, by decide⟩ rfl (fun H locs hM => ?_)
    obtain ⟨hB29, h⟩ := k_gd h
    cases h
    exact m_zret hx hb hr hlk hM hB29 rfl rfl dX7_goal_16

abbrev rm_X7_plan : Room := { frames := 3, cells := 0, slots := 0, locals := 108 }
def f_X7_plan (r : Nat) (u : Mm) : Option ((Int32) × Mm) := gd (okO u r 7) (bb (gR u r 3) (fun x2 => cs x2 none (fun k3 => gd (okO u k3 4) (bd (f_X4_makePlan k3 u) (fun w5 => (if w5.1 = 0 then gd (okO w5.2 r 7) (bd (f_X7_refuse r (12 : Int32) w5.2) (fun w8 => some (w8.1, w8.2))) else gd (okO w5.2 r 7) (bb (gR w5.2 r 3) (fun x10 => cs x10 none (fun k11 => gd (okO w5.2 k11 4) (bd (f_X7_answer r (gI w5.2 k11 6) w5.2) (fun w13 => some (w13.1, w13.2))))))))))))
set_option maxHeartbeats 4000000 in
set_option maxRecDepth 100000 in
theorem c_X7_plan (l : Launch) (D : va_G) (cy : Nat → ClassId) (sz : Nat) (H0 : Heap) (u : Mm) (r : Nat) {res : (Int32) × Mm} (h : f_X7_plan r u = some res) : Ctr l yX7_plan cX7_plan 1 (some .int) rm_X7_plan 0 0 D cy sz H0 u [.ref (sz + r)] (some (.int res.1)) res.2 := by
  refine m_start (lv := [(0, .ref (sz + r))]) (by decide) (by first | exact Nat.le_of_ble_eq_true rfl | simp [lg_sl, rv_cat, cat_i, cat_l, cat_r, cat_n]) (by first | rfl | simp [lv_args, rv_cat, cat_i, cat_l, cat_r, cat_n]) ?_
  intro p e s m below meth c ls E hr hlk hinit hM hl
  obtain ⟨hx, hb, hml, hown, hts, hKK⟩ := id E
  obtain ⟨H, hH⟩ : ∃ H, H = s.heap := ⟨_, rfl⟩
  obtain ⟨locs, hlocs⟩ : ∃ L : List Loc, L = [] := ⟨_, rfl⟩
  rw [← hH, ← hlocs] at hM ⊢
  unfold f_X7_plan at h
  refine lv_aload_n hx hb dX7_plan_0 rfl (lv_at hl 0 rfl) ?_
  obtain ⟨ok1, h⟩ := k_gd h
  refine gs_X7_32 E hM ok1 dX7_plan_1 (fun x2 hxx2 => ?_)
  replace h := k_bb h x2 hxx2.symm
  rcases x2 with _ | k3
  · cases h
  rw [cs_s] at h
  obtain ⟨ok4, h⟩ := k_gd h
  obtain ⟨w5, hzw5, h⟩ := k_bd h
  refine m_callV (C := RX4) (T := TX4) (N := 7) (ci := 4) (n := 0) (As := []) (rest := []) (st1 := (.int w5.1 :: [])) E hM hl.1 ok4 (by decide) rfl rfl (c_X4_makePlan l D cy sz H0 u k3 hzw5) wl_X7_258 wm_X4_makePlan ws_X4_makePlan wi_X4 wd_X4_makePlan rfl rfl (by decide +kernel) ⟨by decide, by decide⟩ rfl rfl (by first | exact Nat.le_of_ble_eq_true rfl | simp [rv_cat, cat_i, cat_l, cat_r, cat_n]) dX7_plan_4 ⟨by decide, by decide⟩ rfl (fun H locs hM => ?_)
  refine lv_if_eq (tgt := 24) hx hb dX7_plan_7 (by decide) (fun c6 => ?_) (fun c6 => ?_)
  · replace h := (k_if h).1 c6
    refine lv_aload_n hx hb dX7_plan_24 rfl (lv_at hl 0 rfl) ?_
    refine lv_bipush (v := 12) hx hb dX7_plan_25 (by decide) ?_
    obtain ⟨ok7, h⟩ := k_gd h
    obtain ⟨w8, hzw8, h⟩ := k_bd h
    refine m_callV (C := RX7) (T := TX7) (N := 8) (ci := 7) (n := 1) (As := [.int (12 : Int32)]) (rest := []) (st1 := (.int w8.1 :: [])) E hM hl.1 ok7 (by decide) rfl rfl (c_X7_refuse l D cy sz H0 w5.2 r (12 : Int32) hzw8) wl_X7_83 wm_X7_refuse ws_X7_refuse wi_X7 wd_X7_refuse rfl rfl (by decide +kernel) ⟨by decide, by decide⟩ rfl rfl (by first | exact Nat.le_of_ble_eq_true rfl | simp [rv_cat, cat_i, cat_l, cat_r, cat_n]) dX7_plan_27 ⟨by decide, by decide⟩ rfl (fun H locs hM => ?_)
    cases h
    exact m_iret hx hb hr hlk hM rfl rfl dX7_plan_30
  · replace h := (k_if h).2 c6
    refine lv_aload_n hx hb dX7_plan_10 rfl (lv_at hl 0 rfl) ?_
    refine lv_aload_n hx hb dX7_plan_11 rfl (lv_at hl 0 rfl) ?_
    obtain ⟨ok9, h⟩ := k_gd h
    refine gs_X7_32 E hM ok9 dX7_plan_12 (fun x10 hxx10 => ?_)
    replace h := k_bb h x10 hxx10.symm
    rcases x10 with _ | k11
    · cases h
    rw [cs_s] at h
    obtain ⟨ok12, h⟩ := k_gd h
    refine gs_X7_261 E hM ok12 dX7_plan_15 ?_
    obtain ⟨w13, hzw13, h⟩ := k_bd h
    refine m_callV (C := RX7) (T := TX7) (N := 8) (ci := 7) (n := 1) (As := [.int (gI w5.2 k11 6)]) (rest := []) (st1 := (.int w13.1 :: [])) E hM hl.1 ok9 (by decide) rfl rfl (c_X7_answer l D cy sz H0 w5.2 r (gI w5.2 k11 6) hzw13) wl_X7_126 wm_X7_answer ws_X7_answer wi_X7 wd_X7_answer rfl rfl (by decide +kernel) ⟨by decide, by decide⟩ rfl rfl (by first | exact Nat.le_of_ble_eq_true rfl | simp [rv_cat, cat_i, cat_l, cat_r, cat_n]) dX7_plan_18 ⟨by decide, by decide⟩ rfl (fun H locs hM => ?_)
    refine lv_goto (tgt := 30) hx hb dX7_plan_21 (by decide) ?_
    cases h
    exact m_iret hx hb hr hlk hM rfl rfl dX7_plan_30

abbrev rm_X7_carry : Room := { frames := 3, cells := 0, slots := 0, locals := 108 }
def f_X7_carry (r : Nat) (p1 : Int32) (p2 : Int32) (u : Mm) : Option ((Int32) × Mm) := gd (okO u r 7) (bb (gR u r 3) (fun x2 => cs x2 none (fun k3 => gd (okO u k3 4) (bd (f_X4_makePlan k3 u) (fun w5 => (if w5.1 = 0 then gd (okO w5.2 r 7) (bd (f_X7_refuse r (12 : Int32) w5.2) (fun w40 => some (w40.1, w40.2))) else gd (okO w5.2 r 7) (bb (gR w5.2 r 3) (fun x8 => cs x8 none (fun k9 => gd (okO w5.2 k9 4) (bd (f_X7_within p1 (0 : Int32) ((gI w5.2 k9 6) - (1 : Int32)) w5.2) (fun w11 => (if w11 = 0 then bd (f_X7_refuse r (9 : Int32) w5.2) (fun w38 => some (w38.1, w38.2)) else (if p2 = 0 then bb (gR w5.2 r 3) (fun x14 => cs x14 none (fun k15 => gd (okO w5.2 k15 4) (bb (gR w5.2 k15 3) (fun x17 => cs x17 none (fun k18 => gd (okA w5.2 k18 9 p1) (bd (f_X7_answer r (gI w5.2 k18 (Int32.toNatClampNeg p1)) w5.2) (fun w20 => some (w20.1, w20.2)))))))) else (if p2 = 1 then bb (gR w5.2 r 3) (fun x22 => cs x22 none (fun k23 => gd (okO w5.2 k23 4) (bb (gR w5.2 k23 4) (fun x25 => cs x25 none (fun k26 => gd (okA w5.2 k26 9 p1) (bd (f_X7_answer r (gI w5.2 k26 (Int32.toNatClampNeg p1)) w5.2) (fun w28 => some (w28.1, w28.2)))))))) else (if p2 = 2 then bb (gR w5.2 r 3) (fun x30 => cs x30 none (fun k31 => gd (okO w5.2 k31 4) (bb (gR w5.2 k31 5) (fun x33 => cs x33 none (fun k34 => gd (okA w5.2 k34 9 p1) (bd (f_X7_answer r (gI w5.2 k34 (Int32.toNatClampNeg p1)) w5.2) (fun w36 => some (w36.1, w36.2)))))))) else (bd (f_X7_refuse r (5 : Int32) w5.2) (fun w37 => some (w37.1, w37.2))))))))))))))))))
set_option maxHeartbeats 4000000 in
set_option maxRecDepth 100000 in
theorem c_X7_carry (l : Launch) (D : va_G) (cy : Nat → ClassId) (sz : Nat) (H0 : Heap) (u : Mm) (r : Nat) (p1 : Int32) (p2 : Int32) {res : (Int32) × Mm} (h : f_X7_carry r p1 p2 u = some res) : Ctr l yX7_carry cX7_carry 3 (some .int) rm_X7_carry 0 0 D cy sz H0 u [.ref (sz + r), .int p1, .int p2] (some (.int res.1)) res.2 := by
  refine m_start (lv := [(0, .ref (sz + r)), (1, .int p1), (2, .int p2)]) (by decide) (by first | exact Nat.le_of_ble_eq_true rfl | simp [lg_sl, rv_cat, cat_i, cat_l, cat_r, cat_n]) (by first | rfl | simp [lv_args, rv_cat, cat_i, cat_l, cat_r, cat_n]) ?_
  intro p e s m below meth c ls E hr hlk hinit hM hl
  obtain ⟨hx, hb, hml, hown, hts, hKK⟩ := id E
  obtain ⟨H, hH⟩ : ∃ H, H = s.heap := ⟨_, rfl⟩
  obtain ⟨locs, hlocs⟩ : ∃ L : List Loc, L = [] := ⟨_, rfl⟩
  rw [← hH, ← hlocs] at hM ⊢
  unfold f_X7_carry at h
  refine lv_aload_n hx hb dX7_carry_0 rfl (lv_at hl 0 rfl) ?_
  obtain ⟨ok1, h⟩ := k_gd h
  refine gs_X7_32 E hM ok1 dX7_carry_1 (fun x2 hxx2 => ?_)
  replace h := k_bb h x2 hxx2.symm
  rcases x2 with _ | k3
  · cases h
  rw [cs_s] at h
  obtain ⟨ok4, h⟩ := k_gd h
  obtain ⟨w5, hzw5, h⟩ := k_bd h
  refine m_callV (C := RX4) (T := TX4) (N := 7) (ci := 4) (n := 0) (As := []) (rest := []) (st1 := (.int w5.1 :: [])) E hM hl.1 ok4 (by decide) rfl rfl (c_X4_makePlan l D cy sz H0 u k3 hzw5) wl_X7_258 wm_X4_makePlan ws_X4_makePlan wi_X4 wd_X4_makePlan rfl rfl (by decide +kernel) ⟨by decide, by decide⟩ rfl rfl (by first | exact Nat.le_of_ble_eq_true rfl | simp [rv_cat, cat_i, cat_l, cat_r, cat_n]) dX7_carry_4 ⟨by decide, by decide⟩ rfl (fun H locs hM => ?_)
  refine lv_if_ne (tgt := 17) hx hb dX7_carry_7 (by decide) (fun c6 => ?_) (fun c6 => ?_)
  · replace h := (k_if h).2 c6
    refine lv_iload_n hx hb dX7_carry_17 rfl (lv_at hl 1 rfl) ?_
    refine lv_iconst (v := 0) hx hb dX7_carry_18 (by decide) ?_
    refine lv_aload_n hx hb dX7_carry_19 rfl (lv_at hl 0 rfl) ?_
    obtain ⟨ok7, h⟩ := k_gd h
    refine gs_X7_32 E hM ok7 dX7_carry_20 (fun x8 hxx8 => ?_)
    replace h := k_bb h x8 hxx8.symm
    rcases x8 with _ | k9
    · cases h
    rw [cs_s] at h
    obtain ⟨ok10, h⟩ := k_gd h
    refine gs_X7_261 E hM ok10 dX7_carry_23 ?_
    refine lv_iconst (v := 1) hx hb dX7_carry_26 (by decide) ?_
    refine lv_isub hx hb dX7_carry_27 ?_
    obtain ⟨w11, hzw11, h⟩ := k_bd h
    refine m_callS (n := 3) (As := [.int p1, .int (0 : Int32), .int ((gI w5.2 k9 6) - (1 : Int32))]) (rest := []) (st1 := (.int w11 :: [])) E hM hl.1 (c_X7_within l D cy sz H0 w5.2 p1 (0 : Int32) ((gI w5.2 k9 6) - (1 : Int32)) hzw11) wl_X7_59 wst_X7_within wi_X7 wd_X7_within rfl rfl (by decide +kernel) ⟨by decide, by decide⟩ rfl rfl (by first | exact Nat.le_of_ble_eq_true rfl | simp [rv_cat, cat_i, cat_l, cat_r, cat_n]) dX7_carry_28 ⟨by decide, by decide⟩ rfl (fun H locs hM => ?_)
    refine lv_if_ne (tgt := 41) hx hb dX7_carry_31 (by decide) (fun c12 => ?_) (fun c12 => ?_)
    · replace h := (k_if h).2 c12
      refine lv_iload_n hx hb dX7_carry_41 rfl (lv_at hl 2 rfl) ?_
      by_cases c13 : p2 = 0
      · replace h := (k_if h).1 c13
        refine m_tsw (k := 0) (tgt := 68) hx hb dX7_carry_42 c13 (by decide) (by decide) rfl (by decide) ?_
        refine lv_aload_n hx hb dX7_carry_68 rfl (lv_at hl 0 rfl) ?_
        refine lv_aload_n hx hb dX7_carry_69 rfl (lv_at hl 0 rfl) ?_
        refine gs_X7_32 E hM ok7 dX7_carry_70 (fun x14 hxx14 => ?_)
        replace h := k_bb h x14 hxx14.symm
        rcases x14 with _ | k15
        · cases h
        rw [cs_s] at h
        obtain ⟨ok16, h⟩ := k_gd h
        refine gs_X7_264 E hM ok16 dX7_carry_73 (fun x17 hxx17 => ?_)
        replace h := k_bb h x17 hxx17.symm
        refine lv_iload_n hx hb dX7_carry_76 rfl (lv_at hl 1 rfl) ?_
        rcases x17 with _ | k18
        · cases h
        rw [cs_s] at h
        obtain ⟨ok19, h⟩ := k_gd h
        refine m_iald E hM ok19 dX7_carry_77 ?_
        obtain ⟨w20, hzw20, h⟩ := k_bd h
        refine m_callV (C := RX7) (T := TX7) (N := 8) (ci := 7) (n := 1) (As := [.int (gI w5.2 k18 (Int32.toNatClampNeg p1))]) (rest := []) (st1 := (.int w20.1 :: [])) E hM hl.1 ok7 (by decide) rfl rfl (c_X7_answer l D cy sz H0 w5.2 r (gI w5.2 k18 (Int32.toNatClampNeg p1)) hzw20) wl_X7_126 wm_X7_answer ws_X7_answer wi_X7 wd_X7_answer rfl rfl (by decide +kernel) ⟨by decide, by decide⟩ rfl rfl (by first | exact Nat.le_of_ble_eq_true rfl | simp [rv_cat, cat_i, cat_l, cat_r, cat_n]) dX7_carry_78 ⟨by decide, by decide⟩ rfl (fun H locs hM => ?_)
        cases h
        exact m_iret hx hb hr hlk hM rfl rfl dX7_carry_81
      replace h := (k_if h).2 c13
      by_cases c21 : p2 = 1
      · replace h := (k_if h).1 c21
        refine m_tsw (k := 1) (tgt := 82) hx hb dX7_carry_42 c21 (by decide) (by decide) rfl (by decide) ?_
        refine lv_aload_n hx hb dX7_carry_82 rfl (lv_at hl 0 rfl) ?_
        refine lv_aload_n hx hb dX7_carry_83 rfl (lv_at hl 0 rfl) ?_
        refine gs_X7_32 E hM ok7 dX7_carry_84 (fun x22 hxx22 => ?_)
        replace h := k_bb h x22 hxx22.symm
        rcases x22 with _ | k23
        · cases h
        rw [cs_s] at h
        obtain ⟨ok24, h⟩ := k_gd h
        refine gs_X7_267 E hM ok24 dX7_carry_87 (fun x25 hxx25 => ?_)
        replace h := k_bb h x25 hxx25.symm
        refine lv_iload_n hx hb dX7_carry_90 rfl (lv_at hl 1 rfl) ?_
        rcases x25 with _ | k26
        · cases h
        rw [cs_s] at h
        obtain ⟨ok27, h⟩ := k_gd h
        refine m_iald E hM ok27 dX7_carry_91 ?_
        obtain ⟨w28, hzw28, h⟩ := k_bd h
        refine m_callV (C := RX7) (T := TX7) (N := 8) (ci := 7) (n := 1) (As := [.int (gI w5.2 k26 (Int32.toNatClampNeg p1))]) (rest := []) (st1 := (.int w28.1 :: [])) E hM hl.1 ok7 (by decide) rfl rfl (c_X7_answer l D cy sz H0 w5.2 r (gI w5.2 k26 (Int32.toNatClampNeg p1)) hzw28) wl_X7_126 wm_X7_answer ws_X7_answer wi_X7 wd_X7_answer rfl rfl (by decide +kernel) ⟨by decide, by decide⟩ rfl rfl (by first | exact Nat.le_of_ble_eq_true rfl | simp [rv_cat, cat_i, cat_l, cat_r, cat_n]) dX7_carry_92 ⟨by decide, by decide⟩ rfl (fun H locs hM => ?_)
        cases h
        exact m_iret hx hb hr hlk hM rfl rfl dX7_carry_95
      replace h := (k_if h).2 c21
      by_cases c29 : p2 = 2
      · replace h := (k_if h).1 c29
        refine m_tsw (k := 2) (tgt := 96) hx hb dX7_carry_42 c29 (by decide) (by decide) rfl (by decide) ?_
        refine lv_aload_n hx hb dX7_carry_96 rfl (lv_at hl 0 rfl) ?_
        refine lv_aload_n hx hb dX7_carry_97 rfl (lv_at hl 0 rfl) ?_
        refine gs_X7_32 E hM ok7 dX7_carry_98 (fun x30 hxx30 => ?_)
        replace h := k_bb h x30 hxx30.symm
        rcases x30 with _ | k31
        · cases h
        rw [cs_s] at h
        obtain ⟨ok32, h⟩ := k_gd h
        refine gs_X7_270 E hM ok32 dX7_carry_101 (fun x33 hxx33 => ?_)
        replace h := k_bb h x33 hxx33.symm
        refine lv_iload_n hx hb dX7_carry_104 rfl (lv_at hl 1 rfl) ?_
        rcases x33 with _ | k34
        · cases h
        rw [cs_s] at h
        obtain ⟨ok35, h⟩ := k_gd h
        refine m_iald E hM ok35 dX7_carry_105 ?_
        obtain ⟨w36, hzw36, h⟩ := k_bd h
        refine m_callV (C := RX7) (T := TX7) (N := 8) (ci := 7) (n := 1) (As := [.int (gI w5.2 k34 (Int32.toNatClampNeg p1))]) (rest := []) (st1 := (.int w36.1 :: [])) E hM hl.1 ok7 (by decide) rfl rfl (c_X7_answer l D cy sz H0 w5.2 r (gI w5.2 k34 (Int32.toNatClampNeg p1)) hzw36) wl_X7_126 wm_X7_answer ws_X7_answer wi_X7 wd_X7_answer rfl rfl (by decide +kernel) ⟨by decide, by decide⟩ rfl rfl (by first | exact Nat.le_of_ble_eq_true rfl | simp [rv_cat, cat_i, cat_l, cat_r, cat_n]) dX7_carry_106 ⟨by decide, by decide⟩ rfl (fun H locs hM => ?_)
        cases h
        exact m_iret hx hb hr hlk hM rfl rfl dX7_carry_109
      replace h := (k_if h).2 c29
      refine lv_tableOut (tgt := 110) hx hb dX7_carry_42 (by have qc13 := lv_neT (a := 0) c13 (by decide); have qc21 := lv_neT (a := 1) c21 (by decide); have qc29 := lv_neT (a := 2) c29 (by decide); omega) (by decide) ?_
      refine lv_aload_n hx hb dX7_carry_110 rfl (lv_at hl 0 rfl) ?_
      refine lv_iconst (v := 5) hx hb dX7_carry_111 (by decide) ?_
      obtain ⟨w37, hzw37, h⟩ := k_bd h
      refine m_callV (C := RX7) (T := TX7) (N := 8) (ci := 7) (n := 1) (As := [.int (5 : Int32)]) (rest := []) (st1 := (.int w37.1 :: [])) E hM hl.1 ok7 (by decide) rfl rfl (c_X7_refuse l D cy sz H0 w5.2 r (5 : Int32) hzw37) wl_X7_83 wm_X7_refuse ws_X7_refuse wi_X7 wd_X7_refuse rfl rfl (by decide +kernel) ⟨by decide, by decide⟩ rfl rfl (by first | exact Nat.le_of_ble_eq_true rfl | simp [rv_cat, cat_i, cat_l, cat_r, cat_n]) dX7_carry_112 ⟨by decide, by decide⟩ rfl (fun H locs hM => ?_)
      cases h
      exact m_iret hx hb hr hlk hM rfl rfl dX7_carry_115
    · replace h := (k_if h).1 c12
      refine lv_aload_n hx hb dX7_carry_34 rfl (lv_at hl 0 rfl) ?_
      refine lv_bipush (v := 9) hx hb dX7_carry_35 (by decide) ?_
      obtain ⟨w38, hzw38, h⟩ := k_bd h
      refine m_callV (C := RX7) (T := TX7) (N := 8) (ci := 7) (n := 1) (As := [.int (9 : Int32)]) (rest := []) (st1 := (.int w38.1 :: [])) E hM hl.1 ok7 (by decide) rfl rfl (c_X7_refuse l D cy sz H0 w5.2 r (9 : Int32) hzw38) wl_X7_83 wm_X7_refuse ws_X7_refuse wi_X7 wd_X7_refuse rfl rfl (by decide +kernel) ⟨by decide, by decide⟩ rfl rfl (by first | exact Nat.le_of_ble_eq_true rfl | simp [rv_cat, cat_i, cat_l, cat_r, cat_n]) dX7_carry_37 ⟨by decide, by decide⟩ rfl (fun H locs hM => ?_)
      cases h
      exact m_iret hx hb hr hlk hM rfl rfl dX7_carry_40
  · replace h := (k_if h).1 c6
    refine lv_aload_n hx hb dX7_carry_10 rfl (lv_at hl 0 rfl) ?_
    refine lv_bipush (v := 12) hx hb dX7_carry_11 (by decide) ?_
    obtain ⟨ok39, h⟩ := k_gd h
    obtain ⟨w40, hzw40, h⟩ := k_bd h
    refine m_callV (C := RX7) (T := TX7) (N := 8) (ci := 7) (n := 1) (As := [.int (12 : Int32)]) (rest := []) (st1 := (.int w40.1 :: [])) E hM hl.1 ok39 (by decide) rfl rfl (c_X7_refuse l D cy sz H0 w5.2 r (12 : Int32) hzw40) wl_X7_83 wm_X7_refuse ws_X7_refuse wi_X7 wd_X7_refuse rfl rfl (by decide +kernel) ⟨by decide, by decide⟩ rfl rfl (by first | exact Nat.le_of_ble_eq_true rfl | simp [rv_cat, cat_i, cat_l, cat_r, cat_n]) dX7_carry_13 ⟨by decide, by decide⟩ rfl (fun H locs hM => ?_)
    cases h
    exact m_iret hx hb hr hlk hM rfl rfl dX7_carry_16

