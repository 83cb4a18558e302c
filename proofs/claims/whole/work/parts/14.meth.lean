abbrev rm_X7_whyNotIn : Room := { frames := 1, cells := 0, slots := 0, locals := 36 }
def f_X7_whyNotIn (p1 : Option Nat) (p2 : Int32) (u : Mm) : Option (Int32) := cs p1 (some (1 : Int32)) (fun k1 => gd (okO u k1 6) (bd (f_X6_isMissing k1 u) (fun w3 => (if w3 = 0 then bd (f_X6_hasPlace k1 p2 u) (fun w5 => (if w5 = 0 then some (4 : Int32) else some (0 : Int32))) else some (3 : Int32)))))
set_option maxHeartbeats 4000000 in
set_option maxRecDepth 100000 in
theorem c_X7_whyNotIn (l : Launch) (D : va_G) (cy : Nat → ClassId) (sz : Nat) (H0 : Heap) (u : Mm) (p1 : Option Nat) (p2 : Int32) {res : Int32} (h : f_X7_whyNotIn p1 p2 u = some res) : Ctr l yX7_whyNotIn cX7_whyNotIn 2 (some .int) rm_X7_whyNotIn 0 0 D cy sz H0 u [rv sz p1, .int p2] (some (.int res)) u := by
  refine m_start (lv := [(0, rv sz p1), (1, .int p2)]) (by decide) (by first | exact Nat.le_of_ble_eq_true rfl | simp [lg_sl, rv_cat, cat_i, cat_l, cat_r, cat_n]) (by first | rfl | simp [lv_args, rv_cat, cat_i, cat_l, cat_r, cat_n]) ?_
  intro p e s m below meth c ls E hr hlk hinit hM hl
  obtain ⟨hx, hb, hml, hown, hts, hKK⟩ := id E
  obtain ⟨H, hH⟩ : ∃ H, H = s.heap := ⟨_, rfl⟩
  obtain ⟨locs, hlocs⟩ : ∃ L : List Loc, L = [] := ⟨_, rfl⟩
  rw [← hH, ← hlocs] at hM ⊢
  unfold f_X7_whyNotIn at h
  refine m_aload_n hx hb dX7_whyNotIn_0 rfl (lv_at hl 0 rfl) ?_
  rcases p1 with _ | k1
  · rw [cs_n] at h
    refine lv_ifnonnullN hx hb dX7_whyNotIn_1 ?_
    refine lv_iconst (v := 1) hx hb dX7_whyNotIn_4 (by decide) ?_
    cases h
    exact m_iret hx hb hr hlk hM rfl rfl dX7_whyNotIn_5
  · rw [cs_s] at h
    refine lv_ifnonnull (tgt := 6) hx hb dX7_whyNotIn_1 (by decide) ?_
    refine lv_aload_n hx hb dX7_whyNotIn_6 rfl (lv_at hl 0 rfl) ?_
    obtain ⟨ok2, h⟩ := k_gd h
    obtain ⟨w3, hzw3, h⟩ := k_bd h
    refine m_callV (C := RX6) (T := TX6) (N := 3) (ci := 6) (n := 0) (As := []) (rest := []) (st1 := (.int w3 :: [])) E hM hl.1 ok2 (by decide) rfl rfl (c_X6_isMissing l D cy sz H0 u k1 hzw3) wl_X7_91 wm_X6_isMissing ws_X6_isMissing wi_X6 wd_X6_isMissing rfl rfl (by decide +kernel) ⟨by decide, by decide⟩ rfl rfl (by first | exact Nat.le_of_ble_eq_true rfl | simp [rv_cat, cat_i, cat_l, cat_r, cat_n]) dX7_whyNotIn_7 ⟨by decide, by decide⟩ rfl (fun H locs hM => ?_)
    refine lv_if_eq (tgt := 15) hx hb dX7_whyNotIn_10 (by decide) (fun c4 => ?_) (fun c4 => ?_)
    · replace h := (k_if h).1 c4
      refine lv_aload_n hx hb dX7_whyNotIn_15 rfl (lv_at hl 0 rfl) ?_
      refine lv_iload_n hx hb dX7_whyNotIn_16 rfl (lv_at hl 1 rfl) ?_
      obtain ⟨w5, hzw5, h⟩ := k_bd h
      refine m_callV (C := RX6) (T := TX6) (N := 3) (ci := 6) (n := 1) (As := [.int p2]) (rest := []) (st1 := (.int w5 :: [])) E hM hl.1 ok2 (by decide) rfl rfl (c_X6_hasPlace l D cy sz H0 u k1 p2 hzw5) wl_X7_223 wm_X6_hasPlace ws_X6_hasPlace wi_X6 wd_X6_hasPlace rfl rfl (by decide +kernel) ⟨by decide, by decide⟩ rfl rfl (by first | exact Nat.le_of_ble_eq_true rfl | simp [rv_cat, cat_i, cat_l, cat_r, cat_n]) dX7_whyNotIn_17 ⟨by decide, by decide⟩ rfl (fun H locs hM => ?_)
      refine lv_if_eq (tgt := 27) hx hb dX7_whyNotIn_20 (by decide) (fun c6 => ?_) (fun c6 => ?_)
      · replace h := (k_if h).1 c6
        refine lv_iconst (v := 4) hx hb dX7_whyNotIn_27 (by decide) ?_
        cases h
        exact m_iret hx hb hr hlk hM rfl rfl dX7_whyNotIn_28
      · replace h := (k_if h).2 c6
        refine lv_iconst (v := 0) hx hb dX7_whyNotIn_23 (by decide) ?_
        refine lv_goto (tgt := 28) hx hb dX7_whyNotIn_24 (by decide) ?_
        cases h
        exact m_iret hx hb hr hlk hM rfl rfl dX7_whyNotIn_28
    · replace h := (k_if h).2 c4
      refine lv_iconst (v := 3) hx hb dX7_whyNotIn_13 (by decide) ?_
      cases h
      exact m_iret hx hb hr hlk hM rfl rfl dX7_whyNotIn_14

abbrev rm_X7_write : Room := { frames := 2, cells := 0, slots := 0, locals := 72 }
def f_X7_write (r : Nat) (p1 : Int32) (p2 : Int32) (p3 : Int64) (u : Mm) : Option ((Int32) × Mm) := gd (okO u r 7) (bd (f_X7_trayAt r p1 u) (fun w2 => bd (f_X7_whyNotIn w2 p2 u) (fun w3 => cs w2 (bd (f_X7_deny r w3 u) (fun w5 => gd (isB w5.1) (some (w5.1, w5.2)))) (fun k4 => (if w3 = 0 then gd (okO u k4 6) (bd (f_X6_put k4 p2 p3 u) (fun w9 => gd (okO w9 r 7) (bd (f_X7_grant r w9) (fun w11 => gd (isB w11.1) (some (w11.1, w11.2)))))) else bd (f_X7_deny r w3 u) (fun w13 => gd (isB w13.1) (some (w13.1, w13.2))))))))
set_option maxHeartbeats 4000000 in
set_option maxRecDepth 100000 in
theorem c_X7_write (l : Launch) (D : va_G) (cy : Nat → ClassId) (sz : Nat) (H0 : Heap) (u : Mm) (r : Nat) (p1 : Int32) (p2 : Int32) (p3 : Int64) {res : (Int32) × Mm} (h : f_X7_write r p1 p2 p3 u = some res) : Ctr l yX7_write cX7_write 7 (some .boolean) rm_X7_write 0 0 D cy sz H0 u [.ref (sz + r), .int p1, .int p2, .long p3] (some (.int res.1)) res.2 := by
  refine m_start (lv := [(0, .ref (sz + r)), (1, .int p1), (2, .int p2), (3, .long p3)]) (by decide) (by first | exact Nat.le_of_ble_eq_true rfl | simp [lg_sl, rv_cat, cat_i, cat_l, cat_r, cat_n]) (by first | rfl | simp [lv_args, rv_cat, cat_i, cat_l, cat_r, cat_n]) ?_
  intro p e s m below meth c ls E hr hlk hinit hM hl
  obtain ⟨hx, hb, hml, hown, hts, hKK⟩ := id E
  obtain ⟨H, hH⟩ : ∃ H, H = s.heap := ⟨_, rfl⟩
  obtain ⟨locs, hlocs⟩ : ∃ L : List Loc, L = [] := ⟨_, rfl⟩
  rw [← hH, ← hlocs] at hM ⊢
  unfold f_X7_write at h
  refine lv_aload_n hx hb dX7_write_0 rfl (lv_at hl 0 rfl) ?_
  refine lv_iload_n hx hb dX7_write_1 rfl (lv_at hl 1 rfl) ?_
  obtain ⟨ok1, h⟩ := k_gd h
  obtain ⟨w2, hzw2, h⟩ := k_bd h
  refine m_callV (C := RX7) (T := TX7) (N := 8) (ci := 7) (n := 1) (As := [.int p1]) (rest := []) (st1 := (rv sz w2 :: [])) E hM hl.1 ok1 (by decide) rfl rfl (c_X7_trayAt l D cy sz H0 u r p1 hzw2) wl_X7_55 wm_X7_trayAt ws_X7_trayAt wi_X7 wd_X7_trayAt rfl rfl (by decide +kernel) ⟨by decide, by decide⟩ rfl rfl (by first | exact Nat.le_of_ble_eq_true rfl | simp [rv_cat, cat_i, cat_l, cat_r, cat_n]) dX7_write_2 ⟨by decide, by decide⟩ rfl (fun H locs hM => ?_)
  refine m_astore (i := 5) (lv' := [(5, rv sz w2), (0, .ref (sz + r)), (1, .int p1), (2, .int p2), (3, .long p3)]) hx hb dX7_write_5 hl (by decide) (by first | rfl | simp [rv_cat, cat_i, cat_l, cat_r, cat_n]) (fun ls hl => ?_)
  refine m_aload hx hb dX7_write_7 (lv_at hl 0 rfl) ?_
  refine lv_iload_n hx hb dX7_write_9 rfl (lv_at hl 3 rfl) ?_
  obtain ⟨w3, hzw3, h⟩ := k_bd h
  refine m_callS (n := 2) (As := [rv sz w2, .int p2]) (rest := []) (st1 := (.int w3 :: [])) E hM hl.1 (c_X7_whyNotIn l D cy sz H0 u w2 p2 hzw3) wl_X7_75 wst_X7_whyNotIn wi_X7 wd_X7_whyNotIn rfl rfl (by decide +kernel) ⟨by decide, by decide⟩ rfl rfl (by first | exact Nat.le_of_ble_eq_true rfl | simp [rv_cat, cat_i, cat_l, cat_r, cat_n]) dX7_write_10 ⟨by decide, by decide⟩ rfl (fun H locs hM => ?_)
  refine lv_istore (i := 6) (lv' := [(6, .int w3), (5, rv sz w2), (0, .ref (sz + r)), (1, .int p1), (2, .int p2), (3, .long p3)]) hx hb dX7_write_13 hl (by decide) (by first | rfl | simp [rv_cat, cat_i, cat_l, cat_r, cat_n]) (fun ls hl => ?_)
  refine m_aload hx hb dX7_write_15 (lv_at hl 1 rfl) ?_
  rcases w2 with _ | k4
  · rw [cs_n] at h
    refine lv_ifnullN (tgt := 25) hx hb dX7_write_17 (by decide) ?_
    refine lv_aload_n hx hb dX7_write_25 rfl (lv_at hl 2 rfl) ?_
    refine lv_iload hx hb dX7_write_26 (lv_at hl 0 rfl) ?_
    obtain ⟨w5, hzw5, h⟩ := k_bd h
    refine m_callV (C := RX7) (T := TX7) (N := 8) (ci := 7) (n := 1) (As := [.int w3]) (rest := []) (st1 := (.int w5.1 :: [])) E hM hl.1 ok1 (by decide) rfl rfl (c_X7_deny l D cy sz H0 u r w3 hzw5) wl_X7_63 wm_X7_deny ws_X7_deny wi_X7 wd_X7_deny rfl rfl (by decide +kernel) ⟨by decide, by decide⟩ rfl rfl (by first | exact Nat.le_of_ble_eq_true rfl | simp [rv_cat, cat_i, cat_l, cat_r, cat_n]) dX7_write_28 ⟨by decide, by decide⟩ rfl (fun H locs hM => ?_)
    obtain ⟨hB6, h⟩ := k_gd h
    cases h
    exact m_zret hx hb hr hlk hM hB6 rfl rfl dX7_write_31
  · rw [cs_s] at h
    refine lv_ifnull hx hb dX7_write_17 ?_
    refine lv_iload hx hb dX7_write_20 (lv_at hl 0 rfl) ?_
    refine lv_if_eq (tgt := 32) hx hb dX7_write_22 (by decide) (fun c7 => ?_) (fun c7 => ?_)
    · replace h := (k_if h).1 c7
      refine lv_aload hx hb dX7_write_32 (lv_at hl 1 rfl) ?_
      refine lv_iload_n hx hb dX7_write_34 rfl (lv_at hl 4 rfl) ?_
      refine lv_lload_n hx hb dX7_write_35 rfl (lv_at hl 5 rfl) ?_
      obtain ⟨ok8, h⟩ := k_gd h
      obtain ⟨w9, hzw9, h⟩ := k_bd h
      refine m_callV (C := RX6) (T := TX6) (N := 3) (ci := 6) (n := 2) (As := [.int p2, .long p3]) (rest := []) (st1 := []) E hM hl.1 ok8 (by decide) rfl rfl (c_X6_put l D cy sz H0 u k4 p2 p3 hzw9) wl_X7_79 wm_X6_put ws_X6_put wi_X6 wd_X6_put rfl rfl (by decide +kernel) ⟨by decide, by decide⟩ rfl rfl (by first | exact Nat.le_of_ble_eq_true rfl | simp [rv_cat, cat_i, cat_l, cat_r, cat_n]) dX7_write_36 ⟨by decide, by decide⟩ rfl (fun H locs hM => ?_)
      refine lv_aload_n hx hb dX7_write_39 rfl (lv_at hl 2 rfl) ?_
      obtain ⟨ok10, h⟩ := k_gd h
      obtain ⟨w11, hzw11, h⟩ := k_bd h
      refine m_callV (C := RX7) (T := TX7) (N := 8) (ci := 7) (n := 0) (As := []) (rest := []) (st1 := (.int w11.1 :: [])) E hM hl.1 ok10 (by decide) rfl rfl (c_X7_grant l D cy sz H0 w9 r hzw11) wl_X7_71 wm_X7_grant ws_X7_grant wi_X7 wd_X7_grant rfl rfl (by decide +kernel) ⟨by decide, by decide⟩ rfl rfl (by first | exact Nat.le_of_ble_eq_true rfl | simp [rv_cat, cat_i, cat_l, cat_r, cat_n]) dX7_write_40 ⟨by decide, by decide⟩ rfl (fun H locs hM => ?_)
      obtain ⟨hB12, h⟩ := k_gd h
      cases h
      exact m_zret hx hb hr hlk hM hB12 rfl rfl dX7_write_43
    · replace h := (k_if h).2 c7
      refine lv_aload_n hx hb dX7_write_25 rfl (lv_at hl 2 rfl) ?_
      refine lv_iload hx hb dX7_write_26 (lv_at hl 0 rfl) ?_
      obtain ⟨w13, hzw13, h⟩ := k_bd h
      refine m_callV (C := RX7) (T := TX7) (N := 8) (ci := 7) (n := 1) (As := [.int w3]) (rest := []) (st1 := (.int w13.1 :: [])) E hM hl.1 ok1 (by decide) rfl rfl (c_X7_deny l D cy sz H0 u r w3 hzw13) wl_X7_63 wm_X7_deny ws_X7_deny wi_X7 wd_X7_deny rfl rfl (by decide +kernel) ⟨by decide, by decide⟩ rfl rfl (by first | exact Nat.le_of_ble_eq_true rfl | simp [rv_cat, cat_i, cat_l, cat_r, cat_n]) dX7_write_28 ⟨by decide, by decide⟩ rfl (fun H locs hM => ?_)
      obtain ⟨hB14, h⟩ := k_gd h
      cases h
      exact m_zret hx hb hr hlk hM hB14 rfl rfl dX7_write_31

abbrev rm_X7_refuse : Room := { frames := 0, cells := 0, slots := 0, locals := 0 }
def f_X7_refuse (r : Nat) (p1 : Int32) (u : Mm) : Option ((Int32) × Mm) := gd (okO u r 7) (some ((-1 : Int32), (sI u r 5 p1)))
set_option maxHeartbeats 4000000 in
set_option maxRecDepth 100000 in
theorem c_X7_refuse (l : Launch) (D : va_G) (cy : Nat → ClassId) (sz : Nat) (H0 : Heap) (u : Mm) (r : Nat) (p1 : Int32) {res : (Int32) × Mm} (h : f_X7_refuse r p1 u = some res) : Ctr l yX7_refuse cX7_refuse 2 (some .int) rm_X7_refuse 0 0 D cy sz H0 u [.ref (sz + r), .int p1] (some (.int res.1)) res.2 := by
  refine m_start (lv := [(0, .ref (sz + r)), (1, .int p1)]) (by decide) (by first | exact Nat.le_of_ble_eq_true rfl | simp [lg_sl, rv_cat, cat_i, cat_l, cat_r, cat_n]) (by first | rfl | simp [lv_args, rv_cat, cat_i, cat_l, cat_r, cat_n]) ?_
  intro p e s m below meth c ls E hr hlk hinit hM hl
  obtain ⟨hx, hb, hml, hown, hts, hKK⟩ := id E
  obtain ⟨H, hH⟩ : ∃ H, H = s.heap := ⟨_, rfl⟩
  obtain ⟨locs, hlocs⟩ : ∃ L : List Loc, L = [] := ⟨_, rfl⟩
  rw [← hH, ← hlocs] at hM ⊢
  unfold f_X7_refuse at h
  refine lv_aload_n hx hb dX7_refuse_0 rfl (lv_at hl 0 rfl) ?_
  refine lv_iload_n hx hb dX7_refuse_1 rfl (lv_at hl 1 rfl) ?_
  obtain ⟨ok1, h⟩ := k_gd h
  refine ps_X7_43 (v := p1) E hM ok1 dX7_refuse_2 (fun H locs hM => ?_)
  refine lv_iconst (v := (-1)) hx hb dX7_refuse_5 (by decide) ?_
  cases h
  exact m_iret hx hb hr hlk hM rfl rfl dX7_refuse_6

abbrev rm_X7_read : Room := { frames := 2, cells := 0, slots := 0, locals := 72 }
def f_X7_read (r : Nat) (p1 : Int32) (p2 : Int32) (u : Mm) : Option ((Int64) × Mm) := gd (okO u r 7) (bd (f_X7_trayAt r p1 u) (fun w2 => bd (f_X7_whyNotIn w2 p2 u) (fun w3 => cs w2 (bd (f_X7_refuse r w3 u) (fun w5 => some ((Int32.toInt64 w5.1), w5.2))) (fun k4 => (if w3 = 0 then gd (okO (sI u r 5 (0 : Int32)) k4 6) (bb (gR (sI u r 5 (0 : Int32)) k4 0) (fun x8 => cs x8 none (fun k9 => gd (okA (sI u r 5 (0 : Int32)) k9 10 p2) (some ((gL (sI u r 5 (0 : Int32)) k9 (Int32.toNatClampNeg p2)), (sI u r 5 (0 : Int32))))))) else bd (f_X7_refuse r w3 u) (fun w11 => some ((Int32.toInt64 w11.1), w11.2)))))))
set_option maxHeartbeats 4000000 in
set_option maxRecDepth 100000 in
theorem c_X7_read (l : Launch) (D : va_G) (cy : Nat → ClassId) (sz : Nat) (H0 : Heap) (u : Mm) (r : Nat) (p1 : Int32) (p2 : Int32) {res : (Int64) × Mm} (h : f_X7_read r p1 p2 u = some res) : Ctr l yX7_read cX7_read 5 (some .long) rm_X7_read 0 0 D cy sz H0 u [.ref (sz + r), .int p1, .int p2] (some (.long res.1)) res.2 := by
  refine m_start (lv := [(0, .ref (sz + r)), (1, .int p1), (2, .int p2)]) (by decide) (by first | exact Nat.le_of_ble_eq_true rfl | simp [lg_sl, rv_cat, cat_i, cat_l, cat_r, cat_n]) (by first | rfl | simp [lv_args, rv_cat, cat_i, cat_l, cat_r, cat_n]) ?_
  intro p e s m below meth c ls E hr hlk hinit hM hl
  obtain ⟨hx, hb, hml, hown, hts, hKK⟩ := id E
  obtain ⟨H, hH⟩ : ∃ H, H = s.heap := ⟨_, rfl⟩
  obtain ⟨locs, hlocs⟩ : ∃ L : List Loc, L = [] := ⟨_, rfl⟩
  rw [← hH, ← hlocs] at hM ⊢
  unfold f_X7_read at h
  refine lv_aload_n hx hb dX7_read_0 rfl (lv_at hl 0 rfl) ?_
  refine lv_iload_n hx hb dX7_read_1 rfl (lv_at hl 1 rfl) ?_
  obtain ⟨ok1, h⟩ := k_gd h
  obtain ⟨w2, hzw2, h⟩ := k_bd h
  refine m_callV (C := RX7) (T := TX7) (N := 8) (ci := 7) (n := 1) (As := [.int p1]) (rest := []) (st1 := (rv sz w2 :: [])) E hM hl.1 ok1 (by decide) rfl rfl (c_X7_trayAt l D cy sz H0 u r p1 hzw2) wl_X7_55 wm_X7_trayAt ws_X7_trayAt wi_X7 wd_X7_trayAt rfl rfl (by decide +kernel) ⟨by decide, by decide⟩ rfl rfl (by first | exact Nat.le_of_ble_eq_true rfl | simp [rv_cat, cat_i, cat_l, cat_r, cat_n]) dX7_read_2 ⟨by decide, by decide⟩ rfl (fun H locs hM => ?_)
  refine m_astore_n (i := 3) (lv' := [(3, rv sz w2), (0, .ref (sz + r)), (1, .int p1), (2, .int p2)]) hx hb dX7_read_5 rfl hl (by decide) (by first | rfl | simp [rv_cat, cat_i, cat_l, cat_r, cat_n]) (fun ls hl => ?_)
  refine m_aload_n hx hb dX7_read_6 rfl (lv_at hl 0 rfl) ?_
  refine lv_iload_n hx hb dX7_read_7 rfl (lv_at hl 3 rfl) ?_
  obtain ⟨w3, hzw3, h⟩ := k_bd h
  refine m_callS (n := 2) (As := [rv sz w2, .int p2]) (rest := []) (st1 := (.int w3 :: [])) E hM hl.1 (c_X7_whyNotIn l D cy sz H0 u w2 p2 hzw3) wl_X7_75 wst_X7_whyNotIn wi_X7 wd_X7_whyNotIn rfl rfl (by decide +kernel) ⟨by decide, by decide⟩ rfl rfl (by first | exact Nat.le_of_ble_eq_true rfl | simp [rv_cat, cat_i, cat_l, cat_r, cat_n]) dX7_read_8 ⟨by decide, by decide⟩ rfl (fun H locs hM => ?_)
  refine lv_istore (i := 4) (lv' := [(4, .int w3), (3, rv sz w2), (0, .ref (sz + r)), (1, .int p1), (2, .int p2)]) hx hb dX7_read_11 hl (by decide) (by first | rfl | simp [rv_cat, cat_i, cat_l, cat_r, cat_n]) (fun ls hl => ?_)
  refine m_aload_n hx hb dX7_read_13 rfl (lv_at hl 1 rfl) ?_
  rcases w2 with _ | k4
  · rw [cs_n] at h
    refine lv_ifnullN (tgt := 22) hx hb dX7_read_14 (by decide) ?_
    refine lv_aload_n hx hb dX7_read_22 rfl (lv_at hl 2 rfl) ?_
    refine lv_iload hx hb dX7_read_23 (lv_at hl 0 rfl) ?_
    obtain ⟨w5, hzw5, h⟩ := k_bd h
    refine m_callV (C := RX7) (T := TX7) (N := 8) (ci := 7) (n := 1) (As := [.int w3]) (rest := []) (st1 := (.int w5.1 :: [])) E hM hl.1 ok1 (by decide) rfl rfl (c_X7_refuse l D cy sz H0 u r w3 hzw5) wl_X7_83 wm_X7_refuse ws_X7_refuse wi_X7 wd_X7_refuse rfl rfl (by decide +kernel) ⟨by decide, by decide⟩ rfl rfl (by first | exact Nat.le_of_ble_eq_true rfl | simp [rv_cat, cat_i, cat_l, cat_r, cat_n]) dX7_read_25 ⟨by decide, by decide⟩ rfl (fun H locs hM => ?_)
    refine lv_i2l hx hb dX7_read_28 rfl ?_
    cases h
    exact m_lret hx hb hr hlk hM rfl rfl dX7_read_29
  · rw [cs_s] at h
    refine lv_ifnull hx hb dX7_read_14 ?_
    refine lv_iload hx hb dX7_read_17 (lv_at hl 0 rfl) ?_
    refine lv_if_eq (tgt := 30) hx hb dX7_read_19 (by decide) (fun c6 => ?_) (fun c6 => ?_)
    · replace h := (k_if h).1 c6
      refine lv_aload_n hx hb dX7_read_30 rfl (lv_at hl 2 rfl) ?_
      refine lv_iconst (v := 0) hx hb dX7_read_31 (by decide) ?_
      refine ps_X7_43 (v := (0 : Int32)) E hM ok1 dX7_read_32 (fun H locs hM => ?_)
      refine lv_aload_n hx hb dX7_read_35 rfl (lv_at hl 1 rfl) ?_
      obtain ⟨ok7, h⟩ := k_gd h
      refine gs_X7_87 E hM ok7 dX7_read_36 (fun x8 hxx8 => ?_)
      replace h := k_bb h x8 hxx8.symm
      refine lv_iload_n hx hb dX7_read_39 rfl (lv_at hl 4 rfl) ?_
      rcases x8 with _ | k9
      · cases h
      rw [cs_s] at h
      obtain ⟨ok10, h⟩ := k_gd h
      refine m_lald E hM ok10 dX7_read_40 ?_
      cases h
      exact m_lret hx hb hr hlk hM rfl rfl dX7_read_41
    · replace h := (k_if h).2 c6
      refine lv_aload_n hx hb dX7_read_22 rfl (lv_at hl 2 rfl) ?_
      refine lv_iload hx hb dX7_read_23 (lv_at hl 0 rfl) ?_
      obtain ⟨w11, hzw11, h⟩ := k_bd h
      refine m_callV (C := RX7) (T := TX7) (N := 8) (ci := 7) (n := 1) (As := [.int w3]) (rest := []) (st1 := (.int w11.1 :: [])) E hM hl.1 ok1 (by decide) rfl rfl (c_X7_refuse l D cy sz H0 u r w3 hzw11) wl_X7_83 wm_X7_refuse ws_X7_refuse wi_X7 wd_X7_refuse rfl rfl (by decide +kernel) ⟨by decide, by decide⟩ rfl rfl (by first | exact Nat.le_of_ble_eq_true rfl | simp [rv_cat, cat_i, cat_l, cat_r, cat_n]) dX7_read_25 ⟨by decide, by decide⟩ rfl (fun H locs hM => ?_)
      refine lv_i2l hx hb dX7_read_28 rfl ?_
      cases h
      exact m_lret hx hb hr hlk hM rfl rfl dX7_read_29

abbrev rm_X7_pour : Room := { frames := 2, cells := 0, slots := 0, locals := 72 }
def f_X7_pour (r : Nat) (p1 : Int32) (p2 : Int32) (p3 : Int32) (p4 : Int32) (p5 : Int32) (u : Mm) : Option ((Int32) × Mm) := gd (okO u r 7) (bd (f_X7_trayAt r p1 u) (fun w2 => bd (f_X7_trayAt r p3 u) (fun w3 => cs w2 (bd (f_X7_deny r (1 : Int32) u) (fun w5 => gd (isB w5.1) (some (w5.1, w5.2)))) (fun k4 => cs w3 (bd (f_X7_deny r (1 : Int32) u) (fun w8 => gd (isB w8.1) (some (w8.1, w8.2)))) (fun k7 => gd (okO u k4 6) (bd (f_X6_isMissing k4 u) (fun w11 => (if w11 = 0 then gd (okO u k7 6) (bd (f_X6_isMissing k7 u) (fun w16 => (if w16 = 0 then (if (gI u k4 1) = (gI u k7 1) then (if 0 ≤ p5 then bd (f_X6_hasRun k4 p2 p5 u) (fun w20 => (if w20 = 0 then bd (f_X7_deny r (4 : Int32) u) (fun w22 => gd (isB w22.1) (some (w22.1, w22.2))) else bd (f_X6_hasRun k7 p4 p5 u) (fun w24 => (if w24 = 0 then bd (f_X7_deny r (4 : Int32) u) (fun w33 => gd (isB w33.1) (some (w33.1, w33.2))) else bb (gR u k4 0) (fun x26 => bb (gR u k7 0) (fun x27 => cs x26 none (fun k28 => cs x27 none (fun k29 => gd (okC u k28 k29 10 p2 p4 p5) (bd (f_X7_grant r (rL u k29 (va_cpy (gL u k28) (gL u k29) (Int32.toNatClampNeg p2) (Int32.toNatClampNeg p4) (Int32.toNatClampNeg p5)))) (fun w31 => gd (isB w31.1) (some (w31.1, w31.2)))))))))))) else bd (f_X7_deny r (6 : Int32) u) (fun w35 => gd (isB w35.1) (some (w35.1, w35.2)))) else bd (f_X7_deny r (11 : Int32) u) (fun w37 => gd (isB w37.1) (some (w37.1, w37.2)))) else bd (f_X7_deny r (3 : Int32) u) (fun w39 => gd (isB w39.1) (some (w39.1, w39.2)))))) else bd (f_X7_deny r (3 : Int32) u) (fun w13 => gd (isB w13.1) (some (w13.1, w13.2)))))))))))
set_option maxHeartbeats 4000000 in
set_option maxRecDepth 100000 in
theorem c_X7_pour (l : Launch) (D : va_G) (cy : Nat → ClassId) (sz : Nat) (H0 : Heap) (u : Mm) (r : Nat) (p1 : Int32) (p2 : Int32) (p3 : Int32) (p4 : Int32) (p5 : Int32) {res : (Int32) × Mm} (h : f_X7_pour r p1 p2 p3 p4 p5 u = some res) : Ctr l yX7_pour cX7_pour 8 (some .boolean) rm_X7_pour 0 0 D cy sz H0 u [.ref (sz + r), .int p1, .int p2, .int p3, .int p4, .int p5] (some (.int res.1)) res.2 := by
  refine m_start (lv := [(0, .ref (sz + r)), (1, .int p1), (2, .int p2), (3, .int p3), (4, .int p4), (5, .int p5)]) (by decide) (by first | exact Nat.le_of_ble_eq_true rfl | simp [lg_sl, rv_cat, cat_i, cat_l, cat_r, cat_n]) (by first | rfl | simp [lv_args, rv_cat, cat_i, cat_l, cat_r, cat_n]) ?_
  intro p e s m below meth c ls E hr hlk hinit hM hl
  obtain ⟨hx, hb, hml, hown, hts, hKK⟩ := id E
  obtain ⟨H, hH⟩ : ∃ H, H = s.heap := ⟨_, rfl⟩
  obtain ⟨locs, hlocs⟩ : ∃ L : List Loc, L = [] := ⟨_, rfl⟩
  rw [← hH, ← hlocs] at hM ⊢
  unfold f_X7_pour at h
  refine lv_aload_n hx hb dX7_pour_0 rfl (lv_at hl 0 rfl) ?_
  refine lv_iload_n hx hb dX7_pour_1 rfl (lv_at hl 1 rfl) ?_
  obtain ⟨ok1, h⟩ := k_gd h
  obtain ⟨w2, hzw2, h⟩ := k_bd h
  refine m_callV (C := RX7) (T := TX7) (N := 8) (ci := 7) (n := 1) (As := [.int p1]) (rest := []) (st1 := (rv sz w2 :: [])) E hM hl.1 ok1 (by decide) rfl rfl (c_X7_trayAt l D cy sz H0 u r p1 hzw2) wl_X7_55 wm_X7_trayAt ws_X7_trayAt wi_X7 wd_X7_trayAt rfl rfl (by decide +kernel) ⟨by decide, by decide⟩ rfl rfl (by first | exact Nat.le_of_ble_eq_true rfl | simp [rv_cat, cat_i, cat_l, cat_r, cat_n]) dX7_pour_2 ⟨by decide, by decide⟩ rfl (fun H locs hM => ?_)
  refine m_astore (i := 6) (lv' := [(6, rv sz w2), (0, .ref (sz + r)), (1, .int p1), (2, .int p2), (3, .int p3), (4, .int p4), (5, .int p5)]) hx hb dX7_pour_5 hl (by decide) (by first | rfl | simp [rv_cat, cat_i, cat_l, cat_r, cat_n]) (fun ls hl => ?_)
  refine lv_aload_n hx hb dX7_pour_7 rfl (lv_at hl 1 rfl) ?_
  refine lv_iload_n hx hb dX7_pour_8 rfl (lv_at hl 4 rfl) ?_
  obtain ⟨w3, hzw3, h⟩ := k_bd h
  refine m_callV (C := RX7) (T := TX7) (N := 8) (ci := 7) (n := 1) (As := [.int p3]) (rest := []) (st1 := (rv sz w3 :: [])) E hM hl.1 ok1 (by decide) rfl rfl (c_X7_trayAt l D cy sz H0 u r p3 hzw3) wl_X7_55 wm_X7_trayAt ws_X7_trayAt wi_X7 wd_X7_trayAt rfl rfl (by decide +kernel) ⟨by decide, by decide⟩ rfl rfl (by first | exact Nat.le_of_ble_eq_true rfl | simp [rv_cat, cat_i, cat_l, cat_r, cat_n]) dX7_pour_9 ⟨by decide, by decide⟩ rfl (fun H locs hM => ?_)
  refine m_astore (i := 7) (lv' := [(7, rv sz w3), (6, rv sz w2), (0, .ref (sz + r)), (1, .int p1), (2, .int p2), (3, .int p3), (4, .int p4), (5, .int p5)]) hx hb dX7_pour_12 hl (by decide) (by first | rfl | simp [rv_cat, cat_i, cat_l, cat_r, cat_n]) (fun ls hl => ?_)
  refine m_aload hx hb dX7_pour_14 (lv_at hl 1 rfl) ?_
  rcases w2 with _ | k4
  · rw [cs_n] at h
    refine lv_ifnullN (tgt := 24) hx hb dX7_pour_16 (by decide) ?_
    refine lv_aload_n hx hb dX7_pour_24 rfl (lv_at hl 2 rfl) ?_
    refine lv_iconst (v := 1) hx hb dX7_pour_25 (by decide) ?_
    obtain ⟨w5, hzw5, h⟩ := k_bd h
    refine m_callV (C := RX7) (T := TX7) (N := 8) (ci := 7) (n := 1) (As := [.int (1 : Int32)]) (rest := []) (st1 := (.int w5.1 :: [])) E hM hl.1 ok1 (by decide) rfl rfl (c_X7_deny l D cy sz H0 u r (1 : Int32) hzw5) wl_X7_63 wm_X7_deny ws_X7_deny wi_X7 wd_X7_deny rfl rfl (by decide +kernel) ⟨by decide, by decide⟩ rfl rfl (by first | exact Nat.le_of_ble_eq_true rfl | simp [rv_cat, cat_i, cat_l, cat_r, cat_n]) dX7_pour_26 ⟨by decide, by decide⟩ rfl (fun H locs hM => ?_)
    obtain ⟨hB6, h⟩ := k_gd h
    cases h
    exact m_zret hx hb hr hlk hM hB6 rfl rfl dX7_pour_29
  · rw [cs_s] at h
    refine lv_ifnull hx hb dX7_pour_16 ?_
    refine m_aload hx hb dX7_pour_19 (lv_at hl 0 rfl) ?_
    rcases w3 with _ | k7
    · rw [cs_n] at h
      refine lv_ifnonnullN hx hb dX7_pour_21 ?_
      refine lv_aload_n hx hb dX7_pour_24 rfl (lv_at hl 2 rfl) ?_
      refine lv_iconst (v := 1) hx hb dX7_pour_25 (by decide) ?_
      obtain ⟨w8, hzw8, h⟩ := k_bd h
      refine m_callV (C := RX7) (T := TX7) (N := 8) (ci := 7) (n := 1) (As := [.int (1 : Int32)]) (rest := []) (st1 := (.int w8.1 :: [])) E hM hl.1 ok1 (by decide) rfl rfl (c_X7_deny l D cy sz H0 u r (1 : Int32) hzw8) wl_X7_63 wm_X7_deny ws_X7_deny wi_X7 wd_X7_deny rfl rfl (by decide +kernel) ⟨by decide, by decide⟩ rfl rfl (by first | exact Nat.le_of_ble_eq_true rfl | simp [rv_cat, cat_i, cat_l, cat_r, cat_n]) dX7_pour_26 ⟨by decide, by decide⟩ rfl (fun H locs hM => ?_)
      obtain ⟨hB9, h⟩ := k_gd h
      cases h
      exact m_zret hx hb hr hlk hM hB9 rfl rfl dX7_pour_29
    · rw [cs_s] at h
      refine lv_ifnonnull (tgt := 30) hx hb dX7_pour_21 (by decide) ?_
      refine lv_aload hx hb dX7_pour_30 (lv_at hl 1 rfl) ?_
      obtain ⟨ok10, h⟩ := k_gd h
      obtain ⟨w11, hzw11, h⟩ := k_bd h
      refine m_callV (C := RX6) (T := TX6) (N := 3) (ci := 6) (n := 0) (As := []) (rest := []) (st1 := (.int w11 :: [])) E hM hl.1 ok10 (by decide) rfl rfl (c_X6_isMissing l D cy sz H0 u k4 hzw11) wl_X7_91 wm_X6_isMissing ws_X6_isMissing wi_X6 wd_X6_isMissing rfl rfl (by decide +kernel) ⟨by decide, by decide⟩ rfl rfl (by first | exact Nat.le_of_ble_eq_true rfl | simp [rv_cat, cat_i, cat_l, cat_r, cat_n]) dX7_pour_32 ⟨by decide, by decide⟩ rfl (fun H locs hM => ?_)
      refine lv_if_ne (tgt := 46) hx hb dX7_pour_35 (by decide) (fun c12 => ?_) (fun c12 => ?_)
      · replace h := (k_if h).2 c12
        refine lv_aload_n hx hb dX7_pour_46 rfl (lv_at hl 2 rfl) ?_
        refine lv_iconst (v := 3) hx hb dX7_pour_47 (by decide) ?_
        obtain ⟨w13, hzw13, h⟩ := k_bd h
        refine m_callV (C := RX7) (T := TX7) (N := 8) (ci := 7) (n := 1) (As := [.int (3 : Int32)]) (rest := []) (st1 := (.int w13.1 :: [])) E hM hl.1 ok1 (by decide) rfl rfl (c_X7_deny l D cy sz H0 u r (3 : Int32) hzw13) wl_X7_63 wm_X7_deny ws_X7_deny wi_X7 wd_X7_deny rfl rfl (by decide +kernel) ⟨by decide, by decide⟩ rfl rfl (by first | exact Nat.le_of_ble_eq_true rfl | simp [rv_cat, cat_i, cat_l, cat_r, cat_n]) dX7_pour_48 ⟨by decide, by decide⟩ rfl (fun H locs hM => ?_)
        obtain ⟨hB14, h⟩ := k_gd h
        cases h
        exact m_zret hx hb hr hlk hM hB14 rfl rfl dX7_pour_51
      · replace h := (k_if h).1 c12
        refine lv_aload hx hb dX7_pour_38 (lv_at hl 0 rfl) ?_
        obtain ⟨ok15, h⟩ := k_gd h
        obtain ⟨w16, hzw16, h⟩ := k_bd h
        refine m_callV (C := RX6) (T := TX6) (N := 3) (ci := 6) (n := 0) (As := []) (rest := []) (st1 := (.int w16 :: [])) E hM hl.1 ok15 (by decide) rfl rfl (c_X6_isMissing l D cy sz H0 u k7 hzw16) wl_X7_91 wm_X6_isMissing ws_X6_isMissing wi_X6 wd_X6_isMissing rfl rfl (by decide +kernel) ⟨by decide, by decide⟩ rfl rfl (by first | exact Nat.le_of_ble_eq_true rfl | simp [rv_cat, cat_i, cat_l, cat_r, cat_n]) dX7_pour_40 ⟨by decide, by decide⟩ rfl (fun H locs hM => ?_)
        refine lv_if_eq (tgt := 52) hx hb dX7_pour_43 (by decide) (fun c17 => ?_) (fun c17 => ?_)
        · replace h := (k_if h).1 c17
          refine lv_aload hx hb dX7_pour_52 (lv_at hl 1 rfl) ?_
          refine gs_X7_94 E hM ok10 dX7_pour_54 ?_
          refine lv_aload hx hb dX7_pour_57 (lv_at hl 0 rfl) ?_
          refine gs_X7_94 E hM ok15 dX7_pour_59 ?_
          refine lv_icmp_eq (tgt := 72) hx hb dX7_pour_62 (by decide) (fun c18 => ?_) (fun c18 => ?_)
          · replace h := (k_if h).1 c18
            refine lv_iload hx hb dX7_pour_72 (lv_at hl 7 rfl) ?_
            refine lv_if_ge (tgt := 84) hx hb dX7_pour_74 (by decide) (fun c19 => ?_) (fun c19 => ?_)
            · replace h := (k_if h).1 c19
              refine lv_aload hx hb dX7_pour_84 (lv_at hl 1 rfl) ?_
              refine lv_iload_n hx hb dX7_pour_86 rfl (lv_at hl 4 rfl) ?_
              refine lv_iload hx hb dX7_pour_87 (lv_at hl 7 rfl) ?_
              obtain ⟨w20, hzw20, h⟩ := k_bd h
              refine m_callV (C := RX6) (T := TX6) (N := 3) (ci := 6) (n := 2) (As := [.int p2, .int p5]) (rest := []) (st1 := (.int w20 :: [])) E hM hl.1 ok10 (by decide) rfl rfl (c_X6_hasRun l D cy sz H0 u k4 p2 p5 hzw20) wl_X7_97 wm_X6_hasRun ws_X6_hasRun wi_X6 wd_X6_hasRun rfl rfl (by decide +kernel) ⟨by decide, by decide⟩ rfl rfl (by first | exact Nat.le_of_ble_eq_true rfl | simp [rv_cat, cat_i, cat_l, cat_r, cat_n]) dX7_pour_89 ⟨by decide, by decide⟩ rfl (fun H locs hM => ?_)
              refine lv_if_eq (tgt := 107) hx hb dX7_pour_92 (by decide) (fun c21 => ?_) (fun c21 => ?_)
              · replace h := (k_if h).1 c21
                refine lv_aload_n hx hb dX7_pour_107 rfl (lv_at hl 2 rfl) ?_
                refine lv_iconst (v := 4) hx hb dX7_pour_108 (by decide) ?_
                obtain ⟨w22, hzw22, h⟩ := k_bd h
                refine m_callV (C := RX7) (T := TX7) (N := 8) (ci := 7) (n := 1) (As := [.int (4 : Int32)]) (rest := []) (st1 := (.int w22.1 :: [])) E hM hl.1 ok1 (by decide) rfl rfl (c_X7_deny l D cy sz H0 u r (4 : Int32) hzw22) wl_X7_63 wm_X7_deny ws_X7_deny wi_X7 wd_X7_deny rfl rfl (by decide +kernel) ⟨by decide, by decide⟩ rfl rfl (by first | exact Nat.le_of_ble_eq_true rfl | simp [rv_cat, cat_i, cat_l, cat_r, cat_n]) dX7_pour_109 ⟨by decide, by decide⟩ rfl (fun H locs hM => ?_)
                obtain ⟨hB23, h⟩ := k_gd h
                cases h
                exact m_zret hx hb hr hlk hM hB23 rfl rfl dX7_pour_112
              · replace h := (k_if h).2 c21
                refine lv_aload hx hb dX7_pour_95 (lv_at hl 0 rfl) ?_
                refine lv_iload hx hb dX7_pour_97 (lv_at hl 6 rfl) ?_
                refine lv_iload hx hb dX7_pour_99 (lv_at hl 7 rfl) ?_
                obtain ⟨w24, hzw24, h⟩ := k_bd h
                refine m_callV (C := RX6) (T := TX6) (N := 3) (ci := 6) (n := 2) (As := [.int p4, .int p5]) (rest := []) (st1 := (.int w24 :: [])) E hM hl.1 ok15 (by decide) rfl rfl (c_X6_hasRun l D cy sz H0 u k7 p4 p5 hzw24) wl_X7_97 wm_X6_hasRun ws_X6_hasRun wi_X6 wd_X6_hasRun rfl rfl (by decide +kernel) ⟨by decide, by decide⟩ rfl rfl (by first | exact Nat.le_of_ble_eq_true rfl | simp [rv_cat, cat_i, cat_l, cat_r, cat_n]) dX7_pour_101 ⟨by decide, by decide⟩ rfl (fun H locs hM => ?_)
                refine lv_if_ne (tgt := 113) hx hb dX7_pour_104 (by decide) (fun c25 => ?_) (fun c25 => ?_)
                · replace h := (k_if h).2 c25
                  refine lv_aload hx hb dX7_pour_113 (lv_at hl 1 rfl) ?_
                  refine gs_X7_87 E hM ok10 dX7_pour_115 (fun x26 hxx26 => ?_)
                  replace h := k_bb h x26 hxx26.symm
                  refine lv_iload_n hx hb dX7_pour_118 rfl (lv_at hl 4 rfl) ?_
                  refine lv_aload hx hb dX7_pour_119 (lv_at hl 0 rfl) ?_
                  refine gs_X7_87 E hM ok15 dX7_pour_121 (fun x27 hxx27 => ?_)
                  replace h := k_bb h x27 hxx27.symm
                  refine lv_iload hx hb dX7_pour_124 (lv_at hl 6 rfl) ?_
                  refine lv_iload hx hb dX7_pour_126 (lv_at hl 7 rfl) ?_
                  rcases x26 with _ | k28
                  · cases h
                  rw [cs_s] at h
                  rcases x27 with _ | k29
                  · cases h
                  rw [cs_s] at h
                  obtain ⟨ok30, h⟩ := k_gd h
                  refine m_copyL E hM hl.1 wl_X7_101 wna_arraycopyName wst_arraycopyName wi_J10 ok30 (by decide) (Nat.le_of_ble_eq_true rfl) dX7_pour_128 (fun H locs hM => ?_)
                  refine lv_aload_n hx hb dX7_pour_131 rfl (lv_at hl 2 rfl) ?_
                  obtain ⟨w31, hzw31, h⟩ := k_bd h
                  refine m_callV (C := RX7) (T := TX7) (N := 8) (ci := 7) (n := 0) (As := []) (rest := []) (st1 := (.int w31.1 :: [])) E hM hl.1 ok1 (by decide) rfl rfl (c_X7_grant l D cy sz H0 (rL u k29 (va_cpy (gL u k28) (gL u k29) (Int32.toNatClampNeg p2) (Int32.toNatClampNeg p4) (Int32.toNatClampNeg p5))) r hzw31) wl_X7_71 wm_X7_grant ws_X7_grant wi_X7 wd_X7_grant rfl rfl (by decide +kernel) ⟨by decide, by decide⟩ rfl rfl (by first | exact Nat.le_of_ble_eq_true rfl | simp [rv_cat, cat_i, cat_l, cat_r, cat_n]) dX7_pour_132 ⟨by decide, by decide⟩ rfl (fun H locs hM => ?_)
                  obtain ⟨hB32, h⟩ := k_gd h
                  cases h
                  exact m_zret hx hb hr hlk hM hB32 rfl rfl dX7_pour_135
                · replace h := (k_if h).1 c25
                  refine lv_aload_n hx hb dX7_pour_107 rfl (lv_at hl 2 rfl) ?_
                  refine lv_iconst (v := 4) hx hb dX7_pour_108 (by decide) ?_
                  obtain ⟨w33, hzw33, h⟩ := k_bd h
                  refine m_callV (C := RX7) (T := TX7) (N := 8) (ci := 7) (n := 1) (As := [.int (4 : Int32)]) (rest := []) (st1 := (.int w33.1 :: [])) E hM hl.1 ok1 (by decide) rfl rfl (c_X7_deny l D cy sz H0 u r (4 : Int32) hzw33) wl_X7_63 wm_X7_deny ws_X7_deny wi_X7 wd_X7_deny rfl rfl (by decide +kernel) ⟨by decide, by decide⟩ rfl rfl (by first | exact Nat.le_of_ble_eq_true rfl | simp [rv_cat, cat_i, cat_l, cat_r, cat_n]) dX7_pour_109 ⟨by decide, by decide⟩ rfl (fun H locs hM => ?_)
                  obtain ⟨hB34, h⟩ := k_gd h
                  cases h
                  exact m_zret hx hb hr hlk hM hB34 rfl rfl dX7_pour_112
            · replace h := (k_if h).2 c19
              refine lv_aload_n hx hb dX7_pour_77 rfl (lv_at hl 2 rfl) ?_
              refine lv_bipush (v := 6) hx hb dX7_pour_78 (by decide) ?_
              obtain ⟨w35, hzw35, h⟩ := k_bd h
              refine m_callV (C := RX7) (T := TX7) (N := 8) (ci := 7) (n := 1) (As := [.int (6 : Int32)]) (rest := []) (st1 := (.int w35.1 :: [])) E hM hl.1 ok1 (by decide) rfl rfl (c_X7_deny l D cy sz H0 u r (6 : Int32) hzw35) wl_X7_63 wm_X7_deny ws_X7_deny wi_X7 wd_X7_deny rfl rfl (by decide +kernel) ⟨by decide, by decide⟩ rfl rfl (by first | exact Nat.le_of_ble_eq_true rfl | simp [rv_cat, cat_i, cat_l, cat_r, cat_n]) dX7_pour_80 ⟨by decide, by decide⟩ rfl (fun H locs hM => ?_)
              obtain ⟨hB36, h⟩ := k_gd h
              cases h
              exact m_zret hx hb hr hlk hM hB36 rfl rfl dX7_pour_83
          · replace h := (k_if h).2 c18
            refine lv_aload_n hx hb dX7_pour_65 rfl (lv_at hl 2 rfl) ?_
            refine lv_bipush (v := 11) hx hb dX7_pour_66 (by decide) ?_
            obtain ⟨w37, hzw37, h⟩ := k_bd h
            refine m_callV (C := RX7) (T := TX7) (N := 8) (ci := 7) (n := 1) (As := [.int (11 : Int32)]) (rest := []) (st1 := (.int w37.1 :: [])) E hM hl.1 ok1 (by decide) rfl rfl (c_X7_deny l D cy sz H0 u r (11 : Int32) hzw37) wl_X7_63 wm_X7_deny ws_X7_deny wi_X7 wd_X7_deny rfl rfl (by decide +kernel) ⟨by decide, by decide⟩ rfl rfl (by first | exact Nat.le_of_ble_eq_true rfl | simp [rv_cat, cat_i, cat_l, cat_r, cat_n]) dX7_pour_68 ⟨by decide, by decide⟩ rfl (fun H locs hM => ?_)
            obtain ⟨hB38, h⟩ := k_gd h
            cases h
            exact m_zret hx hb hr hlk hM hB38 rfl rfl dX7_pour_71
        · replace h := (k_if h).2 c17
          refine lv_aload_n hx hb dX7_pour_46 rfl (lv_at hl 2 rfl) ?_
          refine lv_iconst (v := 3) hx hb dX7_pour_47 (by decide) ?_
          obtain ⟨w39, hzw39, h⟩ := k_bd h
          refine m_callV (C := RX7) (T := TX7) (N := 8) (ci := 7) (n := 1) (As := [.int (3 : Int32)]) (rest := []) (st1 := (.int w39.1 :: [])) E hM hl.1 ok1 (by decide) rfl rfl (c_X7_deny l D cy sz H0 u r (3 : Int32) hzw39) wl_X7_63 wm_X7_deny ws_X7_deny wi_X7 wd_X7_deny rfl rfl (by decide +kernel) ⟨by decide, by decide⟩ rfl rfl (by first | exact Nat.le_of_ble_eq_true rfl | simp [rv_cat, cat_i, cat_l, cat_r, cat_n]) dX7_pour_48 ⟨by decide, by decide⟩ rfl (fun H locs hM => ?_)
          obtain ⟨hB40, h⟩ := k_gd h
          cases h
          exact m_zret hx hb hr hlk hM hB40 rfl rfl dX7_pour_51

abbrev rm_X7_mayBeIn : Room := { frames := 0, cells := 0, slots := 0, locals := 0 }
def f_X7_mayBeIn (p1 : Int32) (p2 : Int32) (u : Mm) : Option (Int32) := (if p2 = (p1 - (1 : Int32)) then some (1 : Int32) else (if p1 = (3 : Int32) then (if p2 = (1 : Int32) then some (1 : Int32) else some (0 : Int32)) else some (0 : Int32)))
set_option maxHeartbeats 4000000 in
set_option maxRecDepth 100000 in
theorem c_X7_mayBeIn (l : Launch) (D : va_G) (cy : Nat → ClassId) (sz : Nat) (H0 : Heap) (u : Mm) (p1 : Int32) (p2 : Int32) {res : Int32} (h : f_X7_mayBeIn p1 p2 u = some res) : Ctr l yX7_mayBeIn cX7_mayBeIn 2 (some .boolean) rm_X7_mayBeIn 0 0 D cy sz H0 u [.int p1, .int p2] (some (.int res)) u := by
  refine m_start (lv := [(0, .int p1), (1, .int p2)]) (by decide) (by first | exact Nat.le_of_ble_eq_true rfl | simp [lg_sl, rv_cat, cat_i, cat_l, cat_r, cat_n]) (by first | rfl | simp [lv_args, rv_cat, cat_i, cat_l, cat_r, cat_n]) ?_
  intro p e s m below meth c ls E hr hlk hinit hM hl
  obtain ⟨hx, hb, hml, hown, hts, hKK⟩ := id E
  obtain ⟨H, hH⟩ : ∃ H, H = s.heap := ⟨_, rfl⟩
  obtain ⟨locs, hlocs⟩ : ∃ L : List Loc, L = [] := ⟨_, rfl⟩
  rw [← hH, ← hlocs] at hM ⊢
  unfold f_X7_mayBeIn at h
  refine lv_iload_n hx hb dX7_mayBeIn_0 rfl (lv_at hl 1 rfl) ?_
  refine lv_iload_n hx hb dX7_mayBeIn_1 rfl (lv_at hl 0 rfl) ?_
  refine lv_iconst (v := 1) hx hb dX7_mayBeIn_2 (by decide) ?_
  refine lv_isub hx hb dX7_mayBeIn_3 ?_
  refine lv_icmp_eq (tgt := 17) hx hb dX7_mayBeIn_4 (by decide) (fun c1 => ?_) (fun c1 => ?_)
  · replace h := (k_if h).1 c1
    refine lv_iconst (v := 1) hx hb dX7_mayBeIn_17 (by decide) ?_
    refine lv_goto (tgt := 22) hx hb dX7_mayBeIn_18 (by decide) ?_
    cases h
    exact m_zret hx hb hr hlk hM (by decide) rfl rfl dX7_mayBeIn_22
  · replace h := (k_if h).2 c1
    refine lv_iload_n hx hb dX7_mayBeIn_7 rfl (lv_at hl 0 rfl) ?_
    refine lv_iconst (v := 3) hx hb dX7_mayBeIn_8 (by decide) ?_
    refine lv_icmp_ne (tgt := 21) hx hb dX7_mayBeIn_9 (by decide) (fun c2 => ?_) (fun c2 => ?_)
    · replace h := (k_if h).2 c2
      refine lv_iconst (v := 0) hx hb dX7_mayBeIn_21 (by decide) ?_
      cases h
      exact m_zret hx hb hr hlk hM (by decide) rfl rfl dX7_mayBeIn_22
    · replace h := (k_if h).1 c2
      refine lv_iload_n hx hb dX7_mayBeIn_12 rfl (lv_at hl 1 rfl) ?_
      refine lv_iconst (v := 1) hx hb dX7_mayBeIn_13 (by decide) ?_
      refine lv_icmp_ne (tgt := 21) hx hb dX7_mayBeIn_14 (by decide) (fun c3 => ?_) (fun c3 => ?_)
      · replace h := (k_if h).2 c3
        refine lv_iconst (v := 0) hx hb dX7_mayBeIn_21 (by decide) ?_
        cases h
        exact m_zret hx hb hr hlk hM (by decide) rfl rfl dX7_mayBeIn_22
      · replace h := (k_if h).1 c3
        refine lv_iconst (v := 1) hx hb dX7_mayBeIn_17 (by decide) ?_
        refine lv_goto (tgt := 22) hx hb dX7_mayBeIn_18 (by decide) ?_
        cases h
        exact m_zret hx hb hr hlk hM (by decide) rfl rfl dX7_mayBeIn_22

abbrev rm_X7_answer : Room := { frames := 0, cells := 0, slots := 0, locals := 0 }
def f_X7_answer (r : Nat) (p1 : Int32) (u : Mm) : Option ((Int32) × Mm) := gd (okO u r 7) (some (p1, (sI u r 5 (0 : Int32))))
set_option maxHeartbeats 4000000 in
set_option maxRecDepth 100000 in
theorem c_X7_answer (l : Launch) (D : va_G) (cy : Nat → ClassId) (sz : Nat) (H0 : Heap) (u : Mm) (r : Nat) (p1 : Int32) {res : (Int32) × Mm} (h : f_X7_answer r p1 u = some res) : Ctr l yX7_answer cX7_answer 2 (some .int) rm_X7_answer 0 0 D cy sz H0 u [.ref (sz + r), .int p1] (some (.int res.1)) res.2 := by
  refine m_start (lv := [(0, .ref (sz + r)), (1, .int p1)]) (by decide) (by first | exact Nat.le_of_ble_eq_true rfl | simp [lg_sl, rv_cat, cat_i, cat_l, cat_r, cat_n]) (by first | rfl | simp [lv_args, rv_cat, cat_i, cat_l, cat_r, cat_n]) ?_
  intro p e s m below meth c ls E hr hlk hinit hM hl
  obtain ⟨hx, hb, hml, hown, hts, hKK⟩ := id E
  obtain ⟨H, hH⟩ : ∃ H, H = s.heap := ⟨_, rfl⟩
  obtain ⟨locs, hlocs⟩ : ∃ L : List Loc, L = [] := ⟨_, rfl⟩
  rw [← hH, ← hlocs] at hM ⊢
  unfold f_X7_answer at h
  refine lv_aload_n hx hb dX7_answer_0 rfl (lv_at hl 0 rfl) ?_
  refine lv_iconst (v := 0) hx hb dX7_answer_1 (by decide) ?_
  obtain ⟨ok1, h⟩ := k_gd h
  refine ps_X7_43 (v := (0 : Int32)) E hM ok1 dX7_answer_2 (fun H locs hM => ?_)
  refine lv_iload_n hx hb dX7_answer_5 rfl (lv_at hl 1 rfl) ?_
  cases h
  exact m_iret hx hb hr hlk hM rfl rfl dX7_answer_6

abbrev rm_X7_thing : Room := { frames := 3, cells := 2, slots := 17, locals := 108 }
def f_X7_thing (r : Nat) (p1 : Int32) (p2 : Int32) (u : Mm) : Option ((Int32) × Mm) := bd (f_X7_within p1 (0 : Int32) (3 : Int32) u) (fun w1 => (if w1 = 0 then gd (okO u r 7) (bd (f_X7_refuse r (5 : Int32) u) (fun w56 => some (w56.1, w56.2))) else gd (okO u r 7) (bb (gR u r 1) (fun x4 => cs x4 none (fun k5 => gd (okO u k5 0) (bd (f_X0_at k5 p2 u) (fun w7 => (if p1 = 0 then (if p2 = (-1 : Int32) then cs w7 (bb (gR u r 1) (fun x28 => cs x28 none (fun k29 => gd (okO u k29 0) ((if (gI u k29 1) < (80 : Int32) then bb (gR u r 1) (fun x32 => cs x32 none (fun k33 => gd (okO u k33 0) (bd (f_X0_add k33 p1 (none : Option Nat) u) (fun w35 => gd (okO w35.2 r 7) (bd (f_X7_answer r w35.1 w35.2) (fun w37 => some (w37.1, w37.2))))))) else bd (f_X7_refuse r (7 : Int32) u) (fun w38 => some (w38.1, w38.2))))))) (fun k27 => gd (okO u k27 5) (bd (f_X7_mayBeIn p1 (gI u k27 1) u) (fun w40 => (if w40 = 0 then bd (f_X7_refuse r (8 : Int32) u) (fun w53 => some (w53.1, w53.2)) else bb (gR u r 1) (fun x42 => cs x42 none (fun k43 => gd (okO u k43 0) ((if (gI u k43 1) < (80 : Int32) then bb (gR u r 1) (fun x46 => cs x46 none (fun k47 => gd (okO u k47 0) (bd (f_X0_add k47 p1 (some k27) u) (fun w49 => gd (okO w49.2 r 7) (bd (f_X7_answer r w49.1 w49.2) (fun w51 => some (w51.1, w51.2))))))) else bd (f_X7_refuse r (7 : Int32) u) (fun w52 => some (w52.1, w52.2)))))))))) else bd (f_X7_refuse r (2 : Int32) u) (fun w54 => some (w54.1, w54.2))) else cs w7 (bd (f_X7_refuse r (2 : Int32) u) (fun w10 => some (w10.1, w10.2))) (fun k9 => gd (okO u k9 5) (bd (f_X7_mayBeIn p1 (gI u k9 1) u) (fun w12 => (if w12 = 0 then bd (f_X7_refuse r (8 : Int32) u) (fun w25 => some (w25.1, w25.2)) else bb (gR u r 1) (fun x14 => cs x14 none (fun k15 => gd (okO u k15 0) ((if (gI u k15 1) < (80 : Int32) then bb (gR u r 1) (fun x18 => cs x18 none (fun k19 => gd (okO u k19 0) (bd (f_X0_add k19 p1 (some k9) u) (fun w21 => gd (okO w21.2 r 7) (bd (f_X7_answer r w21.1 w21.2) (fun w23 => some (w23.1, w23.2))))))) else bd (f_X7_refuse r (7 : Int32) u) (fun w24 => some (w24.1, w24.2))))))))))))))))))
set_option maxHeartbeats 4000000 in
set_option maxRecDepth 100000 in
theorem c_X7_thing (l : Launch) (D : va_G) (cy : Nat → ClassId) (sz : Nat) (H0 : Heap) (u : Mm) (r : Nat) (p1 : Int32) (p2 : Int32) {res : (Int32) × Mm} (h : f_X7_thing r p1 p2 u = some res) : Ctr l yX7_thing cX7_thing 4 (some .int) rm_X7_thing 2 17 D cy sz H0 u [.ref (sz + r), .int p1, .int p2] (some (.int res.1)) res.2 := by
  refine m_start (lv := [(0, .ref (sz + r)), (1, .int p1), (2, .int p2)]) (by decide) (by first | exact Nat.le_of_ble_eq_true rfl | simp [lg_sl, rv_cat, cat_i, cat_l, cat_r, cat_n]) (by first | rfl | simp [lv_args, rv_cat, cat_i, cat_l, cat_r, cat_n]) ?_
  intro p e s m below meth c ls E hr hlk hinit hM hl
  obtain ⟨hx, hb, hml, hown, hts, hKK⟩ := id E
  obtain ⟨H, hH⟩ : ∃ H, H = s.heap := ⟨_, rfl⟩
  obtain ⟨locs, hlocs⟩ : ∃ L : List Loc, L = [] := ⟨_, rfl⟩
  rw [← hH, ← hlocs] at hM ⊢
  unfold f_X7_thing at h
  refine lv_iload_n hx hb dX7_thing_0 rfl (lv_at hl 1 rfl) ?_
  refine lv_iconst (v := 0) hx hb dX7_thing_1 (by decide) ?_
  refine lv_iconst (v := 3) hx hb dX7_thing_2 (by decide) ?_
  obtain ⟨w1, hzw1, h⟩ := k_bd h
  refine m_callS (n := 3) (As := [.int p1, .int (0 : Int32), .int (3 : Int32)]) (rest := []) (st1 := (.int w1 :: [])) E hM hl.1 (c_X7_within l D cy sz H0 u p1 (0 : Int32) (3 : Int32) hzw1) wl_X7_59 wst_X7_within wi_X7 wd_X7_within rfl rfl (by decide +kernel) ⟨by decide, by decide⟩ rfl rfl (by first | exact Nat.le_of_ble_eq_true rfl | simp [rv_cat, cat_i, cat_l, cat_r, cat_n]) dX7_thing_3 ⟨by decide, by decide⟩ rfl (fun H locs hM => ?_)
  refine lv_if_ne (tgt := 15) hx hb dX7_thing_6 (by decide) (fun c2 => ?_) (fun c2 => ?_)
  · replace h := (k_if h).2 c2
    refine lv_aload_n hx hb dX7_thing_15 rfl (lv_at hl 0 rfl) ?_
    obtain ⟨ok3, h⟩ := k_gd h
    refine gs_X7_18 E hM ok3 dX7_thing_16 (fun x4 hxx4 => ?_)
    replace h := k_bb h x4 hxx4.symm
    refine lv_iload_n hx hb dX7_thing_19 rfl (lv_at hl 2 rfl) ?_
    rcases x4 with _ | k5
    · cases h
    rw [cs_s] at h
    obtain ⟨ok6, h⟩ := k_gd h
    obtain ⟨w7, hzw7, h⟩ := k_bd h
    refine m_callV (C := RX0) (T := TX0) (N := 4) (ci := 0) (n := 1) (As := [.int p2]) (rest := []) (st1 := (rv sz w7 :: [])) E hM hl.1 ok6 (by decide) rfl rfl (c_X0_at l D cy sz H0 u k5 p2 hzw7) wl_X7_107 wm_X0_at ws_X0_at wi_X0 wd_X0_at rfl rfl (by decide +kernel) ⟨by decide, by decide⟩ rfl rfl (by first | exact Nat.le_of_ble_eq_true rfl | simp [rv_cat, cat_i, cat_l, cat_r, cat_n]) dX7_thing_20 ⟨by decide, by decide⟩ rfl (fun H locs hM => ?_)
    refine m_astore_n (i := 3) (lv' := [(3, rv sz w7), (0, .ref (sz + r)), (1, .int p1), (2, .int p2)]) hx hb dX7_thing_23 rfl hl (by decide) (by first | rfl | simp [rv_cat, cat_i, cat_l, cat_r, cat_n]) (fun ls hl => ?_)
    refine lv_iload_n hx hb dX7_thing_24 rfl (lv_at hl 2 rfl) ?_
    refine lv_if_ne (tgt := 36) hx hb dX7_thing_25 (by decide) (fun c8 => ?_) (fun c8 => ?_)
    · replace h := (k_if h).2 c8
      refine m_aload_n hx hb dX7_thing_36 rfl (lv_at hl 0 rfl) ?_
      rcases w7 with _ | k9
      · rw [cs_n] at h
        refine lv_ifnonnullN hx hb dX7_thing_37 ?_
        refine lv_aload_n hx hb dX7_thing_40 rfl (lv_at hl 1 rfl) ?_
        refine lv_iconst (v := 2) hx hb dX7_thing_41 (by decide) ?_
        obtain ⟨w10, hzw10, h⟩ := k_bd h
        refine m_callV (C := RX7) (T := TX7) (N := 8) (ci := 7) (n := 1) (As := [.int (2 : Int32)]) (rest := []) (st1 := (.int w10.1 :: [])) E hM hl.1 ok3 (by decide) rfl rfl (c_X7_refuse l D cy sz H0 u r (2 : Int32) hzw10) wl_X7_83 wm_X7_refuse ws_X7_refuse wi_X7 wd_X7_refuse rfl rfl (by decide +kernel) ⟨by decide, by decide⟩ rfl rfl (by first | exact Nat.le_of_ble_eq_true rfl | simp [rv_cat, cat_i, cat_l, cat_r, cat_n]) dX7_thing_42 ⟨by decide, by decide⟩ rfl (fun H locs hM => ?_)
        refine W.widen (k := 2) (n := 17) (by decide) (by decide) ?_
        cases h
        exact m_iret hx hb hr hlk hM rfl rfl dX7_thing_45
      · rw [cs_s] at h
        refine lv_ifnonnull (tgt := 46) hx hb dX7_thing_37 (by decide) ?_
        refine lv_aload_n hx hb dX7_thing_46 rfl (lv_at hl 0 rfl) ?_
        refine lv_ifnull hx hb dX7_thing_47 ?_
        refine lv_iload_n hx hb dX7_thing_50 rfl (lv_at hl 2 rfl) ?_
        refine lv_aload_n hx hb dX7_thing_51 rfl (lv_at hl 0 rfl) ?_
        obtain ⟨ok11, h⟩ := k_gd h
        refine gs_X7_111 E hM ok11 dX7_thing_52 ?_
        obtain ⟨w12, hzw12, h⟩ := k_bd h
        refine m_callS (n := 2) (As := [.int p1, .int (gI u k9 1)]) (rest := []) (st1 := (.int w12 :: [])) E hM hl.1 (c_X7_mayBeIn l D cy sz H0 u p1 (gI u k9 1) hzw12) wl_X7_116 wst_X7_mayBeIn wi_X7 wd_X7_mayBeIn rfl rfl (by decide +kernel) ⟨by decide, by decide⟩ rfl rfl (by first | exact Nat.le_of_ble_eq_true rfl | simp [rv_cat, cat_i, cat_l, cat_r, cat_n]) dX7_thing_55 ⟨by decide, by decide⟩ rfl (fun H locs hM => ?_)
        refine lv_if_ne (tgt := 68) hx hb dX7_thing_58 (by decide) (fun c13 => ?_) (fun c13 => ?_)
        · replace h := (k_if h).2 c13
          refine lv_aload_n hx hb dX7_thing_68 rfl (lv_at hl 1 rfl) ?_
          refine gs_X7_18 E hM ok3 dX7_thing_69 (fun x14 hxx14 => ?_)
          replace h := k_bb h x14 hxx14.symm
          rcases x14 with _ | k15
          · cases h
          rw [cs_s] at h
          obtain ⟨ok16, h⟩ := k_gd h
          refine gs_X7_119 E hM ok16 dX7_thing_72 ?_
          refine lv_bipush (v := 80) hx hb dX7_thing_75 (by decide) ?_
          refine lv_icmp_lt (tgt := 87) hx hb dX7_thing_77 (by decide) (fun c17 => ?_) (fun c17 => ?_)
          · replace h := (k_if h).1 c17
            refine lv_aload_n hx hb dX7_thing_87 rfl (lv_at hl 1 rfl) ?_
            refine lv_aload_n hx hb dX7_thing_88 rfl (lv_at hl 1 rfl) ?_
            refine gs_X7_18 E hM ok3 dX7_thing_89 (fun x18 hxx18 => ?_)
            replace h := k_bb h x18 hxx18.symm
            refine lv_iload_n hx hb dX7_thing_92 rfl (lv_at hl 2 rfl) ?_
            refine lv_aload_n hx hb dX7_thing_93 rfl (lv_at hl 0 rfl) ?_
            rcases x18 with _ | k19
            · cases h
            rw [cs_s] at h
            obtain ⟨ok20, h⟩ := k_gd h
            obtain ⟨w21, hzw21, h⟩ := k_bd h
            refine m_callV (C := RX0) (T := TX0) (N := 4) (ci := 0) (n := 2) (As := [.int p1, .ref (sz + k9)]) (rest := [.ref (sz + r)]) (st1 := (.int w21.1 :: [.ref (sz + r)])) E hM hl.1 ok20 (by decide) rfl rfl (c_X0_add l D cy sz H0 u k19 p1 (some k9) hzw21) wl_X7_122 wm_X0_add ws_X0_add wi_X0 wd_X0_add rfl rfl (by decide +kernel) ⟨by decide, by decide⟩ rfl rfl (by first | exact Nat.le_of_ble_eq_true rfl | simp [rv_cat, cat_i, cat_l, cat_r, cat_n]) dX7_thing_94 ⟨by decide, by decide⟩ rfl (fun H locs hM => ?_)
            obtain ⟨ok22, h⟩ := k_gd h
            obtain ⟨w23, hzw23, h⟩ := k_bd h
            refine m_callV (C := RX7) (T := TX7) (N := 8) (ci := 7) (n := 1) (As := [.int w21.1]) (rest := []) (st1 := (.int w23.1 :: [])) E hM hl.1 ok22 (by decide) rfl rfl (c_X7_answer l D cy sz H0 w21.2 r w21.1 hzw23) wl_X7_126 wm_X7_answer ws_X7_answer wi_X7 wd_X7_answer rfl rfl (by decide +kernel) ⟨by decide, by decide⟩ rfl rfl (by first | exact Nat.le_of_ble_eq_true rfl | simp [rv_cat, cat_i, cat_l, cat_r, cat_n]) dX7_thing_97 ⟨by decide, by decide⟩ rfl (fun H locs hM => ?_)
            cases h
            exact m_iret hx hb hr hlk hM rfl rfl dX7_thing_100
          · replace h := (k_if h).2 c17
            refine lv_aload_n hx hb dX7_thing_80 rfl (lv_at hl 1 rfl) ?_
            refine lv_bipush (v := 7) hx hb dX7_thing_81 (by decide) ?_
            obtain ⟨w24, hzw24, h⟩ := k_bd h
            refine m_callV (C := RX7) (T := TX7) (N := 8) (ci := 7) (n := 1) (As := [.int (7 : Int32)]) (rest := []) (st1 := (.int w24.1 :: [])) E hM hl.1 ok3 (by decide) rfl rfl (c_X7_refuse l D cy sz H0 u r (7 : Int32) hzw24) wl_X7_83 wm_X7_refuse ws_X7_refuse wi_X7 wd_X7_refuse rfl rfl (by decide +kernel) ⟨by decide, by decide⟩ rfl rfl (by first | exact Nat.le_of_ble_eq_true rfl | simp [rv_cat, cat_i, cat_l, cat_r, cat_n]) dX7_thing_83 ⟨by decide, by decide⟩ rfl (fun H locs hM => ?_)
            refine W.widen (k := 2) (n := 17) (by decide) (by decide) ?_
            cases h
            exact m_iret hx hb hr hlk hM rfl rfl dX7_thing_86
        · replace h := (k_if h).1 c13
          refine lv_aload_n hx hb dX7_thing_61 rfl (lv_at hl 1 rfl) ?_
          refine lv_bipush (v := 8) hx hb dX7_thing_62 (by decide) ?_
          obtain ⟨w25, hzw25, h⟩ := k_bd h
          refine m_callV (C := RX7) (T := TX7) (N := 8) (ci := 7) (n := 1) (As := [.int (8 : Int32)]) (rest := []) (st1 := (.int w25.1 :: [])) E hM hl.1 ok3 (by decide) rfl rfl (c_X7_refuse l D cy sz H0 u r (8 : Int32) hzw25) wl_X7_83 wm_X7_refuse ws_X7_refuse wi_X7 wd_X7_refuse rfl rfl (by decide +kernel) ⟨by decide, by decide⟩ rfl rfl (by first | exact Nat.le_of_ble_eq_true rfl | simp [rv_cat, cat_i, cat_l, cat_r, cat_n]) dX7_thing_64 ⟨by decide, by decide⟩ rfl (fun H locs hM => ?_)
          refine W.widen (k := 2) (n := 17) (by decide) (by decide) ?_
          cases h
          exact m_iret hx hb hr hlk hM rfl rfl dX7_thing_67
    · replace h := (k_if h).1 c8
      refine lv_iload_n hx hb dX7_thing_28 rfl (lv_at hl 3 rfl) ?_
      refine lv_iconst (v := (-1)) hx hb dX7_thing_29 (by decide) ?_
      refine lv_icmp_eq (tgt := 46) hx hb dX7_thing_30 (by decide) (fun c26 => ?_) (fun c26 => ?_)
      · replace h := (k_if h).1 c26
        refine m_aload_n hx hb dX7_thing_46 rfl (lv_at hl 0 rfl) ?_
        rcases w7 with _ | k27
        · rw [cs_n] at h
          refine lv_ifnullN (tgt := 68) hx hb dX7_thing_47 (by decide) ?_
          refine lv_aload_n hx hb dX7_thing_68 rfl (lv_at hl 1 rfl) ?_
          refine gs_X7_18 E hM ok3 dX7_thing_69 (fun x28 hxx28 => ?_)
          replace h := k_bb h x28 hxx28.symm
          rcases x28 with _ | k29
          · cases h
          rw [cs_s] at h
          obtain ⟨ok30, h⟩ := k_gd h
          refine gs_X7_119 E hM ok30 dX7_thing_72 ?_
          refine lv_bipush (v := 80) hx hb dX7_thing_75 (by decide) ?_
          refine lv_icmp_lt (tgt := 87) hx hb dX7_thing_77 (by decide) (fun c31 => ?_) (fun c31 => ?_)
          · replace h := (k_if h).1 c31
            refine lv_aload_n hx hb dX7_thing_87 rfl (lv_at hl 1 rfl) ?_
            refine lv_aload_n hx hb dX7_thing_88 rfl (lv_at hl 1 rfl) ?_
            refine gs_X7_18 E hM ok3 dX7_thing_89 (fun x32 hxx32 => ?_)
            replace h := k_bb h x32 hxx32.symm
            refine lv_iload_n hx hb dX7_thing_92 rfl (lv_at hl 2 rfl) ?_
            refine lv_aload_nN hx hb dX7_thing_93 rfl (lv_at hl 0 rfl) ?_
            rcases x32 with _ | k33
            · cases h
            rw [cs_s] at h
            obtain ⟨ok34, h⟩ := k_gd h
            obtain ⟨w35, hzw35, h⟩ := k_bd h
            refine m_callV (C := RX0) (T := TX0) (N := 4) (ci := 0) (n := 2) (As := [.int p1, .null]) (rest := [.ref (sz + r)]) (st1 := (.int w35.1 :: [.ref (sz + r)])) E hM hl.1 ok34 (by decide) rfl rfl (c_X0_add l D cy sz H0 u k33 p1 (none : Option Nat) hzw35) wl_X7_122 wm_X0_add ws_X0_add wi_X0 wd_X0_add rfl rfl (by decide +kernel) ⟨by decide, by decide⟩ rfl rfl (by first | exact Nat.le_of_ble_eq_true rfl | simp [rv_cat, cat_i, cat_l, cat_r, cat_n]) dX7_thing_94 ⟨by decide, by decide⟩ rfl (fun H locs hM => ?_)
            obtain ⟨ok36, h⟩ := k_gd h
            obtain ⟨w37, hzw37, h⟩ := k_bd h
            refine m_callV (C := RX7) (T := TX7) (N := 8) (ci := 7) (n := 1) (As := [.int w35.1]) (rest := []) (st1 := (.int w37.1 :: [])) E hM hl.1 ok36 (by decide) rfl rfl (c_X7_answer l D cy sz H0 w35.2 r w35.1 hzw37) wl_X7_126 wm_X7_answer ws_X7_answer wi_X7 wd_X7_answer rfl rfl (by decide +kernel) ⟨by decide, by decide⟩ rfl rfl (by first | exact Nat.le_of_ble_eq_true rfl | simp [rv_cat, cat_i, cat_l, cat_r, cat_n]) dX7_thing_97 ⟨by decide, by decide⟩ rfl (fun H locs hM => ?_)
            cases h
            exact m_iret hx hb hr hlk hM rfl rfl dX7_thing_100
          · replace h := (k_if h).2 c31
            refine lv_aload_n hx hb dX7_thing_80 rfl (lv_at hl 1 rfl) ?_
            refine lv_bipush (v := 7) hx hb dX7_thing_81 (by decide) ?_
            obtain ⟨w38, hzw38, h⟩ := k_bd h
            refine m_callV (C := RX7) (T := TX7) (N := 8) (ci := 7) (n := 1) (As := [.int (7 : Int32)]) (rest := []) (st1 := (.int w38.1 :: [])) E hM hl.1 ok3 (by decide) rfl rfl (c_X7_refuse l D cy sz H0 u r (7 : Int32) hzw38) wl_X7_83 wm_X7_refuse ws_X7_refuse wi_X7 wd_X7_refuse rfl rfl (by decide +kernel) ⟨by decide, by decide⟩ rfl rfl (by first | exact Nat.le_of_ble_eq_true rfl | simp [rv_cat, cat_i, cat_l, cat_r, cat_n]) dX7_thing_83 ⟨by decide, by decide⟩ rfl (fun H locs hM => ?_)
            refine W.widen (k := 2) (n := 17) (by decide) (by decide) ?_
            cases h
            exact m_iret hx hb hr hlk hM rfl rfl dX7_thing_86
        · rw [cs_s] at h
          refine lv_ifnull hx hb dX7_thing_47 ?_
          refine lv_iload_n hx hb dX7_thing_50 rfl (lv_at hl 2 rfl) ?_
          refine lv_aload_n hx hb dX7_thing_51 rfl (lv_at hl 0 rfl) ?_
          obtain ⟨ok39, h⟩ := k_gd h
          refine gs_X7_111 E hM ok39 dX7_thing_52 ?_
          obtain ⟨w40, hzw40, h⟩ := k_bd h
          refine m_callS (n := 2) (As := [.int p1, .int (gI u k27 1)]) (rest := []) (st1 := (.int w40 :: [])) E hM hl.1 (c_X7_mayBeIn l D cy sz H0 u p1 (gI u k27 1) hzw40) wl_X7_116 wst_X7_mayBeIn wi_X7 wd_X7_mayBeIn rfl rfl (by decide +kernel) ⟨by decide, by decide⟩ rfl rfl (by first | exact Nat.le_of_ble_eq_true rfl | simp [rv_cat, cat_i, cat_l, cat_r, cat_n]) dX7_thing_55 ⟨by decide, by decide⟩ rfl (fun H locs hM => ?_)
          refine lv_if_ne (tgt := 68) hx hb dX7_thing_58 (by decide) (fun c41 => ?_) (fun c41 => ?_)
          · replace h := (k_if h).2 c41
            refine lv_aload_n hx hb dX7_thing_68 rfl (lv_at hl 1 rfl) ?_
            refine gs_X7_18 E hM ok3 dX7_thing_69 (fun x42 hxx42 => ?_)
            replace h := k_bb h x42 hxx42.symm
            rcases x42 with _ | k43
            · cases h
            rw [cs_s] at h
            obtain ⟨ok44, h⟩ := k_gd h
            refine gs_X7_119 E hM ok44 dX7_thing_72 ?_
            refine lv_bipush (v := 80) hx hb dX7_thing_75 (by decide) ?_
            refine lv_icmp_lt (tgt := 87) hx hb dX7_thing_77 (by decide) (fun c45 => ?_) (fun c45 => ?_)
            · replace h := (k_if h).1 c45
              refine lv_aload_n hx hb dX7_thing_87 rfl (lv_at hl 1 rfl) ?_
              refine lv_aload_n hx hb dX7_thing_88 rfl (lv_at hl 1 rfl) ?_
              refine gs_X7_18 E hM ok3 dX7_thing_89 (fun x46 hxx46 => ?_)
              replace h := k_bb h x46 hxx46.symm
              refine lv_iload_n hx hb dX7_thing_92 rfl (lv_at hl 2 rfl) ?_
              refine lv_aload_n hx hb dX7_thing_93 rfl (lv_at hl 0 rfl) ?_
              rcases x46 with _ | k47
              · cases h
              rw [cs_s] at h
              obtain ⟨ok48, h⟩ := k_gd h
              obtain ⟨w49, hzw49, h⟩ := k_bd h
              refine m_callV (C := RX0) (T := TX0) (N := 4) (ci := 0) (n := 2) (As := [.int p1, .ref (sz + k27)]) (rest := [.ref (sz + r)]) (st1 := (.int w49.1 :: [.ref (sz + r)])) E hM hl.1 ok48 (by decide) rfl rfl (c_X0_add l D cy sz H0 u k47 p1 (some k27) hzw49) wl_X7_122 wm_X0_add ws_X0_add wi_X0 wd_X0_add rfl rfl (by decide +kernel) ⟨by decide, by decide⟩ rfl rfl (by first | exact Nat.le_of_ble_eq_true rfl | simp [rv_cat, cat_i, cat_l, cat_r, cat_n]) dX7_thing_94 ⟨by decide, by decide⟩ rfl (fun H locs hM => ?_)
              obtain ⟨ok50, h⟩ := k_gd h
              obtain ⟨w51, hzw51, h⟩ := k_bd h
              refine m_callV (C := RX7) (T := TX7) (N := 8) (ci := 7) (n := 1) (As := [.int w49.1]) (rest := []) (st1 := (.int w51.1 :: [])) E hM hl.1 ok50 (by decide) rfl rfl (c_X7_answer l D cy sz H0 w49.2 r w49.1 hzw51) wl_X7_126 wm_X7_answer ws_X7_answer wi_X7 wd_X7_answer rfl rfl (by decide +kernel) ⟨by decide, by decide⟩ rfl rfl (by first | exact Nat.le_of_ble_eq_true rfl | simp [rv_cat, cat_i, cat_l, cat_r, cat_n]) dX7_thing_97 ⟨by decide, by decide⟩ rfl (fun H locs hM => ?_)
              cases h
              exact m_iret hx hb hr hlk hM rfl rfl dX7_thing_100
            · replace h := (k_if h).2 c45
              refine lv_aload_n hx hb dX7_thing_80 rfl (lv_at hl 1 rfl) ?_
              refine lv_bipush (v := 7) hx hb dX7_thing_81 (by decide) ?_
              obtain ⟨w52, hzw52, h⟩ := k_bd h
              refine m_callV (C := RX7) (T := TX7) (N := 8) (ci := 7) (n := 1) (As := [.int (7 : Int32)]) (rest := []) (st1 := (.int w52.1 :: [])) E hM hl.1 ok3 (by decide) rfl rfl (c_X7_refuse l D cy sz H0 u r (7 : Int32) hzw52) wl_X7_83 wm_X7_refuse ws_X7_refuse wi_X7 wd_X7_refuse rfl rfl (by decide +kernel) ⟨by decide, by decide⟩ rfl rfl (by first | exact Nat.le_of_ble_eq_true rfl | simp [rv_cat, cat_i, cat_l, cat_r, cat_n]) dX7_thing_83 ⟨by decide, by decide⟩ rfl (fun H locs hM => ?_)
              refine W.widen (k := 2) (n := 17) (by decide) (by decide) ?_
              cases h
              exact m_iret hx hb hr hlk hM rfl rfl dX7_thing_86
          · replace h := (k_if h).1 c41
            refine lv_aload_n hx hb dX7_thing_61 rfl (lv_at hl 1 rfl) ?_
            refine lv_bipush (v := 8) hx hb dX7_thing_62 (by decide) ?_
            obtain ⟨w53, hzw53, h⟩ := k_bd h
            refine m_callV (C := RX7) (T := TX7) (N := 8) (ci := 7) (n := 1) (As := [.int (8 : Int32)]) (rest := []) (st1 := (.int w53.1 :: [])) E hM hl.1 ok3 (by decide) rfl rfl (c_X7_refuse l D cy sz H0 u r (8 : Int32) hzw53) wl_X7_83 wm_X7_refuse ws_X7_refuse wi_X7 wd_X7_refuse rfl rfl (by decide +kernel) ⟨by decide, by decide⟩ rfl rfl (by first | exact Nat.le_of_ble_eq_true rfl | simp [rv_cat, cat_i, cat_l, cat_r, cat_n]) dX7_thing_64 ⟨by decide, by decide⟩ rfl (fun H locs hM => ?_)
            refine W.widen (k := 2) (n := 17) (by decide) (by decide) ?_
            cases h
            exact m_iret hx hb hr hlk hM rfl rfl dX7_thing_67
      · replace h := (k_if h).2 c26
        refine lv_goto (tgt := 40) hx hb dX7_thing_33 (by decide) ?_
        refine lv_aload_n hx hb dX7_thing_40 rfl (lv_at hl 1 rfl) ?_
        refine lv_iconst (v := 2) hx hb dX7_thing_41 (by decide) ?_
        obtain ⟨w54, hzw54, h⟩ := k_bd h
        refine m_callV (C := RX7) (T := TX7) (N := 8) (ci := 7) (n := 1) (As := [.int (2 : Int32)]) (rest := []) (st1 := (.int w54.1 :: [])) E hM hl.1 ok3 (by decide) rfl rfl (c_X7_refuse l D cy sz H0 u r (2 : Int32) hzw54) wl_X7_83 wm_X7_refuse ws_X7_refuse wi_X7 wd_X7_refuse rfl rfl (by decide +kernel) ⟨by decide, by decide⟩ rfl rfl (by first | exact Nat.le_of_ble_eq_true rfl | simp [rv_cat, cat_i, cat_l, cat_r, cat_n]) dX7_thing_42 ⟨by decide, by decide⟩ rfl (fun H locs hM => ?_)
        refine W.widen (k := 2) (n := 17) (by decide) (by decide) ?_
        cases h
        exact m_iret hx hb hr hlk hM rfl rfl dX7_thing_45
  · replace h := (k_if h).1 c2
    refine lv_aload_n hx hb dX7_thing_9 rfl (lv_at hl 0 rfl) ?_
    refine lv_iconst (v := 5) hx hb dX7_thing_10 (by decide) ?_
    obtain ⟨ok55, h⟩ := k_gd h
    obtain ⟨w56, hzw56, h⟩ := k_bd h
    refine m_callV (C := RX7) (T := TX7) (N := 8) (ci := 7) (n := 1) (As := [.int (5 : Int32)]) (rest := []) (st1 := (.int w56.1 :: [])) E hM hl.1 ok55 (by decide) rfl rfl (c_X7_refuse l D cy sz H0 u r (5 : Int32) hzw56) wl_X7_83 wm_X7_refuse ws_X7_refuse wi_X7 wd_X7_refuse rfl rfl (by decide +kernel) ⟨by decide, by decide⟩ rfl rfl (by first | exact Nat.le_of_ble_eq_true rfl | simp [rv_cat, cat_i, cat_l, cat_r, cat_n]) dX7_thing_11 ⟨by decide, by decide⟩ rfl (fun H locs hM => ?_)
    refine W.widen (k := 2) (n := 17) (by decide) (by decide) ?_
    cases h
    exact m_iret hx hb hr hlk hM rfl rfl dX7_thing_14

abbrev rm_X7_told : Room := { frames := 1, cells := 0, slots := 0, locals := 36 }
def f_X7_told (r : Nat) (p1 : Int32) (p2 : Int32) (u : Mm) : Option ((Int32) × Mm) := gd (okO u r 7) (bb (gR u r 1) (fun x2 => cs x2 none (fun k3 => gd (okO u k3 0) (bd (f_X0_at k3 p1 u) (fun w5 => cs w5 (bd (f_X7_refuse r (2 : Int32) u) (fun w7 => some (w7.1, w7.2))) (fun k6 => (if p2 = 0 then gd (okO u k6 5) (bd (f_X7_answer r (gI u k6 1) u) (fun w10 => some (w10.1, w10.2))) else (if p2 = 1 then gd (okO u k6 5) (bb (gR u k6 2) (fun x13 => cs x13 (bd (f_X7_answer r (-1 : Int32) u) (fun w15 => some (w15.1, w15.2))) (fun k14 => bb (gR u k6 2) (fun x16 => cs x16 none (fun k17 => gd (okO u k17 5) (bd (f_X7_answer r (gI u k17 0) u) (fun w19 => some (w19.1, w19.2)))))))) else (if p2 = 2 then bb (gR u r 1) (fun x21 => cs x21 none (fun k22 => gd (okO u k22 0) (bd (f_X0_rightIn k22 (some k6) u) (fun w24 => bd (f_X7_answer r w24 u) (fun w25 => some (w25.1, w25.2)))))) else (if p2 = 3 then gd (okO u k6 5) (bd (f_X7_answer r (gI u k6 6) u) (fun w28 => some (w28.1, w28.2))) else (if p2 = 4 then bb (gR u r 3) (fun x30 => cs x30 none (fun k31 => gd (okO u k31 4) (bb (gR u k31 0) (fun x33 => cs x33 none (fun k34 => gd (okO u k34 1) (bb (gR u k34 0) (fun x36 => cs x36 none (fun k37 => gd (okA u k37 9 p1) (bd (f_X7_answer r (gI u k37 (Int32.toNatClampNeg p1)) u) (fun w39 => some (w39.1, w39.2))))))))))) else (if p2 = 5 then bb (gR u r 3) (fun x41 => cs x41 none (fun k42 => gd (okO u k42 4) (bb (gR u k42 2) (fun x44 => cs x44 none (fun k45 => gd (okA u k45 9 p1) (bd (f_X7_answer r (gI u k45 (Int32.toNatClampNeg p1)) u) (fun w47 => some (w47.1, w47.2)))))))) else (if p2 = 6 then gd (okO u k6 5) (bd (f_X7_answer r (gI u k6 9) u) (fun w50 => some (w50.1, w50.2))) else (bd (f_X7_refuse r (5 : Int32) u) (fun w51 => some (w51.1, w51.2))))))))))))))))
set_option maxHeartbeats 4000000 in
set_option maxRecDepth 100000 in
theorem c_X7_told (l : Launch) (D : va_G) (cy : Nat → ClassId) (sz : Nat) (H0 : Heap) (u : Mm) (r : Nat) (p1 : Int32) (p2 : Int32) {res : (Int32) × Mm} (h : f_X7_told r p1 p2 u = some res) : Ctr l yX7_told cX7_told 4 (some .int) rm_X7_told 0 0 D cy sz H0 u [.ref (sz + r), .int p1, .int p2] (some (.int res.1)) res.2 := by
  refine m_start (lv := [(0, .ref (sz + r)), (1, .int p1), (2, .int p2)]) (by decide) (by first | exact Nat.le_of_ble_eq_true rfl | simp [lg_sl, rv_cat, cat_i, cat_l, cat_r, cat_n]) (by first | rfl | simp [lv_args, rv_cat, cat_i, cat_l, cat_r, cat_n]) ?_
  intro p e s m below meth c ls E hr hlk hinit hM hl
  obtain ⟨hx, hb, hml, hown, hts, hKK⟩ := id E
  obtain ⟨H, hH⟩ : ∃ H, H = s.heap := ⟨_, rfl⟩
  obtain ⟨locs, hlocs⟩ : ∃ L : List Loc, L = [] := ⟨_, rfl⟩
  rw [← hH, ← hlocs] at hM ⊢
  unfold f_X7_told at h
  refine lv_aload_n hx hb dX7_told_0 rfl (lv_at hl 0 rfl) ?_
  obtain ⟨ok1, h⟩ := k_gd h
  refine gs_X7_18 E hM ok1 dX7_told_1 (fun x2 hxx2 => ?_)
  replace h := k_bb h x2 hxx2.symm
  refine lv_iload_n hx hb dX7_told_4 rfl (lv_at hl 1 rfl) ?_
  rcases x2 with _ | k3
  · cases h
  rw [cs_s] at h
  obtain ⟨ok4, h⟩ := k_gd h
  obtain ⟨w5, hzw5, h⟩ := k_bd h
  refine m_callV (C := RX0) (T := TX0) (N := 4) (ci := 0) (n := 1) (As := [.int p1]) (rest := []) (st1 := (rv sz w5 :: [])) E hM hl.1 ok4 (by decide) rfl rfl (c_X0_at l D cy sz H0 u k3 p1 hzw5) wl_X7_107 wm_X0_at ws_X0_at wi_X0 wd_X0_at rfl rfl (by decide +kernel) ⟨by decide, by decide⟩ rfl rfl (by first | exact Nat.le_of_ble_eq_true rfl | simp [rv_cat, cat_i, cat_l, cat_r, cat_n]) dX7_told_5 ⟨by decide, by decide⟩ rfl (fun H locs hM => ?_)
  refine m_astore_n (i := 3) (lv' := [(3, rv sz w5), (0, .ref (sz + r)), (1, .int p1), (2, .int p2)]) hx hb dX7_told_8 rfl hl (by decide) (by first | rfl | simp [rv_cat, cat_i, cat_l, cat_r, cat_n]) (fun ls hl => ?_)
  refine m_aload_n hx hb dX7_told_9 rfl (lv_at hl 0 rfl) ?_
  rcases w5 with _ | k6
  · rw [cs_n] at h
    refine lv_ifnonnullN hx hb dX7_told_10 ?_
    refine lv_aload_n hx hb dX7_told_13 rfl (lv_at hl 1 rfl) ?_
    refine lv_iconst (v := 2) hx hb dX7_told_14 (by decide) ?_
    obtain ⟨w7, hzw7, h⟩ := k_bd h
    refine m_callV (C := RX7) (T := TX7) (N := 8) (ci := 7) (n := 1) (As := [.int (2 : Int32)]) (rest := []) (st1 := (.int w7.1 :: [])) E hM hl.1 ok1 (by decide) rfl rfl (c_X7_refuse l D cy sz H0 u r (2 : Int32) hzw7) wl_X7_83 wm_X7_refuse ws_X7_refuse wi_X7 wd_X7_refuse rfl rfl (by decide +kernel) ⟨by decide, by decide⟩ rfl rfl (by first | exact Nat.le_of_ble_eq_true rfl | simp [rv_cat, cat_i, cat_l, cat_r, cat_n]) dX7_told_15 ⟨by decide, by decide⟩ rfl (fun H locs hM => ?_)
    cases h
    exact m_iret hx hb hr hlk hM rfl rfl dX7_told_18
  · rw [cs_s] at h
    refine lv_ifnonnull (tgt := 19) hx hb dX7_told_10 (by decide) ?_
    refine lv_iload_n hx hb dX7_told_19 rfl (lv_at hl 3 rfl) ?_
    by_cases c8 : p2 = 0
    · replace h := (k_if h).1 c8
      refine m_tsw (k := 0) (tgt := 64) hx hb dX7_told_20 c8 (by decide) (by decide) rfl (by decide) ?_
      refine lv_aload_n hx hb dX7_told_64 rfl (lv_at hl 1 rfl) ?_
      refine lv_aload_n hx hb dX7_told_65 rfl (lv_at hl 0 rfl) ?_
      obtain ⟨ok9, h⟩ := k_gd h
      refine gs_X7_111 E hM ok9 dX7_told_66 ?_
      obtain ⟨w10, hzw10, h⟩ := k_bd h
      refine m_callV (C := RX7) (T := TX7) (N := 8) (ci := 7) (n := 1) (As := [.int (gI u k6 1)]) (rest := []) (st1 := (.int w10.1 :: [])) E hM hl.1 ok1 (by decide) rfl rfl (c_X7_answer l D cy sz H0 u r (gI u k6 1) hzw10) wl_X7_126 wm_X7_answer ws_X7_answer wi_X7 wd_X7_answer rfl rfl (by decide +kernel) ⟨by decide, by decide⟩ rfl rfl (by first | exact Nat.le_of_ble_eq_true rfl | simp [rv_cat, cat_i, cat_l, cat_r, cat_n]) dX7_told_69 ⟨by decide, by decide⟩ rfl (fun H locs hM => ?_)
      cases h
      exact m_iret hx hb hr hlk hM rfl rfl dX7_told_72
    replace h := (k_if h).2 c8
    by_cases c11 : p2 = 1
    · replace h := (k_if h).1 c11
      refine m_tsw (k := 1) (tgt := 73) hx hb dX7_told_20 c11 (by decide) (by decide) rfl (by decide) ?_
      refine lv_aload_n hx hb dX7_told_73 rfl (lv_at hl 1 rfl) ?_
      refine lv_aload_n hx hb dX7_told_74 rfl (lv_at hl 0 rfl) ?_
      obtain ⟨ok12, h⟩ := k_gd h
      refine gs_X7_129 E hM ok12 dX7_told_75 (fun x13 hxx13 => ?_)
      replace h := k_bb h x13 hxx13.symm
      rcases x13 with _ | k14
      · rw [cs_n] at h
        refine lv_ifnonnullN hx hb dX7_told_78 ?_
        refine lv_iconst (v := (-1)) hx hb dX7_told_81 (by decide) ?_
        refine lv_goto (tgt := 92) hx hb dX7_told_82 (by decide) ?_
        obtain ⟨w15, hzw15, h⟩ := k_bd h
        refine m_callV (C := RX7) (T := TX7) (N := 8) (ci := 7) (n := 1) (As := [.int (-1 : Int32)]) (rest := []) (st1 := (.int w15.1 :: [])) E hM hl.1 ok1 (by decide) rfl rfl (c_X7_answer l D cy sz H0 u r (-1 : Int32) hzw15) wl_X7_126 wm_X7_answer ws_X7_answer wi_X7 wd_X7_answer rfl rfl (by decide +kernel) ⟨by decide, by decide⟩ rfl rfl (by first | exact Nat.le_of_ble_eq_true rfl | simp [rv_cat, cat_i, cat_l, cat_r, cat_n]) dX7_told_92 ⟨by decide, by decide⟩ rfl (fun H locs hM => ?_)
        cases h
        exact m_iret hx hb hr hlk hM rfl rfl dX7_told_95
      · rw [cs_s] at h
        refine lv_ifnonnull (tgt := 85) hx hb dX7_told_78 (by decide) ?_
        refine lv_aload_n hx hb dX7_told_85 rfl (lv_at hl 0 rfl) ?_
        refine gs_X7_129 E hM ok12 dX7_told_86 (fun x16 hxx16 => ?_)
        replace h := k_bb h x16 hxx16.symm
        rcases x16 with _ | k17
        · cases h
        rw [cs_s] at h
        obtain ⟨ok18, h⟩ := k_gd h
        refine gs_X7_133 E hM ok18 dX7_told_89 ?_
        obtain ⟨w19, hzw19, h⟩ := k_bd h
        refine m_callV (C := RX7) (T := TX7) (N := 8) (ci := 7) (n := 1) (As := [.int (gI u k17 0)]) (rest := []) (st1 := (.int w19.1 :: [])) E hM hl.1 ok1 (by decide) rfl rfl (c_X7_answer l D cy sz H0 u r (gI u k17 0) hzw19) wl_X7_126 wm_X7_answer ws_X7_answer wi_X7 wd_X7_answer rfl rfl (by decide +kernel) ⟨by decide, by decide⟩ rfl rfl (by first | exact Nat.le_of_ble_eq_true rfl | simp [rv_cat, cat_i, cat_l, cat_r, cat_n]) dX7_told_92 ⟨by decide, by decide⟩ rfl (fun H locs hM => ?_)
        cases h
        exact m_iret hx hb hr hlk hM rfl rfl dX7_told_95
    replace h := (k_if h).2 c11
    by_cases c20 : p2 = 2
    · replace h := (k_if h).1 c20
      refine m_tsw (k := 2) (tgt := 96) hx hb dX7_told_20 c20 (by decide) (by decide) rfl (by decide) ?_
      refine lv_aload_n hx hb dX7_told_96 rfl (lv_at hl 1 rfl) ?_
      refine lv_aload_n hx hb dX7_told_97 rfl (lv_at hl 1 rfl) ?_
      refine gs_X7_18 E hM ok1 dX7_told_98 (fun x21 hxx21 => ?_)
      replace h := k_bb h x21 hxx21.symm
      refine lv_aload_n hx hb dX7_told_101 rfl (lv_at hl 0 rfl) ?_
      rcases x21 with _ | k22
      · cases h
      rw [cs_s] at h
      obtain ⟨ok23, h⟩ := k_gd h
      obtain ⟨w24, hzw24, h⟩ := k_bd h
      refine m_callV (C := RX0) (T := TX0) (N := 4) (ci := 0) (n := 1) (As := [.ref (sz + k6)]) (rest := [.ref (sz + r)]) (st1 := (.int w24 :: [.ref (sz + r)])) E hM hl.1 ok23 (by decide) rfl rfl (c_X0_rightIn l D cy sz H0 u k22 (some k6) hzw24) wl_X7_136 wm_X0_rightIn ws_X0_rightIn wi_X0 wd_X0_rightIn rfl rfl (by decide +kernel) ⟨by decide, by decide⟩ rfl rfl (by first | exact Nat.le_of_ble_eq_true rfl | simp [rv_cat, cat_i, cat_l, cat_r, cat_n]) dX7_told_102 ⟨by decide, by decide⟩ rfl (fun H locs hM => ?_)
      obtain ⟨w25, hzw25, h⟩ := k_bd h
      refine m_callV (C := RX7) (T := TX7) (N := 8) (ci := 7) (n := 1) (As := [.int w24]) (rest := []) (st1 := (.int w25.1 :: [])) E hM hl.1 ok1 (by decide) rfl rfl (c_X7_answer l D cy sz H0 u r w24 hzw25) wl_X7_126 wm_X7_answer ws_X7_answer wi_X7 wd_X7_answer rfl rfl (by decide +kernel) ⟨by decide, by decide⟩ rfl rfl (by first | exact Nat.le_of_ble_eq_true rfl | simp [rv_cat, cat_i, cat_l, cat_r, cat_n]) dX7_told_105 ⟨by decide, by decide⟩ rfl (fun H locs hM => ?_)
      cases h
      exact m_iret hx hb hr hlk hM rfl rfl dX7_told_108
    replace h := (k_if h).2 c20
    by_cases c26 : p2 = 3
    · replace h := (k_if h).1 c26
      refine m_tsw (k := 3) (tgt := 109) hx hb dX7_told_20 c26 (by decide) (by decide) rfl (by decide) ?_
      refine lv_aload_n hx hb dX7_told_109 rfl (lv_at hl 1 rfl) ?_
      refine lv_aload_n hx hb dX7_told_110 rfl (lv_at hl 0 rfl) ?_
      obtain ⟨ok27, h⟩ := k_gd h
      refine gs_X7_140 E hM ok27 dX7_told_111 ?_
      obtain ⟨w28, hzw28, h⟩ := k_bd h
      refine m_callV (C := RX7) (T := TX7) (N := 8) (ci := 7) (n := 1) (As := [.int (gI u k6 6)]) (rest := []) (st1 := (.int w28.1 :: [])) E hM hl.1 ok1 (by decide) rfl rfl (c_X7_answer l D cy sz H0 u r (gI u k6 6) hzw28) wl_X7_126 wm_X7_answer ws_X7_answer wi_X7 wd_X7_answer rfl rfl (by decide +kernel) ⟨by decide, by decide⟩ rfl rfl (by first | exact Nat.le_of_ble_eq_true rfl | simp [rv_cat, cat_i, cat_l, cat_r, cat_n]) dX7_told_114 ⟨by decide, by decide⟩ rfl (fun H locs hM => ?_)
      cases h
      exact m_iret hx hb hr hlk hM rfl rfl dX7_told_117
    replace h := (k_if h).2 c26
    by_cases c29 : p2 = 4
    · replace h := (k_if h).1 c29
      refine m_tsw (k := 4) (tgt := 118) hx hb dX7_told_20 c29 (by decide) (by decide) rfl (by decide) ?_
      refine lv_aload_n hx hb dX7_told_118 rfl (lv_at hl 1 rfl) ?_
      refine lv_aload_n hx hb dX7_told_119 rfl (lv_at hl 1 rfl) ?_
      refine gs_X7_32 E hM ok1 dX7_told_120 (fun x30 hxx30 => ?_)
      replace h := k_bb h x30 hxx30.symm
      rcases x30 with _ | k31
      · cases h
      rw [cs_s] at h
      obtain ⟨ok32, h⟩ := k_gd h
      refine gs_X7_143 E hM ok32 dX7_told_123 (fun x33 hxx33 => ?_)
      replace h := k_bb h x33 hxx33.symm
      rcases x33 with _ | k34
      · cases h
      rw [cs_s] at h
      obtain ⟨ok35, h⟩ := k_gd h
      refine gs_X7_147 E hM ok35 dX7_told_126 (fun x36 hxx36 => ?_)
      replace h := k_bb h x36 hxx36.symm
      refine lv_iload_n hx hb dX7_told_129 rfl (lv_at hl 2 rfl) ?_
      rcases x36 with _ | k37
      · cases h
      rw [cs_s] at h
      obtain ⟨ok38, h⟩ := k_gd h
      refine m_iald E hM ok38 dX7_told_130 ?_
      obtain ⟨w39, hzw39, h⟩ := k_bd h
      refine m_callV (C := RX7) (T := TX7) (N := 8) (ci := 7) (n := 1) (As := [.int (gI u k37 (Int32.toNatClampNeg p1))]) (rest := []) (st1 := (.int w39.1 :: [])) E hM hl.1 ok1 (by decide) rfl rfl (c_X7_answer l D cy sz H0 u r (gI u k37 (Int32.toNatClampNeg p1)) hzw39) wl_X7_126 wm_X7_answer ws_X7_answer wi_X7 wd_X7_answer rfl rfl (by decide +kernel) ⟨by decide, by decide⟩ rfl rfl (by first | exact Nat.le_of_ble_eq_true rfl | simp [rv_cat, cat_i, cat_l, cat_r, cat_n]) dX7_told_131 ⟨by decide, by decide⟩ rfl (fun H locs hM => ?_)
      cases h
      exact m_iret hx hb hr hlk hM rfl rfl dX7_told_134
    replace h := (k_if h).2 c29
    by_cases c40 : p2 = 5
    · replace h := (k_if h).1 c40
      refine m_tsw (k := 5) (tgt := 135) hx hb dX7_told_20 c40 (by decide) (by decide) rfl (by decide) ?_
      refine lv_aload_n hx hb dX7_told_135 rfl (lv_at hl 1 rfl) ?_
      refine lv_aload_n hx hb dX7_told_136 rfl (lv_at hl 1 rfl) ?_
      refine gs_X7_32 E hM ok1 dX7_told_137 (fun x41 hxx41 => ?_)
      replace h := k_bb h x41 hxx41.symm
      rcases x41 with _ | k42
      · cases h
      rw [cs_s] at h
      obtain ⟨ok43, h⟩ := k_gd h
      refine gs_X7_153 E hM ok43 dX7_told_140 (fun x44 hxx44 => ?_)
      replace h := k_bb h x44 hxx44.symm
      refine lv_iload_n hx hb dX7_told_143 rfl (lv_at hl 2 rfl) ?_
      rcases x44 with _ | k45
      · cases h
      rw [cs_s] at h
      obtain ⟨ok46, h⟩ := k_gd h
      refine m_iald E hM ok46 dX7_told_144 ?_
      obtain ⟨w47, hzw47, h⟩ := k_bd h
      refine m_callV (C := RX7) (T := TX7) (N := 8) (ci := 7) (n := 1) (As := [.int (gI u k45 (Int32.toNatClampNeg p1))]) (rest := []) (st1 := (.int w47.1 :: [])) E hM hl.1 ok1 (by decide) rfl rfl (c_X7_answer l D cy sz H0 u r (gI u k45 (Int32.toNatClampNeg p1)) hzw47) wl_X7_126 wm_X7_answer ws_X7_answer wi_X7 wd_X7_answer rfl rfl (by decide +kernel) ⟨by decide, by decide⟩ rfl rfl (by first | exact Nat.le_of_ble_eq_true rfl | simp [rv_cat, cat_i, cat_l, cat_r, cat_n]) dX7_told_145 ⟨by decide, by decide⟩ rfl (fun H locs hM => ?_)
      cases h
      exact m_iret hx hb hr hlk hM rfl rfl dX7_told_148
    replace h := (k_if h).2 c40
    by_cases c48 : p2 = 6
    · replace h := (k_if h).1 c48
      refine m_tsw (k := 6) (tgt := 149) hx hb dX7_told_20 c48 (by decide) (by decide) rfl (by decide) ?_
      refine lv_aload_n hx hb dX7_told_149 rfl (lv_at hl 1 rfl) ?_
      refine lv_aload_n hx hb dX7_told_150 rfl (lv_at hl 0 rfl) ?_
      obtain ⟨ok49, h⟩ := k_gd h
      refine gs_X7_156 E hM ok49 dX7_told_151 ?_
      obtain ⟨w50, hzw50, h⟩ := k_bd h
      refine m_callV (C := RX7) (T := TX7) (N := 8) (ci := 7) (n := 1) (As := [.int (gI u k6 9)]) (rest := []) (st1 := (.int w50.1 :: [])) E hM hl.1 ok1 (by decide) rfl rfl (c_X7_answer l D cy sz H0 u r (gI u k6 9) hzw50) wl_X7_126 wm_X7_answer ws_X7_answer wi_X7 wd_X7_answer rfl rfl (by decide +kernel) ⟨by decide, by decide⟩ rfl rfl (by first | exact Nat.le_of_ble_eq_true rfl | simp [rv_cat, cat_i, cat_l, cat_r, cat_n]) dX7_told_154 ⟨by decide, by decide⟩ rfl (fun H locs hM => ?_)
      cases h
      exact m_iret hx hb hr hlk hM rfl rfl dX7_told_157
    replace h := (k_if h).2 c48
    refine lv_tableOut (tgt := 158) hx hb dX7_told_20 (by have qc8 := lv_neT (a := 0) c8 (by decide); have qc11 := lv_neT (a := 1) c11 (by decide); have qc20 := lv_neT (a := 2) c20 (by decide); have qc26 := lv_neT (a := 3) c26 (by decide); have qc29 := lv_neT (a := 4) c29 (by decide); have qc40 := lv_neT (a := 5) c40 (by decide); have qc48 := lv_neT (a := 6) c48 (by decide); omega) (by decide) ?_
    refine lv_aload_n hx hb dX7_told_158 rfl (lv_at hl 1 rfl) ?_
    refine lv_iconst (v := 5) hx hb dX7_told_159 (by decide) ?_
    obtain ⟨w51, hzw51, h⟩ := k_bd h
    refine m_callV (C := RX7) (T := TX7) (N := 8) (ci := 7) (n := 1) (As := [.int (5 : Int32)]) (rest := []) (st1 := (.int w51.1 :: [])) E hM hl.1 ok1 (by decide) rfl rfl (c_X7_refuse l D cy sz H0 u r (5 : Int32) hzw51) wl_X7_83 wm_X7_refuse ws_X7_refuse wi_X7 wd_X7_refuse rfl rfl (by decide +kernel) ⟨by decide, by decide⟩ rfl rfl (by first | exact Nat.le_of_ble_eq_true rfl | simp [rv_cat, cat_i, cat_l, cat_r, cat_n]) dX7_told_160 ⟨by decide, by decide⟩ rfl (fun H locs hM => ?_)
    cases h
    exact m_iret hx hb hr hlk hM rfl rfl dX7_told_163

abbrev rm_X7_isField : Room := { frames := 1, cells := 0, slots := 0, locals := 36 }
def f_X7_isField (p1 : Int32) (u : Mm) : Option (Int32) := bd (f_X7_within p1 (0 : Int32) (5 : Int32) u) (fun w1 => gd (isB w1) (some w1))
set_option maxHeartbeats 4000000 in
set_option maxRecDepth 100000 in
theorem c_X7_isField (l : Launch) (D : va_G) (cy : Nat → ClassId) (sz : Nat) (H0 : Heap) (u : Mm) (p1 : Int32) {res : Int32} (h : f_X7_isField p1 u = some res) : Ctr l yX7_isField cX7_isField 1 (some .boolean) rm_X7_isField 0 0 D cy sz H0 u [.int p1] (some (.int res)) u := by
  refine m_start (lv := [(0, .int p1)]) (by decide) (by first | exact Nat.le_of_ble_eq_true rfl | simp [lg_sl, rv_cat, cat_i, cat_l, cat_r, cat_n]) (by first | rfl | simp [lv_args, rv_cat, cat_i, cat_l, cat_r, cat_n]) ?_
  intro p e s m below meth c ls E hr hlk hinit hM hl
  obtain ⟨hx, hb, hml, hown, hts, hKK⟩ := id E
  obtain ⟨H, hH⟩ : ∃ H, H = s.heap := ⟨_, rfl⟩
  obtain ⟨locs, hlocs⟩ : ∃ L : List Loc, L = [] := ⟨_, rfl⟩
  rw [← hH, ← hlocs] at hM ⊢
  unfold f_X7_isField at h
  refine lv_iload_n hx hb dX7_isField_0 rfl (lv_at hl 0 rfl) ?_
  refine lv_iconst (v := 0) hx hb dX7_isField_1 (by decide) ?_
  refine lv_iconst (v := 5) hx hb dX7_isField_2 (by decide) ?_
  obtain ⟨w1, hzw1, h⟩ := k_bd h
  refine m_callS (n := 3) (As := [.int p1, .int (0 : Int32), .int (5 : Int32)]) (rest := []) (st1 := (.int w1 :: [])) E hM hl.1 (c_X7_within l D cy sz H0 u p1 (0 : Int32) (5 : Int32) hzw1) wl_X7_59 wst_X7_within wi_X7 wd_X7_within rfl rfl (by decide +kernel) ⟨by decide, by decide⟩ rfl rfl (by first | exact Nat.le_of_ble_eq_true rfl | simp [rv_cat, cat_i, cat_l, cat_r, cat_n]) dX7_isField_3 ⟨by decide, by decide⟩ rfl (fun H locs hM => ?_)
  obtain ⟨hB2, h⟩ := k_gd h
  cases h
  exact m_zret hx hb hr hlk hM hB2 rfl rfl dX7_isField_6

abbrev rm_X7_say : Room := { frames := 2, cells := 0, slots := 0, locals := 72 }
def f_X7_say (r : Nat) (p1 : Int32) (p2 : Int32) (p3 : Int32) (u : Mm) : Option ((Int32) × Mm) := gd (okO u r 7) (bb (gR u r 1) (fun x2 => cs x2 none (fun k3 => gd (okO u k3 0) (bd (f_X0_at k3 p1 u) (fun w5 => cs w5 (bd (f_X7_deny r (2 : Int32) u) (fun w7 => gd (isB w7.1) (some (w7.1, w7.2)))) (fun k6 => bd (f_X7_isField p2 u) (fun w9 => (if w9 = 0 then bd (f_X7_deny r (2 : Int32) u) (fun w21 => gd (isB w21.1) (some (w21.1, w21.2))) else bd (f_X7_within p3 (-1 : Int32) (999 : Int32) u) (fun w11 => (if w11 = 0 then bd (f_X7_deny r (5 : Int32) u) (fun w19 => gd (isB w19.1) (some (w19.1, w19.2))) else gd (okO u k6 5) (bb (gR u k6 3) (fun x14 => cs x14 none (fun k15 => gd (okA u k15 9 p2) (bd (f_X7_grant r (sI u k15 (Int32.toNatClampNeg p2) p3)) (fun w17 => gd (isB w17.1) (some (w17.1, w17.2)))))))))))))))))
set_option maxHeartbeats 4000000 in
set_option maxRecDepth 100000 in
theorem c_X7_say (l : Launch) (D : va_G) (cy : Nat → ClassId) (sz : Nat) (H0 : Heap) (u : Mm) (r : Nat) (p1 : Int32) (p2 : Int32) (p3 : Int32) {res : (Int32) × Mm} (h : f_X7_say r p1 p2 p3 u = some res) : Ctr l yX7_say cX7_say 5 (some .boolean) rm_X7_say 0 0 D cy sz H0 u [.ref (sz + r), .int p1, .int p2, .int p3] (some (.int res.1)) res.2 := by
  refine m_start (lv := [(0, .ref (sz + r)), (1, .int p1), (2, .int p2), (3, .int p3)]) (by decide) (by first | exact Nat.le_of_ble_eq_true rfl | simp [lg_sl, rv_cat, cat_i, cat_l, cat_r, cat_n]) (by first | rfl | simp [lv_args, rv_cat, cat_i, cat_l, cat_r, cat_n]) ?_
  intro p e s m below meth c ls E hr hlk hinit hM hl
  obtain ⟨hx, hb, hml, hown, hts, hKK⟩ := id E
  obtain ⟨H, hH⟩ : ∃ H, H = s.heap := ⟨_, rfl⟩
  obtain ⟨locs, hlocs⟩ : ∃ L : List Loc, L = [] := ⟨_, rfl⟩
  rw [← hH, ← hlocs] at hM ⊢
  unfold f_X7_say at h
  refine lv_aload_n hx hb dX7_say_0 rfl (lv_at hl 0 rfl) ?_
  obtain ⟨ok1, h⟩ := k_gd h
  refine gs_X7_18 E hM ok1 dX7_say_1 (fun x2 hxx2 => ?_)
  replace h := k_bb h x2 hxx2.symm
  refine lv_iload_n hx hb dX7_say_4 rfl (lv_at hl 1 rfl) ?_
  rcases x2 with _ | k3
  · cases h
  rw [cs_s] at h
  obtain ⟨ok4, h⟩ := k_gd h
  obtain ⟨w5, hzw5, h⟩ := k_bd h
  refine m_callV (C := RX0) (T := TX0) (N := 4) (ci := 0) (n := 1) (As := [.int p1]) (rest := []) (st1 := (rv sz w5 :: [])) E hM hl.1 ok4 (by decide) rfl rfl (c_X0_at l D cy sz H0 u k3 p1 hzw5) wl_X7_107 wm_X0_at ws_X0_at wi_X0 wd_X0_at rfl rfl (by decide +kernel) ⟨by decide, by decide⟩ rfl rfl (by first | exact Nat.le_of_ble_eq_true rfl | simp [rv_cat, cat_i, cat_l, cat_r, cat_n]) dX7_say_5 ⟨by decide, by decide⟩ rfl (fun H locs hM => ?_)
  refine m_astore (i := 4) (lv' := [(4, rv sz w5), (0, .ref (sz + r)), (1, .int p1), (2, .int p2), (3, .int p3)]) hx hb dX7_say_8 hl (by decide) (by first | rfl | simp [rv_cat, cat_i, cat_l, cat_r, cat_n]) (fun ls hl => ?_)
  refine m_aload hx hb dX7_say_10 (lv_at hl 0 rfl) ?_
  rcases w5 with _ | k6
  · rw [cs_n] at h
    refine lv_ifnullN (tgt := 22) hx hb dX7_say_12 (by decide) ?_
    refine lv_aload_n hx hb dX7_say_22 rfl (lv_at hl 1 rfl) ?_
    refine lv_iconst (v := 2) hx hb dX7_say_23 (by decide) ?_
    obtain ⟨w7, hzw7, h⟩ := k_bd h
    refine m_callV (C := RX7) (T := TX7) (N := 8) (ci := 7) (n := 1) (As := [.int (2 : Int32)]) (rest := []) (st1 := (.int w7.1 :: [])) E hM hl.1 ok1 (by decide) rfl rfl (c_X7_deny l D cy sz H0 u r (2 : Int32) hzw7) wl_X7_63 wm_X7_deny ws_X7_deny wi_X7 wd_X7_deny rfl rfl (by decide +kernel) ⟨by decide, by decide⟩ rfl rfl (by first | exact Nat.le_of_ble_eq_true rfl | simp [rv_cat, cat_i, cat_l, cat_r, cat_n]) dX7_say_24 ⟨by decide, by decide⟩ rfl (fun H locs hM => ?_)
    obtain ⟨hB8, h⟩ := k_gd h
    cases h
    exact m_zret hx hb hr hlk hM hB8 rfl rfl dX7_say_27
  · rw [cs_s] at h
    refine lv_ifnull hx hb dX7_say_12 ?_
    refine lv_iload_n hx hb dX7_say_15 rfl (lv_at hl 3 rfl) ?_
    obtain ⟨w9, hzw9, h⟩ := k_bd h
    refine m_callS (n := 1) (As := [.int p2]) (rest := []) (st1 := (.int w9 :: [])) E hM hl.1 (c_X7_isField l D cy sz H0 u p2 hzw9) wl_X7_159 wst_X7_isField wi_X7 wd_X7_isField rfl rfl (by decide +kernel) ⟨by decide, by decide⟩ rfl rfl (by first | exact Nat.le_of_ble_eq_true rfl | simp [rv_cat, cat_i, cat_l, cat_r, cat_n]) dX7_say_16 ⟨by decide, by decide⟩ rfl (fun H locs hM => ?_)
    refine lv_if_ne (tgt := 28) hx hb dX7_say_19 (by decide) (fun c10 => ?_) (fun c10 => ?_)
    · replace h := (k_if h).2 c10
      refine lv_iload_n hx hb dX7_say_28 rfl (lv_at hl 4 rfl) ?_
      refine lv_iconst (v := (-1)) hx hb dX7_say_29 (by decide) ?_
      refine lv_sipush (v := 999) hx hb dX7_say_30 (by decide) ?_
      obtain ⟨w11, hzw11, h⟩ := k_bd h
      refine m_callS (n := 3) (As := [.int p3, .int (-1 : Int32), .int (999 : Int32)]) (rest := []) (st1 := (.int w11 :: [])) E hM hl.1 (c_X7_within l D cy sz H0 u p3 (-1 : Int32) (999 : Int32) hzw11) wl_X7_59 wst_X7_within wi_X7 wd_X7_within rfl rfl (by decide +kernel) ⟨by decide, by decide⟩ rfl rfl (by first | exact Nat.le_of_ble_eq_true rfl | simp [rv_cat, cat_i, cat_l, cat_r, cat_n]) dX7_say_33 ⟨by decide, by decide⟩ rfl (fun H locs hM => ?_)
      refine lv_if_ne (tgt := 45) hx hb dX7_say_36 (by decide) (fun c12 => ?_) (fun c12 => ?_)
      · replace h := (k_if h).2 c12
        refine lv_aload hx hb dX7_say_45 (lv_at hl 0 rfl) ?_
        obtain ⟨ok13, h⟩ := k_gd h
        refine gs_X7_162 E hM ok13 dX7_say_47 (fun x14 hxx14 => ?_)
        replace h := k_bb h x14 hxx14.symm
        refine lv_iload_n hx hb dX7_say_50 rfl (lv_at hl 3 rfl) ?_
        refine lv_iload_n hx hb dX7_say_51 rfl (lv_at hl 4 rfl) ?_
        rcases x14 with _ | k15
        · cases h
        rw [cs_s] at h
        obtain ⟨ok16, h⟩ := k_gd h
        refine m_iast E hM ok16 dX7_say_52 (fun H locs hM => ?_)
        refine lv_aload_n hx hb dX7_say_53 rfl (lv_at hl 1 rfl) ?_
        obtain ⟨w17, hzw17, h⟩ := k_bd h
        refine m_callV (C := RX7) (T := TX7) (N := 8) (ci := 7) (n := 0) (As := []) (rest := []) (st1 := (.int w17.1 :: [])) E hM hl.1 ok1 (by decide) rfl rfl (c_X7_grant l D cy sz H0 (sI u k15 (Int32.toNatClampNeg p2) p3) r hzw17) wl_X7_71 wm_X7_grant ws_X7_grant wi_X7 wd_X7_grant rfl rfl (by decide +kernel) ⟨by decide, by decide⟩ rfl rfl (by first | exact Nat.le_of_ble_eq_true rfl | simp [rv_cat, cat_i, cat_l, cat_r, cat_n]) dX7_say_54 ⟨by decide, by decide⟩ rfl (fun H locs hM => ?_)
        obtain ⟨hB18, h⟩ := k_gd h
        cases h
        exact m_zret hx hb hr hlk hM hB18 rfl rfl dX7_say_57
      · replace h := (k_if h).1 c12
        refine lv_aload_n hx hb dX7_say_39 rfl (lv_at hl 1 rfl) ?_
        refine lv_iconst (v := 5) hx hb dX7_say_40 (by decide) ?_
        obtain ⟨w19, hzw19, h⟩ := k_bd h
        refine m_callV (C := RX7) (T := TX7) (N := 8) (ci := 7) (n := 1) (As := [.int (5 : Int32)]) (rest := []) (st1 := (.int w19.1 :: [])) E hM hl.1 ok1 (by decide) rfl rfl (c_X7_deny l D cy sz H0 u r (5 : Int32) hzw19) wl_X7_63 wm_X7_deny ws_X7_deny wi_X7 wd_X7_deny rfl rfl (by decide +kernel) ⟨by decide, by decide⟩ rfl rfl (by first | exact Nat.le_of_ble_eq_true rfl | simp [rv_cat, cat_i, cat_l, cat_r, cat_n]) dX7_say_41 ⟨by decide, by decide⟩ rfl (fun H locs hM => ?_)
        obtain ⟨hB20, h⟩ := k_gd h
        cases h
        exact m_zret hx hb hr hlk hM hB20 rfl rfl dX7_say_44
    · replace h := (k_if h).1 c10
      refine lv_aload_n hx hb dX7_say_22 rfl (lv_at hl 1 rfl) ?_
      refine lv_iconst (v := 2) hx hb dX7_say_23 (by decide) ?_
      obtain ⟨w21, hzw21, h⟩ := k_bd h
      refine m_callV (C := RX7) (T := TX7) (N := 8) (ci := 7) (n := 1) (As := [.int (2 : Int32)]) (rest := []) (st1 := (.int w21.1 :: [])) E hM hl.1 ok1 (by decide) rfl rfl (c_X7_deny l D cy sz H0 u r (2 : Int32) hzw21) wl_X7_63 wm_X7_deny ws_X7_deny wi_X7 wd_X7_deny rfl rfl (by decide +kernel) ⟨by decide, by decide⟩ rfl rfl (by first | exact Nat.le_of_ble_eq_true rfl | simp [rv_cat, cat_i, cat_l, cat_r, cat_n]) dX7_say_24 ⟨by decide, by decide⟩ rfl (fun H locs hM => ?_)
      obtain ⟨hB22, h⟩ := k_gd h
      cases h
      exact m_zret hx hb hr hlk hM hB22 rfl rfl dX7_say_27

abbrev rm_X7_has : Room := { frames := 2, cells := 0, slots := 0, locals := 72 }
def f_X7_has (r : Nat) (p1 : Int32) (p2 : Int32) (u : Mm) : Option ((Int32) × Mm) := gd (okO u r 7) (bb (gR u r 1) (fun x2 => cs x2 none (fun k3 => gd (okO u k3 0) (bd (f_X0_at k3 p1 u) (fun w5 => cs w5 (bd (f_X7_refuse r (2 : Int32) u) (fun w7 => some (w7.1, w7.2))) (fun k6 => bd (f_X7_isField p2 u) (fun w8 => (if w8 = 0 then bd (f_X7_refuse r (2 : Int32) u) (fun w15 => some (w15.1, w15.2)) else gd (okO u k6 5) (bd (f_X5_saidInLine k6 p2 u) (fun w11 => (if w11 = (-1 : Int32) then bd (f_X7_refuse r (9 : Int32) u) (fun w14 => some (w14.1, w14.2)) else bd (f_X7_answer r w11 u) (fun w13 => some (w13.1, w13.2)))))))))))))
set_option maxHeartbeats 4000000 in
set_option maxRecDepth 100000 in
theorem c_X7_has (l : Launch) (D : va_G) (cy : Nat → ClassId) (sz : Nat) (H0 : Heap) (u : Mm) (r : Nat) (p1 : Int32) (p2 : Int32) {res : (Int32) × Mm} (h : f_X7_has r p1 p2 u = some res) : Ctr l yX7_has cX7_has 5 (some .int) rm_X7_has 0 0 D cy sz H0 u [.ref (sz + r), .int p1, .int p2] (some (.int res.1)) res.2 := by
  refine m_start (lv := [(0, .ref (sz + r)), (1, .int p1), (2, .int p2)]) (by decide) (by first | exact Nat.le_of_ble_eq_true rfl | simp [lg_sl, rv_cat, cat_i, cat_l, cat_r, cat_n]) (by first | rfl | simp [lv_args, rv_cat, cat_i, cat_l, cat_r, cat_n]) ?_
  intro p e s m below meth c ls E hr hlk hinit hM hl
  obtain ⟨hx, hb, hml, hown, hts, hKK⟩ := id E
  obtain ⟨H, hH⟩ : ∃ H, H = s.heap := ⟨_, rfl⟩
  obtain ⟨locs, hlocs⟩ : ∃ L : List Loc, L = [] := ⟨_, rfl⟩
  rw [← hH, ← hlocs] at hM ⊢
  unfold f_X7_has at h
  refine lv_aload_n hx hb dX7_has_0 rfl (lv_at hl 0 rfl) ?_
  obtain ⟨ok1, h⟩ := k_gd h
  refine gs_X7_18 E hM ok1 dX7_has_1 (fun x2 hxx2 => ?_)
  replace h := k_bb h x2 hxx2.symm
  refine lv_iload_n hx hb dX7_has_4 rfl (lv_at hl 1 rfl) ?_
  rcases x2 with _ | k3
  · cases h
  rw [cs_s] at h
  obtain ⟨ok4, h⟩ := k_gd h
  obtain ⟨w5, hzw5, h⟩ := k_bd h
  refine m_callV (C := RX0) (T := TX0) (N := 4) (ci := 0) (n := 1) (As := [.int p1]) (rest := []) (st1 := (rv sz w5 :: [])) E hM hl.1 ok4 (by decide) rfl rfl (c_X0_at l D cy sz H0 u k3 p1 hzw5) wl_X7_107 wm_X0_at ws_X0_at wi_X0 wd_X0_at rfl rfl (by decide +kernel) ⟨by decide, by decide⟩ rfl rfl (by first | exact Nat.le_of_ble_eq_true rfl | simp [rv_cat, cat_i, cat_l, cat_r, cat_n]) dX7_has_5 ⟨by decide, by decide⟩ rfl (fun H locs hM => ?_)
  refine m_astore_n (i := 3) (lv' := [(3, rv sz w5), (0, .ref (sz + r)), (1, .int p1), (2, .int p2)]) hx hb dX7_has_8 rfl hl (by decide) (by first | rfl | simp [rv_cat, cat_i, cat_l, cat_r, cat_n]) (fun ls hl => ?_)
  refine m_aload_n hx hb dX7_has_9 rfl (lv_at hl 0 rfl) ?_
  rcases w5 with _ | k6
  · rw [cs_n] at h
    refine lv_ifnullN (tgt := 20) hx hb dX7_has_10 (by decide) ?_
    refine lv_aload_n hx hb dX7_has_20 rfl (lv_at hl 1 rfl) ?_
    refine lv_iconst (v := 2) hx hb dX7_has_21 (by decide) ?_
    obtain ⟨w7, hzw7, h⟩ := k_bd h
    refine m_callV (C := RX7) (T := TX7) (N := 8) (ci := 7) (n := 1) (As := [.int (2 : Int32)]) (rest := []) (st1 := (.int w7.1 :: [])) E hM hl.1 ok1 (by decide) rfl rfl (c_X7_refuse l D cy sz H0 u r (2 : Int32) hzw7) wl_X7_83 wm_X7_refuse ws_X7_refuse wi_X7 wd_X7_refuse rfl rfl (by decide +kernel) ⟨by decide, by decide⟩ rfl rfl (by first | exact Nat.le_of_ble_eq_true rfl | simp [rv_cat, cat_i, cat_l, cat_r, cat_n]) dX7_has_22 ⟨by decide, by decide⟩ rfl (fun H locs hM => ?_)
    cases h
    exact m_iret hx hb hr hlk hM rfl rfl dX7_has_25
  · rw [cs_s] at h
    refine lv_ifnull hx hb dX7_has_10 ?_
    refine lv_iload_n hx hb dX7_has_13 rfl (lv_at hl 3 rfl) ?_
    obtain ⟨w8, hzw8, h⟩ := k_bd h
    refine m_callS (n := 1) (As := [.int p2]) (rest := []) (st1 := (.int w8 :: [])) E hM hl.1 (c_X7_isField l D cy sz H0 u p2 hzw8) wl_X7_159 wst_X7_isField wi_X7 wd_X7_isField rfl rfl (by decide +kernel) ⟨by decide, by decide⟩ rfl rfl (by first | exact Nat.le_of_ble_eq_true rfl | simp [rv_cat, cat_i, cat_l, cat_r, cat_n]) dX7_has_14 ⟨by decide, by decide⟩ rfl (fun H locs hM => ?_)
    refine lv_if_ne (tgt := 26) hx hb dX7_has_17 (by decide) (fun c9 => ?_) (fun c9 => ?_)
    · replace h := (k_if h).2 c9
      refine lv_aload_n hx hb dX7_has_26 rfl (lv_at hl 0 rfl) ?_
      refine lv_iload_n hx hb dX7_has_27 rfl (lv_at hl 3 rfl) ?_
      obtain ⟨ok10, h⟩ := k_gd h
      obtain ⟨w11, hzw11, h⟩ := k_bd h
      refine m_callV (C := RX5) (T := TX5) (N := 11) (ci := 5) (n := 1) (As := [.int p2]) (rest := []) (st1 := (.int w11 :: [])) E hM hl.1 ok10 (by decide) rfl rfl (c_X5_saidInLine l D cy sz H0 u k6 p2 hzw11) wl_X7_165 wm_X5_saidInLine ws_X5_saidInLine wi_X5 wd_X5_saidInLine rfl rfl (by decide +kernel) ⟨by decide, by decide⟩ rfl rfl (by first | exact Nat.le_of_ble_eq_true rfl | simp [rv_cat, cat_i, cat_l, cat_r, cat_n]) dX7_has_28 ⟨by decide, by decide⟩ rfl (fun H locs hM => ?_)
      refine lv_istore (i := 4) (lv' := [(4, .int w11), (3, .ref (sz + k6)), (0, .ref (sz + r)), (1, .int p1), (2, .int p2)]) hx hb dX7_has_31 hl (by decide) (by first | rfl | simp [rv_cat, cat_i, cat_l, cat_r, cat_n]) (fun ls hl => ?_)
      refine lv_iload hx hb dX7_has_33 (lv_at hl 0 rfl) ?_
      refine lv_iconst (v := (-1)) hx hb dX7_has_35 (by decide) ?_
      refine lv_icmp_ne (tgt := 48) hx hb dX7_has_36 (by decide) (fun c12 => ?_) (fun c12 => ?_)
      · replace h := (k_if h).2 c12
        refine lv_aload_n hx hb dX7_has_48 rfl (lv_at hl 2 rfl) ?_
        refine lv_iload hx hb dX7_has_49 (lv_at hl 0 rfl) ?_
        obtain ⟨w13, hzw13, h⟩ := k_bd h
        refine m_callV (C := RX7) (T := TX7) (N := 8) (ci := 7) (n := 1) (As := [.int w11]) (rest := []) (st1 := (.int w13.1 :: [])) E hM hl.1 ok1 (by decide) rfl rfl (c_X7_answer l D cy sz H0 u r w11 hzw13) wl_X7_126 wm_X7_answer ws_X7_answer wi_X7 wd_X7_answer rfl rfl (by decide +kernel) ⟨by decide, by decide⟩ rfl rfl (by first | exact Nat.le_of_ble_eq_true rfl | simp [rv_cat, cat_i, cat_l, cat_r, cat_n]) dX7_has_51 ⟨by decide, by decide⟩ rfl (fun H locs hM => ?_)
        cases h
        exact m_iret hx hb hr hlk hM rfl rfl dX7_has_54
      · replace h := (k_if h).1 c12
        refine lv_aload_n hx hb dX7_has_39 rfl (lv_at hl 2 rfl) ?_
        refine lv_bipush (v := 9) hx hb dX7_has_40 (by decide) ?_
        obtain ⟨w14, hzw14, h⟩ := k_bd h
        refine m_callV (C := RX7) (T := TX7) (N := 8) (ci := 7) (n := 1) (As := [.int (9 : Int32)]) (rest := []) (st1 := (.int w14.1 :: [])) E hM hl.1 ok1 (by decide) rfl rfl (c_X7_refuse l D cy sz H0 u r (9 : Int32) hzw14) wl_X7_83 wm_X7_refuse ws_X7_refuse wi_X7 wd_X7_refuse rfl rfl (by decide +kernel) ⟨by decide, by decide⟩ rfl rfl (by first | exact Nat.le_of_ble_eq_true rfl | simp [rv_cat, cat_i, cat_l, cat_r, cat_n]) dX7_has_42 ⟨by decide, by decide⟩ rfl (fun H locs hM => ?_)
        refine lv_goto (tgt := 54) hx hb dX7_has_45 (by decide) ?_
        cases h
        exact m_iret hx hb hr hlk hM rfl rfl dX7_has_54
    · replace h := (k_if h).1 c9
      refine lv_aload_n hx hb dX7_has_20 rfl (lv_at hl 1 rfl) ?_
      refine lv_iconst (v := 2) hx hb dX7_has_21 (by decide) ?_
      obtain ⟨w15, hzw15, h⟩ := k_bd h
      refine m_callV (C := RX7) (T := TX7) (N := 8) (ci := 7) (n := 1) (As := [.int (2 : Int32)]) (rest := []) (st1 := (.int w15.1 :: [])) E hM hl.1 ok1 (by decide) rfl rfl (c_X7_refuse l D cy sz H0 u r (2 : Int32) hzw15) wl_X7_83 wm_X7_refuse ws_X7_refuse wi_X7 wd_X7_refuse rfl rfl (by decide +kernel) ⟨by decide, by decide⟩ rfl rfl (by first | exact Nat.le_of_ble_eq_true rfl | simp [rv_cat, cat_i, cat_l, cat_r, cat_n]) dX7_has_22 ⟨by decide, by decide⟩ rfl (fun H locs hM => ?_)
      cases h
      exact m_iret hx hb hr hlk hM rfl rfl dX7_has_25

