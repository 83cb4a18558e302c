abbrev rm_X8_no : Room := { frames := 0, cells := 0, slots := 0, locals := 0 }
def f_X8_no (r : Nat) (p1 : Int32) (u : Mm) : Option ((Int32) × Mm) := gd (okO u r 8) (some ((0 : Int32), (sI u r 0 p1)))
set_option maxHeartbeats 4000000 in
set_option maxRecDepth 100000 in
theorem c_X8_no (l : Launch) (D : va_G) (cy : Nat → ClassId) (sz : Nat) (H0 : Heap) (u : Mm) (r : Nat) (p1 : Int32) {res : (Int32) × Mm} (h : f_X8_no r p1 u = some res) : Ctr l yX8_no cX8_no 2 (some .boolean) rm_X8_no 0 0 D cy sz H0 u [.ref (sz + r), .int p1] (some (.int res.1)) res.2 := by
  refine m_start (lv := [(0, .ref (sz + r)), (1, .int p1)]) (by decide) (by first | exact Nat.le_of_ble_eq_true rfl | simp [lg_sl, rv_cat, cat_i, cat_l, cat_r, cat_n]) (by first | rfl | simp [lv_args, rv_cat, cat_i, cat_l, cat_r, cat_n]) ?_
  intro p e s m below meth c ls E hr hlk hinit hM hl
  obtain ⟨hx, hb, hml, hown, hts, hKK⟩ := id E
  obtain ⟨H, hH⟩ : ∃ H, H = s.heap := ⟨_, rfl⟩
  obtain ⟨locs, hlocs⟩ : ∃ L : List Loc, L = [] := ⟨_, rfl⟩
  rw [← hH, ← hlocs] at hM ⊢
  unfold f_X8_no at h
  refine lv_aload_n hx hb dX8_no_0 rfl (lv_at hl 0 rfl) ?_
  refine lv_iload_n hx hb dX8_no_1 rfl (lv_at hl 1 rfl) ?_
  obtain ⟨ok1, h⟩ := k_gd h
  refine ps_X8_97 (v := p1) E hM ok1 dX8_no_2 (fun H locs hM => ?_)
  refine lv_iconst (v := 0) hx hb dX8_no_5 (by decide) ?_
  cases h
  exact m_zret hx hb hr hlk hM (by decide) rfl rfl dX8_no_6

abbrev rm_X8_cut : Room := { frames := 0, cells := 0, slots := 0, locals := 0 }
def f_X8_cut (p1 : Int32) (p2 : Int64) (u : Mm) : Option (Int64) := (if p1 = 0 then some (Int32.toInt64 (Int8.toInt32 (Int32.toInt8 (Int64.toInt32 p2)))) else (if p1 = (1 : Int32) then some (Int32.toInt64 (Int16.toInt32 (Int32.toInt16 (Int64.toInt32 p2)))) else (if p1 = (2 : Int32) then some (Int32.toInt64 (Int64.toInt32 p2)) else some p2)))
set_option maxHeartbeats 4000000 in
set_option maxRecDepth 100000 in
theorem c_X8_cut (l : Launch) (D : va_G) (cy : Nat → ClassId) (sz : Nat) (H0 : Heap) (u : Mm) (p1 : Int32) (p2 : Int64) {res : Int64} (h : f_X8_cut p1 p2 u = some res) : Ctr l yX8_cut cX8_cut 3 (some .long) rm_X8_cut 0 0 D cy sz H0 u [.int p1, .long p2] (some (.long res)) u := by
  refine m_start (lv := [(0, .int p1), (1, .long p2)]) (by decide) (by first | exact Nat.le_of_ble_eq_true rfl | simp [lg_sl, rv_cat, cat_i, cat_l, cat_r, cat_n]) (by first | rfl | simp [lv_args, rv_cat, cat_i, cat_l, cat_r, cat_n]) ?_
  intro p e s m below meth c ls E hr hlk hinit hM hl
  obtain ⟨hx, hb, hml, hown, hts, hKK⟩ := id E
  obtain ⟨H, hH⟩ : ∃ H, H = s.heap := ⟨_, rfl⟩
  obtain ⟨locs, hlocs⟩ : ∃ L : List Loc, L = [] := ⟨_, rfl⟩
  rw [← hH, ← hlocs] at hM ⊢
  unfold f_X8_cut at h
  refine lv_iload_n hx hb dX8_cut_0 rfl (lv_at hl 0 rfl) ?_
  refine lv_if_ne (tgt := 11) hx hb dX8_cut_1 (by decide) (fun c1 => ?_) (fun c1 => ?_)
  · replace h := (k_if h).2 c1
    refine lv_iload_n hx hb dX8_cut_11 rfl (lv_at hl 0 rfl) ?_
    refine lv_iconst (v := 1) hx hb dX8_cut_12 (by decide) ?_
    refine lv_icmp_ne (tgt := 23) hx hb dX8_cut_13 (by decide) (fun c2 => ?_) (fun c2 => ?_)
    · replace h := (k_if h).2 c2
      refine lv_iload_n hx hb dX8_cut_23 rfl (lv_at hl 0 rfl) ?_
      refine lv_iconst (v := 2) hx hb dX8_cut_24 (by decide) ?_
      refine lv_icmp_ne (tgt := 34) hx hb dX8_cut_25 (by decide) (fun c3 => ?_) (fun c3 => ?_)
      · replace h := (k_if h).2 c3
        refine lv_lload_n hx hb dX8_cut_34 rfl (lv_at hl 1 rfl) ?_
        cases h
        exact m_lret hx hb hr hlk hM rfl rfl dX8_cut_35
      · replace h := (k_if h).1 c3
        refine lv_lload_n hx hb dX8_cut_28 rfl (lv_at hl 1 rfl) ?_
        refine lv_l2i hx hb dX8_cut_29 rfl ?_
        refine lv_i2l hx hb dX8_cut_30 rfl ?_
        refine lv_goto (tgt := 35) hx hb dX8_cut_31 (by decide) ?_
        cases h
        exact m_lret hx hb hr hlk hM rfl rfl dX8_cut_35
    · replace h := (k_if h).1 c2
      refine lv_lload_n hx hb dX8_cut_16 rfl (lv_at hl 1 rfl) ?_
      refine lv_l2i hx hb dX8_cut_17 rfl ?_
      refine lv_i2s hx hb dX8_cut_18 rfl ?_
      refine lv_i2l hx hb dX8_cut_19 rfl ?_
      refine lv_goto (tgt := 35) hx hb dX8_cut_20 (by decide) ?_
      cases h
      exact m_lret hx hb hr hlk hM rfl rfl dX8_cut_35
  · replace h := (k_if h).1 c1
    refine lv_lload_n hx hb dX8_cut_4 rfl (lv_at hl 1 rfl) ?_
    refine lv_l2i hx hb dX8_cut_5 rfl ?_
    refine lv_i2b hx hb dX8_cut_6 rfl ?_
    refine lv_i2l hx hb dX8_cut_7 rfl ?_
    refine lv_goto (tgt := 35) hx hb dX8_cut_8 (by decide) ?_
    cases h
    exact m_lret hx hb hr hlk hM rfl rfl dX8_cut_35

abbrev rm_X8_tray : Room := { frames := 1, cells := 0, slots := 0, locals := 36 }
def L_X8_tray_74 (b0 : Nat) (b1 : Int32) (b2 : Int32) (b3 : Int32) (k : Int32 → Mm → Option ((Int32) × Mm)) : Nat → Int32 → Mm → Option ((Int32) × Mm)
  | 0, _, _ => none
  | n + 1, a4, u => (if b3 ≤ a4 then k a4 u else gd (okO u b0 8) (bb (gR u b0 6) (fun x22 => cs x22 none (fun k23 => gd (okA u k23 10 (((40 : Int32) * b1) + a4)) (bb (a4 + (1)) (fun v25 => L_X8_tray_74 b0 b1 b2 b3 k n v25 (sL u k23 (Int32.toNatClampNeg (((40 : Int32) * b1) + a4)) (0 : Int64))))))))
set_option maxHeartbeats 4000000 in
set_option maxRecDepth 100000 in
theorem lp_X8_tray_74 {p : Program} {l : Launch} {e : Env} {s : State} {m : MethodId} {args : Array Value} {below : List Frame} {meth : Method} {c : Code} {D : va_G} {cy : Nat → ClassId} {sz : Nat} {H0 : Heap} {b0 : Nat} {b1 : Int32} {b2 : Int32} {b3 : Int32} {k : Int32 → Mm → Option ((Int32) × Mm)} {res : (Int32) × Mm} (hr : meth.sig.returnType = (some .boolean)) (hlk : meth.locks = false) (E : EE p s m args c cX8_tray 5 RX8 D cy) : ∀ (n : Nat) (a4 : Int32) (u : Mm) (H : Heap) (locs : List Loc) (ls : Array Slot), MM D cy sz H0 u H locs → lv_has ls 5 [(0, .ref (sz + b0)), (1, .int b1), (2, .int b2), (3, .int b3), (4, .int a4)] → L_X8_tray_74 b0 b1 b2 b3 k n a4 u = some res → (∀ (a4 : Int32) (u : Mm) (H : Heap) (locs : List Loc) (ls : Array Slot), MM D cy sz H0 u H locs → lv_has ls 5 [(0, .ref (sz + b0)), (1, .int b1), (2, .int b2), (3, .int b3), (4, .int a4)] → k a4 u = some res → W p l e rm_X8_tray s m args below meth c H locs 0 0 (MQ below (Post D cy sz H0 (some (.int res.1)) res.2) args s 0 0 (fun q => sz ≤ q)) (F0 m 99 ls [])) → W p l e rm_X8_tray s m args below meth c H locs 0 0 (MQ below (Post D cy sz H0 (some (.int res.1)) res.2) args s 0 0 (fun q => sz ≤ q)) (F0 m 74 ls []) := by
  obtain ⟨hx, hb, hml, hown, hts, hKK⟩ := id E
  intro n
  induction n with
  | zero => intros; rename_i h _; cases h
  | succ n ih =>
    intro a4 u H locs ls hM hl h hk
    rw [L_X8_tray_74] at h
    refine lv_iload hx hb dX8_tray_74 (lv_at hl 4 rfl) ?_
    refine lv_iload_n hx hb dX8_tray_76 rfl (lv_at hl 3 rfl) ?_
    refine lv_icmp_ge (tgt := 99) hx hb dX8_tray_77 (by decide) (fun c20 => ?_) (fun c20 => ?_)
    · replace h := (k_if h).1 c20
      exact hk a4 u H locs ls hM (lv_sub hl [0, 1, 2, 3, 4] rfl) h
    · replace h := (k_if h).2 c20
      refine lv_aload_n hx hb dX8_tray_80 rfl (lv_at hl 0 rfl) ?_
      obtain ⟨ok21, h⟩ := k_gd h
      refine gs_X8_20 E hM ok21 dX8_tray_81 (fun x22 hxx22 => ?_)
      replace h := k_bb h x22 hxx22.symm
      refine lv_bipush (v := 40) hx hb dX8_tray_84 (by decide) ?_
      refine lv_iload_n hx hb dX8_tray_86 rfl (lv_at hl 1 rfl) ?_
      refine lv_imul hx hb dX8_tray_87 ?_
      refine lv_iload hx hb dX8_tray_88 (lv_at hl 4 rfl) ?_
      refine lv_iadd hx hb dX8_tray_90 ?_
      refine lv_lconst (v := 0) hx hb dX8_tray_91 (by decide) ?_
      rcases x22 with _ | k23
      · cases h
      rw [cs_s] at h
      obtain ⟨ok24, h⟩ := k_gd h
      refine m_last E hM ok24 dX8_tray_92 (fun H locs hM => ?_)
      obtain ⟨v25, hvv25⟩ : ∃ y : Int32, y = a4 + (1) := ⟨_, rfl⟩
      replace h := k_bb h v25 hvv25
      refine lv_iinc (v := v25) (lv' := [(4, .int v25), (0, .ref (sz + b0)), (1, .int b1), (2, .int b2), (3, .int b3)]) hx hb dX8_tray_93 hl (k := 4) rfl (by rw [hvv25]; rfl) (by decide) (by first | rfl | simp [rv_cat, cat_i, cat_l, cat_r, cat_n]) (fun ls hl => ?_)
      refine lv_goto (tgt := 74) hx hb dX8_tray_96 (by decide) ?_
      exact ih v25 (sL u k23 (Int32.toNatClampNeg (((40 : Int32) * b1) + a4)) (0 : Int64)) H locs ls hM (lv_sub hl [1, 2, 3, 4, 0] rfl) h hk

def f_X8_tray (r : Nat) (p1 : Int32) (p2 : Int32) (p3 : Int32) (u : Mm) : Option ((Int32) × Mm) := gd (okO u r 8) ((if p1 < 0 then bd (f_X8_no r (1 : Int32) (sI (sI u r 1 (0 : Int32)) r 0 (0 : Int32))) (fun w3 => gd (isB w3.1) (some (w3.1, w3.2))) else (if (4 : Int32) ≤ p1 then bd (f_X8_no r (1 : Int32) (sI (sI u r 1 (0 : Int32)) r 0 (0 : Int32))) (fun w6 => gd (isB w6.1) (some (w6.1, w6.2))) else (if p2 < 0 then bd (f_X8_no r (1 : Int32) (sI (sI u r 1 (0 : Int32)) r 0 (0 : Int32))) (fun w9 => gd (isB w9.1) (some (w9.1, w9.2))) else (if p2 ≤ (3 : Int32) then (if p3 ≤ (40 : Int32) then (if 0 ≤ p3 then bb (gR (sI (sI u r 1 (0 : Int32)) r 0 (0 : Int32)) r 4) (fun x14 => cs x14 none (fun k15 => gd (okA (sI (sI u r 1 (0 : Int32)) r 0 (0 : Int32)) k15 9 p1) (bb (gR (sI (sI (sI u r 1 (0 : Int32)) r 0 (0 : Int32)) k15 (Int32.toNatClampNeg p1) p2) r 5) (fun x17 => cs x17 none (fun k18 => gd (okA (sI (sI (sI u r 1 (0 : Int32)) r 0 (0 : Int32)) k15 (Int32.toNatClampNeg p1) p2) k18 9 p1) (L_X8_tray_74 r p1 p2 p3  (fun a26 u27 => some ((1 : Int32), u27)) 1000 (0 : Int32) (sI (sI (sI (sI u r 1 (0 : Int32)) r 0 (0 : Int32)) k15 (Int32.toNatClampNeg p1) p2) k18 (Int32.toNatClampNeg p1) p3))))))) else bd (f_X8_no r (6 : Int32) (sI (sI u r 1 (0 : Int32)) r 0 (0 : Int32))) (fun w28 => gd (isB w28.1) (some (w28.1, w28.2)))) else bd (f_X8_no r (5 : Int32) (sI (sI u r 1 (0 : Int32)) r 0 (0 : Int32))) (fun w30 => gd (isB w30.1) (some (w30.1, w30.2)))) else bd (f_X8_no r (1 : Int32) (sI (sI u r 1 (0 : Int32)) r 0 (0 : Int32))) (fun w32 => gd (isB w32.1) (some (w32.1, w32.2))))))))
set_option maxHeartbeats 4000000 in
set_option maxRecDepth 100000 in
theorem c_X8_tray (l : Launch) (D : va_G) (cy : Nat → ClassId) (sz : Nat) (H0 : Heap) (u : Mm) (r : Nat) (p1 : Int32) (p2 : Int32) (p3 : Int32) {res : (Int32) × Mm} (h : f_X8_tray r p1 p2 p3 u = some res) : Ctr l yX8_tray cX8_tray 5 (some .boolean) rm_X8_tray 0 0 D cy sz H0 u [.ref (sz + r), .int p1, .int p2, .int p3] (some (.int res.1)) res.2 := by
  refine m_start (lv := [(0, .ref (sz + r)), (1, .int p1), (2, .int p2), (3, .int p3)]) (by decide) (by first | exact Nat.le_of_ble_eq_true rfl | simp [lg_sl, rv_cat, cat_i, cat_l, cat_r, cat_n]) (by first | rfl | simp [lv_args, rv_cat, cat_i, cat_l, cat_r, cat_n]) ?_
  intro p e s m below meth c ls E hr hlk hinit hM hl
  obtain ⟨hx, hb, hml, hown, hts, hKK⟩ := id E
  obtain ⟨H, hH⟩ : ∃ H, H = s.heap := ⟨_, rfl⟩
  obtain ⟨locs, hlocs⟩ : ∃ L : List Loc, L = [] := ⟨_, rfl⟩
  rw [← hH, ← hlocs] at hM ⊢
  unfold f_X8_tray at h
  refine lv_aload_n hx hb dX8_tray_0 rfl (lv_at hl 0 rfl) ?_
  refine lv_iconst (v := 0) hx hb dX8_tray_1 (by decide) ?_
  obtain ⟨ok1, h⟩ := k_gd h
  refine ps_X8_93 (v := (0 : Int32)) E hM ok1 dX8_tray_2 (fun H locs hM => ?_)
  refine lv_aload_n hx hb dX8_tray_5 rfl (lv_at hl 0 rfl) ?_
  refine lv_iconst (v := 0) hx hb dX8_tray_6 (by decide) ?_
  refine ps_X8_97 (v := (0 : Int32)) E hM ok1 dX8_tray_7 (fun H locs hM => ?_)
  refine lv_iload_n hx hb dX8_tray_10 rfl (lv_at hl 1 rfl) ?_
  refine lv_if_lt (tgt := 28) hx hb dX8_tray_11 (by decide) (fun c2 => ?_) (fun c2 => ?_)
  · replace h := (k_if h).1 c2
    refine lv_aload_n hx hb dX8_tray_28 rfl (lv_at hl 0 rfl) ?_
    refine lv_iconst (v := 1) hx hb dX8_tray_29 (by decide) ?_
    obtain ⟨w3, hzw3, h⟩ := k_bd h
    refine m_callV (C := RX8) (T := TX8) (N := 33) (ci := 8) (n := 1) (As := [.int (1 : Int32)]) (rest := []) (st1 := (.int w3.1 :: [])) E hM hl.1 ok1 (by decide) rfl rfl (c_X8_no l D cy sz H0 (sI (sI u r 1 (0 : Int32)) r 0 (0 : Int32)) r (1 : Int32) hzw3) wl_X8_100 wm_X8_no ws_X8_no wi_X8 wd_X8_no rfl rfl (by decide +kernel) ⟨by decide, by decide⟩ rfl rfl (by first | exact Nat.le_of_ble_eq_true rfl | simp [rv_cat, cat_i, cat_l, cat_r, cat_n]) dX8_tray_30 ⟨by decide, by decide⟩ rfl (fun H locs hM => ?_)
    obtain ⟨hB4, h⟩ := k_gd h
    cases h
    exact m_zret hx hb hr hlk hM hB4 rfl rfl dX8_tray_33
  · replace h := (k_if h).2 c2
    refine lv_iload_n hx hb dX8_tray_14 rfl (lv_at hl 1 rfl) ?_
    refine lv_iconst (v := 4) hx hb dX8_tray_15 (by decide) ?_
    refine lv_icmp_ge (tgt := 28) hx hb dX8_tray_16 (by decide) (fun c5 => ?_) (fun c5 => ?_)
    · replace h := (k_if h).1 c5
      refine lv_aload_n hx hb dX8_tray_28 rfl (lv_at hl 0 rfl) ?_
      refine lv_iconst (v := 1) hx hb dX8_tray_29 (by decide) ?_
      obtain ⟨w6, hzw6, h⟩ := k_bd h
      refine m_callV (C := RX8) (T := TX8) (N := 33) (ci := 8) (n := 1) (As := [.int (1 : Int32)]) (rest := []) (st1 := (.int w6.1 :: [])) E hM hl.1 ok1 (by decide) rfl rfl (c_X8_no l D cy sz H0 (sI (sI u r 1 (0 : Int32)) r 0 (0 : Int32)) r (1 : Int32) hzw6) wl_X8_100 wm_X8_no ws_X8_no wi_X8 wd_X8_no rfl rfl (by decide +kernel) ⟨by decide, by decide⟩ rfl rfl (by first | exact Nat.le_of_ble_eq_true rfl | simp [rv_cat, cat_i, cat_l, cat_r, cat_n]) dX8_tray_30 ⟨by decide, by decide⟩ rfl (fun H locs hM => ?_)
      obtain ⟨hB7, h⟩ := k_gd h
      cases h
      exact m_zret hx hb hr hlk hM hB7 rfl rfl dX8_tray_33
    · replace h := (k_if h).2 c5
      refine lv_iload_n hx hb dX8_tray_19 rfl (lv_at hl 2 rfl) ?_
      refine lv_if_lt (tgt := 28) hx hb dX8_tray_20 (by decide) (fun c8 => ?_) (fun c8 => ?_)
      · replace h := (k_if h).1 c8
        refine lv_aload_n hx hb dX8_tray_28 rfl (lv_at hl 0 rfl) ?_
        refine lv_iconst (v := 1) hx hb dX8_tray_29 (by decide) ?_
        obtain ⟨w9, hzw9, h⟩ := k_bd h
        refine m_callV (C := RX8) (T := TX8) (N := 33) (ci := 8) (n := 1) (As := [.int (1 : Int32)]) (rest := []) (st1 := (.int w9.1 :: [])) E hM hl.1 ok1 (by decide) rfl rfl (c_X8_no l D cy sz H0 (sI (sI u r 1 (0 : Int32)) r 0 (0 : Int32)) r (1 : Int32) hzw9) wl_X8_100 wm_X8_no ws_X8_no wi_X8 wd_X8_no rfl rfl (by decide +kernel) ⟨by decide, by decide⟩ rfl rfl (by first | exact Nat.le_of_ble_eq_true rfl | simp [rv_cat, cat_i, cat_l, cat_r, cat_n]) dX8_tray_30 ⟨by decide, by decide⟩ rfl (fun H locs hM => ?_)
        obtain ⟨hB10, h⟩ := k_gd h
        cases h
        exact m_zret hx hb hr hlk hM hB10 rfl rfl dX8_tray_33
      · replace h := (k_if h).2 c8
        refine lv_iload_n hx hb dX8_tray_23 rfl (lv_at hl 2 rfl) ?_
        refine lv_iconst (v := 3) hx hb dX8_tray_24 (by decide) ?_
        refine lv_icmp_le (tgt := 34) hx hb dX8_tray_25 (by decide) (fun c11 => ?_) (fun c11 => ?_)
        · replace h := (k_if h).1 c11
          refine lv_iload_n hx hb dX8_tray_34 rfl (lv_at hl 3 rfl) ?_
          refine lv_bipush (v := 40) hx hb dX8_tray_35 (by decide) ?_
          refine lv_icmp_le (tgt := 46) hx hb dX8_tray_37 (by decide) (fun c12 => ?_) (fun c12 => ?_)
          · replace h := (k_if h).1 c12
            refine lv_iload_n hx hb dX8_tray_46 rfl (lv_at hl 3 rfl) ?_
            refine lv_if_ge (tgt := 57) hx hb dX8_tray_47 (by decide) (fun c13 => ?_) (fun c13 => ?_)
            · replace h := (k_if h).1 c13
              refine lv_aload_n hx hb dX8_tray_57 rfl (lv_at hl 0 rfl) ?_
              refine gs_X8_13 E hM ok1 dX8_tray_58 (fun x14 hxx14 => ?_)
              replace h := k_bb h x14 hxx14.symm
              refine lv_iload_n hx hb dX8_tray_61 rfl (lv_at hl 1 rfl) ?_
              refine lv_iload_n hx hb dX8_tray_62 rfl (lv_at hl 2 rfl) ?_
              rcases x14 with _ | k15
              · cases h
              rw [cs_s] at h
              obtain ⟨ok16, h⟩ := k_gd h
              refine m_iast E hM ok16 dX8_tray_63 (fun H locs hM => ?_)
              refine lv_aload_n hx hb dX8_tray_64 rfl (lv_at hl 0 rfl) ?_
              refine gs_X8_17 E hM ok1 dX8_tray_65 (fun x17 hxx17 => ?_)
              replace h := k_bb h x17 hxx17.symm
              refine lv_iload_n hx hb dX8_tray_68 rfl (lv_at hl 1 rfl) ?_
              refine lv_iload_n hx hb dX8_tray_69 rfl (lv_at hl 3 rfl) ?_
              rcases x17 with _ | k18
              · cases h
              rw [cs_s] at h
              obtain ⟨ok19, h⟩ := k_gd h
              refine m_iast E hM ok19 dX8_tray_70 (fun H locs hM => ?_)
              refine lv_iconst (v := 0) hx hb dX8_tray_71 (by decide) ?_
              refine lv_istore (i := 4) (lv' := [(4, .int (0 : Int32)), (0, .ref (sz + r)), (1, .int p1), (2, .int p2), (3, .int p3)]) hx hb dX8_tray_72 hl (by decide) (by first | rfl | simp [rv_cat, cat_i, cat_l, cat_r, cat_n]) (fun ls hl => ?_)
              refine lp_X8_tray_74 hr hlk  E 1000 (0 : Int32) (sI (sI (sI (sI u r 1 (0 : Int32)) r 0 (0 : Int32)) k15 (Int32.toNatClampNeg p1) p2) k18 (Int32.toNatClampNeg p1) p3) H locs ls hM (lv_sub hl [1, 2, 3, 4, 0] rfl) h (fun a26 u27 H locs ls hM hl h => ?_)
              refine lv_iconst (v := 1) hx hb dX8_tray_99 (by decide) ?_
              cases h
              exact m_zret hx hb hr hlk hM (by decide) rfl rfl dX8_tray_100
            · replace h := (k_if h).2 c13
              refine lv_aload_n hx hb dX8_tray_50 rfl (lv_at hl 0 rfl) ?_
              refine lv_bipush (v := 6) hx hb dX8_tray_51 (by decide) ?_
              obtain ⟨w28, hzw28, h⟩ := k_bd h
              refine m_callV (C := RX8) (T := TX8) (N := 33) (ci := 8) (n := 1) (As := [.int (6 : Int32)]) (rest := []) (st1 := (.int w28.1 :: [])) E hM hl.1 ok1 (by decide) rfl rfl (c_X8_no l D cy sz H0 (sI (sI u r 1 (0 : Int32)) r 0 (0 : Int32)) r (6 : Int32) hzw28) wl_X8_100 wm_X8_no ws_X8_no wi_X8 wd_X8_no rfl rfl (by decide +kernel) ⟨by decide, by decide⟩ rfl rfl (by first | exact Nat.le_of_ble_eq_true rfl | simp [rv_cat, cat_i, cat_l, cat_r, cat_n]) dX8_tray_53 ⟨by decide, by decide⟩ rfl (fun H locs hM => ?_)
              obtain ⟨hB29, h⟩ := k_gd h
              cases h
              exact m_zret hx hb hr hlk hM hB29 rfl rfl dX8_tray_56
          · replace h := (k_if h).2 c12
            refine lv_aload_n hx hb dX8_tray_40 rfl (lv_at hl 0 rfl) ?_
            refine lv_iconst (v := 5) hx hb dX8_tray_41 (by decide) ?_
            obtain ⟨w30, hzw30, h⟩ := k_bd h
            refine m_callV (C := RX8) (T := TX8) (N := 33) (ci := 8) (n := 1) (As := [.int (5 : Int32)]) (rest := []) (st1 := (.int w30.1 :: [])) E hM hl.1 ok1 (by decide) rfl rfl (c_X8_no l D cy sz H0 (sI (sI u r 1 (0 : Int32)) r 0 (0 : Int32)) r (5 : Int32) hzw30) wl_X8_100 wm_X8_no ws_X8_no wi_X8 wd_X8_no rfl rfl (by decide +kernel) ⟨by decide, by decide⟩ rfl rfl (by first | exact Nat.le_of_ble_eq_true rfl | simp [rv_cat, cat_i, cat_l, cat_r, cat_n]) dX8_tray_42 ⟨by decide, by decide⟩ rfl (fun H locs hM => ?_)
            obtain ⟨hB31, h⟩ := k_gd h
            cases h
            exact m_zret hx hb hr hlk hM hB31 rfl rfl dX8_tray_45
        · replace h := (k_if h).2 c11
          refine lv_aload_n hx hb dX8_tray_28 rfl (lv_at hl 0 rfl) ?_
          refine lv_iconst (v := 1) hx hb dX8_tray_29 (by decide) ?_
          obtain ⟨w32, hzw32, h⟩ := k_bd h
          refine m_callV (C := RX8) (T := TX8) (N := 33) (ci := 8) (n := 1) (As := [.int (1 : Int32)]) (rest := []) (st1 := (.int w32.1 :: [])) E hM hl.1 ok1 (by decide) rfl rfl (c_X8_no l D cy sz H0 (sI (sI u r 1 (0 : Int32)) r 0 (0 : Int32)) r (1 : Int32) hzw32) wl_X8_100 wm_X8_no ws_X8_no wi_X8 wd_X8_no rfl rfl (by decide +kernel) ⟨by decide, by decide⟩ rfl rfl (by first | exact Nat.le_of_ble_eq_true rfl | simp [rv_cat, cat_i, cat_l, cat_r, cat_n]) dX8_tray_30 ⟨by decide, by decide⟩ rfl (fun H locs hM => ?_)
          obtain ⟨hB33, h⟩ := k_gd h
          cases h
          exact m_zret hx hb hr hlk hM hB33 rfl rfl dX8_tray_33

abbrev rm_X8_trayed : Room := { frames := 0, cells := 0, slots := 0, locals := 0 }
def f_X8_trayed (r : Nat) (p1 : Int32) (u : Mm) : Option (Int32) := (if p1 < 0 then some (1 : Int32) else (if p1 < (4 : Int32) then gd (okO u r 8) (bb (gR u r 5) (fun x4 => cs x4 none (fun k5 => gd (okA u k5 9 p1) ((if 0 ≤ (gI u k5 (Int32.toNatClampNeg p1)) then some (0 : Int32) else some (3 : Int32)))))) else some (1 : Int32)))
set_option maxHeartbeats 4000000 in
set_option maxRecDepth 100000 in
theorem c_X8_trayed (l : Launch) (D : va_G) (cy : Nat → ClassId) (sz : Nat) (H0 : Heap) (u : Mm) (r : Nat) (p1 : Int32) {res : Int32} (h : f_X8_trayed r p1 u = some res) : Ctr l yX8_trayed cX8_trayed 2 (some .int) rm_X8_trayed 0 0 D cy sz H0 u [.ref (sz + r), .int p1] (some (.int res)) u := by
  refine m_start (lv := [(0, .ref (sz + r)), (1, .int p1)]) (by decide) (by first | exact Nat.le_of_ble_eq_true rfl | simp [lg_sl, rv_cat, cat_i, cat_l, cat_r, cat_n]) (by first | rfl | simp [lv_args, rv_cat, cat_i, cat_l, cat_r, cat_n]) ?_
  intro p e s m below meth c ls E hr hlk hinit hM hl
  obtain ⟨hx, hb, hml, hown, hts, hKK⟩ := id E
  obtain ⟨H, hH⟩ : ∃ H, H = s.heap := ⟨_, rfl⟩
  obtain ⟨locs, hlocs⟩ : ∃ L : List Loc, L = [] := ⟨_, rfl⟩
  rw [← hH, ← hlocs] at hM ⊢
  unfold f_X8_trayed at h
  refine lv_iload_n hx hb dX8_trayed_0 rfl (lv_at hl 1 rfl) ?_
  refine lv_if_lt (tgt := 9) hx hb dX8_trayed_1 (by decide) (fun c1 => ?_) (fun c1 => ?_)
  · replace h := (k_if h).1 c1
    refine lv_iconst (v := 1) hx hb dX8_trayed_9 (by decide) ?_
    refine lv_goto (tgt := 27) hx hb dX8_trayed_10 (by decide) ?_
    cases h
    exact m_iret hx hb hr hlk hM rfl rfl dX8_trayed_27
  · replace h := (k_if h).2 c1
    refine lv_iload_n hx hb dX8_trayed_4 rfl (lv_at hl 1 rfl) ?_
    refine lv_iconst (v := 4) hx hb dX8_trayed_5 (by decide) ?_
    refine lv_icmp_lt (tgt := 13) hx hb dX8_trayed_6 (by decide) (fun c2 => ?_) (fun c2 => ?_)
    · replace h := (k_if h).1 c2
      refine lv_aload_n hx hb dX8_trayed_13 rfl (lv_at hl 0 rfl) ?_
      obtain ⟨ok3, h⟩ := k_gd h
      refine gs_X8_17 E hM ok3 dX8_trayed_14 (fun x4 hxx4 => ?_)
      replace h := k_bb h x4 hxx4.symm
      refine lv_iload_n hx hb dX8_trayed_17 rfl (lv_at hl 1 rfl) ?_
      rcases x4 with _ | k5
      · cases h
      rw [cs_s] at h
      obtain ⟨ok6, h⟩ := k_gd h
      refine m_iald E hM ok6 dX8_trayed_18 ?_
      refine lv_if_ge (tgt := 26) hx hb dX8_trayed_19 (by decide) (fun c7 => ?_) (fun c7 => ?_)
      · replace h := (k_if h).1 c7
        refine lv_iconst (v := 0) hx hb dX8_trayed_26 (by decide) ?_
        cases h
        exact m_iret hx hb hr hlk hM rfl rfl dX8_trayed_27
      · replace h := (k_if h).2 c7
        refine lv_iconst (v := 3) hx hb dX8_trayed_22 (by decide) ?_
        refine lv_goto (tgt := 27) hx hb dX8_trayed_23 (by decide) ?_
        cases h
        exact m_iret hx hb hr hlk hM rfl rfl dX8_trayed_27
    · replace h := (k_if h).2 c2
      refine lv_iconst (v := 1) hx hb dX8_trayed_9 (by decide) ?_
      refine lv_goto (tgt := 27) hx hb dX8_trayed_10 (by decide) ?_
      cases h
      exact m_iret hx hb hr hlk hM rfl rfl dX8_trayed_27

abbrev rm_X8_placed : Room := { frames := 1, cells := 0, slots := 0, locals := 36 }
def f_X8_placed (r : Nat) (p1 : Int32) (p2 : Int32) (u : Mm) : Option (Int32) := gd (okO u r 8) (bd (f_X8_trayed r p1 u) (fun w2 => (if w2 ≤ 0 then (if p2 < 0 then some (4 : Int32) else bb (gR u r 5) (fun x5 => cs x5 none (fun k6 => gd (okA u k6 9 p1) ((if p2 < (gI u k6 (Int32.toNatClampNeg p1)) then some (0 : Int32) else some (4 : Int32)))))) else some w2)))
set_option maxHeartbeats 4000000 in
set_option maxRecDepth 100000 in
theorem c_X8_placed (l : Launch) (D : va_G) (cy : Nat → ClassId) (sz : Nat) (H0 : Heap) (u : Mm) (r : Nat) (p1 : Int32) (p2 : Int32) {res : Int32} (h : f_X8_placed r p1 p2 u = some res) : Ctr l yX8_placed cX8_placed 4 (some .int) rm_X8_placed 0 0 D cy sz H0 u [.ref (sz + r), .int p1, .int p2] (some (.int res)) u := by
  refine m_start (lv := [(0, .ref (sz + r)), (1, .int p1), (2, .int p2)]) (by decide) (by first | exact Nat.le_of_ble_eq_true rfl | simp [lg_sl, rv_cat, cat_i, cat_l, cat_r, cat_n]) (by first | rfl | simp [lv_args, rv_cat, cat_i, cat_l, cat_r, cat_n]) ?_
  intro p e s m below meth c ls E hr hlk hinit hM hl
  obtain ⟨hx, hb, hml, hown, hts, hKK⟩ := id E
  obtain ⟨H, hH⟩ : ∃ H, H = s.heap := ⟨_, rfl⟩
  obtain ⟨locs, hlocs⟩ : ∃ L : List Loc, L = [] := ⟨_, rfl⟩
  rw [← hH, ← hlocs] at hM ⊢
  unfold f_X8_placed at h
  refine lv_aload_n hx hb dX8_placed_0 rfl (lv_at hl 0 rfl) ?_
  refine lv_iload_n hx hb dX8_placed_1 rfl (lv_at hl 1 rfl) ?_
  obtain ⟨ok1, h⟩ := k_gd h
  obtain ⟨w2, hzw2, h⟩ := k_bd h
  refine m_callV (C := RX8) (T := TX8) (N := 33) (ci := 8) (n := 1) (As := [.int p1]) (rest := []) (st1 := (.int w2 :: [])) E hM hl.1 ok1 (by decide) rfl rfl (c_X8_trayed l D cy sz H0 u r p1 hzw2) wl_X8_104 wm_X8_trayed ws_X8_trayed wi_X8 wd_X8_trayed rfl rfl (by decide +kernel) ⟨by decide, by decide⟩ rfl rfl (by first | exact Nat.le_of_ble_eq_true rfl | simp [rv_cat, cat_i, cat_l, cat_r, cat_n]) dX8_placed_2 ⟨by decide, by decide⟩ rfl (fun H locs hM => ?_)
  refine lv_istore_n (i := 3) (lv' := [(3, .int w2), (0, .ref (sz + r)), (1, .int p1), (2, .int p2)]) hx hb dX8_placed_5 rfl hl (by decide) (by first | rfl | simp [rv_cat, cat_i, cat_l, cat_r, cat_n]) (fun ls hl => ?_)
  refine lv_iload_n hx hb dX8_placed_6 rfl (lv_at hl 0 rfl) ?_
  refine lv_if_le (tgt := 14) hx hb dX8_placed_7 (by decide) (fun c3 => ?_) (fun c3 => ?_)
  · replace h := (k_if h).1 c3
    refine lv_iload_n hx hb dX8_placed_14 rfl (lv_at hl 3 rfl) ?_
    refine lv_if_lt (tgt := 28) hx hb dX8_placed_15 (by decide) (fun c4 => ?_) (fun c4 => ?_)
    · replace h := (k_if h).1 c4
      refine lv_iconst (v := 4) hx hb dX8_placed_28 (by decide) ?_
      refine lv_goto (tgt := 33) hx hb dX8_placed_29 (by decide) ?_
      cases h
      exact m_iret hx hb hr hlk hM rfl rfl dX8_placed_33
    · replace h := (k_if h).2 c4
      refine lv_iload_n hx hb dX8_placed_18 rfl (lv_at hl 3 rfl) ?_
      refine lv_aload_n hx hb dX8_placed_19 rfl (lv_at hl 1 rfl) ?_
      refine gs_X8_17 E hM ok1 dX8_placed_20 (fun x5 hxx5 => ?_)
      replace h := k_bb h x5 hxx5.symm
      refine lv_iload_n hx hb dX8_placed_23 rfl (lv_at hl 2 rfl) ?_
      rcases x5 with _ | k6
      · cases h
      rw [cs_s] at h
      obtain ⟨ok7, h⟩ := k_gd h
      refine m_iald E hM ok7 dX8_placed_24 ?_
      refine lv_icmp_lt (tgt := 32) hx hb dX8_placed_25 (by decide) (fun c8 => ?_) (fun c8 => ?_)
      · replace h := (k_if h).1 c8
        refine lv_iconst (v := 0) hx hb dX8_placed_32 (by decide) ?_
        cases h
        exact m_iret hx hb hr hlk hM rfl rfl dX8_placed_33
      · replace h := (k_if h).2 c8
        refine lv_iconst (v := 4) hx hb dX8_placed_28 (by decide) ?_
        refine lv_goto (tgt := 33) hx hb dX8_placed_29 (by decide) ?_
        cases h
        exact m_iret hx hb hr hlk hM rfl rfl dX8_placed_33
  · replace h := (k_if h).2 c3
    refine lv_iload_n hx hb dX8_placed_10 rfl (lv_at hl 0 rfl) ?_
    refine lv_goto (tgt := 33) hx hb dX8_placed_11 (by decide) ?_
    cases h
    exact m_iret hx hb hr hlk hM rfl rfl dX8_placed_33

abbrev rm_X8_write : Room := { frames := 2, cells := 0, slots := 0, locals := 72 }
def f_X8_write (r : Nat) (p1 : Int32) (p2 : Int32) (p3 : Int64) (u : Mm) : Option ((Int32) × Mm) := gd (okO u r 8) (bd (f_X8_placed r p1 p2 (sI u r 1 (0 : Int32))) (fun w2 => (if (gI (sI (sI u r 1 (0 : Int32)) r 0 w2) r 0) ≤ 0 then bb (gR (sI (sI u r 1 (0 : Int32)) r 0 w2) r 6) (fun x4 => bb (gR (sI (sI u r 1 (0 : Int32)) r 0 w2) r 4) (fun x5 => cs x5 none (fun k6 => gd (okA (sI (sI u r 1 (0 : Int32)) r 0 w2) k6 9 p1) (bd (f_X8_cut (gI (sI (sI u r 1 (0 : Int32)) r 0 w2) k6 (Int32.toNatClampNeg p1)) p3 (sI (sI u r 1 (0 : Int32)) r 0 w2)) (fun w8 => cs x4 none (fun k9 => gd (okA (sI (sI u r 1 (0 : Int32)) r 0 w2) k9 10 (((40 : Int32) * p1) + p2)) (some ((1 : Int32), (sL (sI (sI u r 1 (0 : Int32)) r 0 w2) k9 (Int32.toNatClampNeg (((40 : Int32) * p1) + p2)) w8))))))))) else some ((0 : Int32), (sI (sI u r 1 (0 : Int32)) r 0 w2)))))
set_option maxHeartbeats 4000000 in
set_option maxRecDepth 100000 in
theorem c_X8_write (l : Launch) (D : va_G) (cy : Nat → ClassId) (sz : Nat) (H0 : Heap) (u : Mm) (r : Nat) (p1 : Int32) (p2 : Int32) (p3 : Int64) {res : (Int32) × Mm} (h : f_X8_write r p1 p2 p3 u = some res) : Ctr l yX8_write cX8_write 5 (some .boolean) rm_X8_write 0 0 D cy sz H0 u [.ref (sz + r), .int p1, .int p2, .long p3] (some (.int res.1)) res.2 := by
  refine m_start (lv := [(0, .ref (sz + r)), (1, .int p1), (2, .int p2), (3, .long p3)]) (by decide) (by first | exact Nat.le_of_ble_eq_true rfl | simp [lg_sl, rv_cat, cat_i, cat_l, cat_r, cat_n]) (by first | rfl | simp [lv_args, rv_cat, cat_i, cat_l, cat_r, cat_n]) ?_
  intro p e s m below meth c ls E hr hlk hinit hM hl
  obtain ⟨hx, hb, hml, hown, hts, hKK⟩ := id E
  obtain ⟨H, hH⟩ : ∃ H, H = s.heap := ⟨_, rfl⟩
  obtain ⟨locs, hlocs⟩ : ∃ L : List Loc, L = [] := ⟨_, rfl⟩
  rw [← hH, ← hlocs] at hM ⊢
  unfold f_X8_write at h
  refine lv_aload_n hx hb dX8_write_0 rfl (lv_at hl 0 rfl) ?_
  refine lv_iconst (v := 0) hx hb dX8_write_1 (by decide) ?_
  obtain ⟨ok1, h⟩ := k_gd h
  refine ps_X8_93 (v := (0 : Int32)) E hM ok1 dX8_write_2 (fun H locs hM => ?_)
  refine lv_aload_n hx hb dX8_write_5 rfl (lv_at hl 0 rfl) ?_
  refine lv_aload_n hx hb dX8_write_6 rfl (lv_at hl 0 rfl) ?_
  refine lv_iload_n hx hb dX8_write_7 rfl (lv_at hl 1 rfl) ?_
  refine lv_iload_n hx hb dX8_write_8 rfl (lv_at hl 2 rfl) ?_
  obtain ⟨w2, hzw2, h⟩ := k_bd h
  refine m_callV (C := RX8) (T := TX8) (N := 33) (ci := 8) (n := 2) (As := [.int p1, .int p2]) (rest := [.ref (sz + r)]) (st1 := (.int w2 :: [.ref (sz + r)])) E hM hl.1 ok1 (by decide) rfl rfl (c_X8_placed l D cy sz H0 (sI u r 1 (0 : Int32)) r p1 p2 hzw2) wl_X8_108 wm_X8_placed ws_X8_placed wi_X8 wd_X8_placed rfl rfl (by decide +kernel) ⟨by decide, by decide⟩ rfl rfl (by first | exact Nat.le_of_ble_eq_true rfl | simp [rv_cat, cat_i, cat_l, cat_r, cat_n]) dX8_write_9 ⟨by decide, by decide⟩ rfl (fun H locs hM => ?_)
  refine ps_X8_97 (v := w2) E hM ok1 dX8_write_12 (fun H locs hM => ?_)
  refine lv_aload_n hx hb dX8_write_15 rfl (lv_at hl 0 rfl) ?_
  refine gs_X8_97 E hM ok1 dX8_write_16 ?_
  refine lv_if_le (tgt := 24) hx hb dX8_write_19 (by decide) (fun c3 => ?_) (fun c3 => ?_)
  · replace h := (k_if h).1 c3
    refine lv_aload_n hx hb dX8_write_24 rfl (lv_at hl 0 rfl) ?_
    refine gs_X8_20 E hM ok1 dX8_write_25 (fun x4 hxx4 => ?_)
    replace h := k_bb h x4 hxx4.symm
    refine lv_bipush (v := 40) hx hb dX8_write_28 (by decide) ?_
    refine lv_iload_n hx hb dX8_write_30 rfl (lv_at hl 1 rfl) ?_
    refine lv_imul hx hb dX8_write_31 ?_
    refine lv_iload_n hx hb dX8_write_32 rfl (lv_at hl 2 rfl) ?_
    refine lv_iadd hx hb dX8_write_33 ?_
    refine lv_aload_n hx hb dX8_write_34 rfl (lv_at hl 0 rfl) ?_
    refine gs_X8_13 E hM ok1 dX8_write_35 (fun x5 hxx5 => ?_)
    replace h := k_bb h x5 hxx5.symm
    refine lv_iload_n hx hb dX8_write_38 rfl (lv_at hl 1 rfl) ?_
    rcases x5 with _ | k6
    · cases h
    rw [cs_s] at h
    obtain ⟨ok7, h⟩ := k_gd h
    refine m_iald E hM ok7 dX8_write_39 ?_
    refine lv_lload_n hx hb dX8_write_40 rfl (lv_at hl 3 rfl) ?_
    obtain ⟨w8, hzw8, h⟩ := k_bd h
    refine m_callS (n := 2) (As := [.int (gI (sI (sI u r 1 (0 : Int32)) r 0 w2) k6 (Int32.toNatClampNeg p1)), .long p3]) (rest := [.int (((40 : Int32) * p1) + p2), rv sz x4]) (st1 := (.long w8 :: [.int (((40 : Int32) * p1) + p2), rv sz x4])) E hM hl.1 (c_X8_cut l D cy sz H0 (sI (sI u r 1 (0 : Int32)) r 0 w2) (gI (sI (sI u r 1 (0 : Int32)) r 0 w2) k6 (Int32.toNatClampNeg p1)) p3 hzw8) wl_X8_112 wst_X8_cut wi_X8 wd_X8_cut rfl rfl (by decide +kernel) ⟨by decide, by decide⟩ rfl rfl (by first | exact Nat.le_of_ble_eq_true rfl | simp [rv_cat, cat_i, cat_l, cat_r, cat_n]) dX8_write_41 ⟨by decide, by decide⟩ rfl (fun H locs hM => ?_)
    rcases x4 with _ | k9
    · cases h
    rw [cs_s] at h
    obtain ⟨ok10, h⟩ := k_gd h
    refine m_last E hM ok10 dX8_write_44 (fun H locs hM => ?_)
    refine lv_iconst (v := 1) hx hb dX8_write_45 (by decide) ?_
    cases h
    exact m_zret hx hb hr hlk hM (by decide) rfl rfl dX8_write_46
  · replace h := (k_if h).2 c3
    refine lv_iconst (v := 0) hx hb dX8_write_22 (by decide) ?_
    cases h
    exact m_zret hx hb hr hlk hM (by decide) rfl rfl dX8_write_23

abbrev rm_X8_read : Room := { frames := 2, cells := 0, slots := 0, locals := 72 }
def f_X8_read (r : Nat) (p1 : Int32) (p2 : Int32) (u : Mm) : Option ((Int64) × Mm) := gd (okO u r 8) (bd (f_X8_placed r p1 p2 (sI u r 1 (0 : Int32))) (fun w2 => (if (gI (sI (sI u r 1 (0 : Int32)) r 0 w2) r 0) ≤ 0 then bb (gR (sI (sI u r 1 (0 : Int32)) r 0 w2) r 6) (fun x4 => cs x4 none (fun k5 => gd (okA (sI (sI u r 1 (0 : Int32)) r 0 w2) k5 10 (((40 : Int32) * p1) + p2)) (some ((gL (sI (sI u r 1 (0 : Int32)) r 0 w2) k5 (Int32.toNatClampNeg (((40 : Int32) * p1) + p2))), (sI (sI u r 1 (0 : Int32)) r 0 w2))))) else some ((-1 : Int64), (sI (sI u r 1 (0 : Int32)) r 0 w2)))))
set_option maxHeartbeats 4000000 in
set_option maxRecDepth 100000 in
theorem c_X8_read (l : Launch) (D : va_G) (cy : Nat → ClassId) (sz : Nat) (H0 : Heap) (u : Mm) (r : Nat) (p1 : Int32) (p2 : Int32) {res : (Int64) × Mm} (h : f_X8_read r p1 p2 u = some res) : Ctr l yX8_read cX8_read 3 (some .long) rm_X8_read 0 0 D cy sz H0 u [.ref (sz + r), .int p1, .int p2] (some (.long res.1)) res.2 := by
  refine m_start (lv := [(0, .ref (sz + r)), (1, .int p1), (2, .int p2)]) (by decide) (by first | exact Nat.le_of_ble_eq_true rfl | simp [lg_sl, rv_cat, cat_i, cat_l, cat_r, cat_n]) (by first | rfl | simp [lv_args, rv_cat, cat_i, cat_l, cat_r, cat_n]) ?_
  intro p e s m below meth c ls E hr hlk hinit hM hl
  obtain ⟨hx, hb, hml, hown, hts, hKK⟩ := id E
  obtain ⟨H, hH⟩ : ∃ H, H = s.heap := ⟨_, rfl⟩
  obtain ⟨locs, hlocs⟩ : ∃ L : List Loc, L = [] := ⟨_, rfl⟩
  rw [← hH, ← hlocs] at hM ⊢
  unfold f_X8_read at h
  refine lv_aload_n hx hb dX8_read_0 rfl (lv_at hl 0 rfl) ?_
  refine lv_iconst (v := 0) hx hb dX8_read_1 (by decide) ?_
  obtain ⟨ok1, h⟩ := k_gd h
  refine ps_X8_93 (v := (0 : Int32)) E hM ok1 dX8_read_2 (fun H locs hM => ?_)
  refine lv_aload_n hx hb dX8_read_5 rfl (lv_at hl 0 rfl) ?_
  refine lv_aload_n hx hb dX8_read_6 rfl (lv_at hl 0 rfl) ?_
  refine lv_iload_n hx hb dX8_read_7 rfl (lv_at hl 1 rfl) ?_
  refine lv_iload_n hx hb dX8_read_8 rfl (lv_at hl 2 rfl) ?_
  obtain ⟨w2, hzw2, h⟩ := k_bd h
  refine m_callV (C := RX8) (T := TX8) (N := 33) (ci := 8) (n := 2) (As := [.int p1, .int p2]) (rest := [.ref (sz + r)]) (st1 := (.int w2 :: [.ref (sz + r)])) E hM hl.1 ok1 (by decide) rfl rfl (c_X8_placed l D cy sz H0 (sI u r 1 (0 : Int32)) r p1 p2 hzw2) wl_X8_108 wm_X8_placed ws_X8_placed wi_X8 wd_X8_placed rfl rfl (by decide +kernel) ⟨by decide, by decide⟩ rfl rfl (by first | exact Nat.le_of_ble_eq_true rfl | simp [rv_cat, cat_i, cat_l, cat_r, cat_n]) dX8_read_9 ⟨by decide, by decide⟩ rfl (fun H locs hM => ?_)
  refine ps_X8_97 (v := w2) E hM ok1 dX8_read_12 (fun H locs hM => ?_)
  refine lv_aload_n hx hb dX8_read_15 rfl (lv_at hl 0 rfl) ?_
  refine gs_X8_97 E hM ok1 dX8_read_16 ?_
  refine lv_if_le (tgt := 28) hx hb dX8_read_19 (by decide) (fun c3 => ?_) (fun c3 => ?_)
  · replace h := (k_if h).1 c3
    refine lv_aload_n hx hb dX8_read_28 rfl (lv_at hl 0 rfl) ?_
    refine gs_X8_20 E hM ok1 dX8_read_29 (fun x4 hxx4 => ?_)
    replace h := k_bb h x4 hxx4.symm
    refine lv_bipush (v := 40) hx hb dX8_read_32 (by decide) ?_
    refine lv_iload_n hx hb dX8_read_34 rfl (lv_at hl 1 rfl) ?_
    refine lv_imul hx hb dX8_read_35 ?_
    refine lv_iload_n hx hb dX8_read_36 rfl (lv_at hl 2 rfl) ?_
    refine lv_iadd hx hb dX8_read_37 ?_
    rcases x4 with _ | k5
    · cases h
    rw [cs_s] at h
    obtain ⟨ok6, h⟩ := k_gd h
    refine m_lald E hM ok6 dX8_read_38 ?_
    cases h
    exact m_lret hx hb hr hlk hM rfl rfl dX8_read_39
  · replace h := (k_if h).2 c3
    refine lv_ldc2 hx hb hown (hts _ wk_X8_116) dX8_read_22 ?_
    refine lv_goto (tgt := 39) hx hb dX8_read_25 (by decide) ?_
    cases h
    exact m_lret hx hb hr hlk hM rfl rfl dX8_read_39

abbrev rm_X8_pour : Room := { frames := 1, cells := 0, slots := 0, locals := 36 }
def L_X8_pour_158 (b0 : Nat) (b1 : Int32) (b2 : Int32) (b3 : Int32) (b4 : Int32) (b5 : Int32) (b6 : Int32) (k : Int32 → Mm → Option ((Int32) × Mm)) : Nat → Int32 → Mm → Option ((Int32) × Mm)
  | 0, _, _ => none
  | n + 1, a7, u => (if b5 ≤ a7 then k a7 u else (if b6 = 0 then gd (okO u b0 8) (bb (gR u b0 6) (fun x50 => bb (gR u b0 6) (fun x51 => cs x51 none (fun k52 => gd (okA u k52 10 ((((40 : Int32) * b1) + b2) + a7)) (cs x50 none (fun k54 => gd (okA u k54 10 ((((40 : Int32) * b3) + b4) + a7)) (bb (a7 + (1)) (fun v56 => L_X8_pour_158 b0 b1 b2 b3 b4 b5 b6 k n v56 (sL u k54 (Int32.toNatClampNeg ((((40 : Int32) * b3) + b4) + a7)) (gL u k52 (Int32.toNatClampNeg ((((40 : Int32) * b1) + b2) + a7)))))))))))) else bb (((b5 - (1 : Int32)) - a7)) (fun v57 => gd (okO u b0 8) (bb (gR u b0 6) (fun x59 => bb (gR u b0 6) (fun x60 => cs x60 none (fun k61 => gd (okA u k61 10 ((((40 : Int32) * b1) + b2) + v57)) (cs x59 none (fun k63 => gd (okA u k63 10 ((((40 : Int32) * b3) + b4) + v57)) (bb (a7 + (1)) (fun v65 => L_X8_pour_158 b0 b1 b2 b3 b4 b5 b6 k n v65 (sL u k63 (Int32.toNatClampNeg ((((40 : Int32) * b3) + b4) + v57)) (gL u k61 (Int32.toNatClampNeg ((((40 : Int32) * b1) + b2) + v57)))))))))))))))
set_option maxHeartbeats 4000000 in
set_option maxRecDepth 100000 in
theorem lp_X8_pour_158 {p : Program} {l : Launch} {e : Env} {s : State} {m : MethodId} {args : Array Value} {below : List Frame} {meth : Method} {c : Code} {D : va_G} {cy : Nat → ClassId} {sz : Nat} {H0 : Heap} {b0 : Nat} {b1 : Int32} {b2 : Int32} {b3 : Int32} {b4 : Int32} {b5 : Int32} {b6 : Int32} {k : Int32 → Mm → Option ((Int32) × Mm)} {res : (Int32) × Mm} (hr : meth.sig.returnType = (some .boolean)) (hlk : meth.locks = false) (E : EE p s m args c cX8_pour 9 RX8 D cy) : ∀ (n : Nat) (a7 : Int32) (u : Mm) (H : Heap) (locs : List Loc) (ls : Array Slot), MM D cy sz H0 u H locs → lv_has ls 9 [(0, .ref (sz + b0)), (1, .int b1), (2, .int b2), (3, .int b3), (4, .int b4), (5, .int b5), (6, .int b6), (7, .int a7)] → L_X8_pour_158 b0 b1 b2 b3 b4 b5 b6 k n a7 u = some res → (∀ (a7 : Int32) (u : Mm) (H : Heap) (locs : List Loc) (ls : Array Slot), MM D cy sz H0 u H locs → lv_has ls 9 [(0, .ref (sz + b0)), (1, .int b1), (2, .int b2), (3, .int b3), (4, .int b4), (5, .int b5), (6, .int b6), (7, .int a7)] → k a7 u = some res → W p l e rm_X8_pour s m args below meth c H locs 0 0 (MQ below (Post D cy sz H0 (some (.int res.1)) res.2) args s 0 0 (fun q => sz ≤ q)) (F0 m 219 ls [])) → W p l e rm_X8_pour s m args below meth c H locs 0 0 (MQ below (Post D cy sz H0 (some (.int res.1)) res.2) args s 0 0 (fun q => sz ≤ q)) (F0 m 158 ls []) := by
  obtain ⟨hx, hb, hml, hown, hts, hKK⟩ := id E
  intro n
  induction n with
  | zero => intros; rename_i h _; cases h
  | succ n ih =>
    intro a7 u H locs ls hM hl h hk
    rw [L_X8_pour_158] at h
    refine lv_iload hx hb dX8_pour_158 (lv_at hl 7 rfl) ?_
    refine lv_iload hx hb dX8_pour_160 (lv_at hl 5 rfl) ?_
    refine lv_icmp_ge (tgt := 219) hx hb dX8_pour_162 (by decide) (fun c47 => ?_) (fun c47 => ?_)
    · replace h := (k_if h).1 c47
      exact hk a7 u H locs ls hM (lv_sub hl [0, 1, 2, 3, 4, 5, 6, 7] rfl) h
    · replace h := (k_if h).2 c47
      refine lv_iload hx hb dX8_pour_165 (lv_at hl 6 rfl) ?_
      refine lv_if_eq (tgt := 180) hx hb dX8_pour_167 (by decide) (fun c48 => ?_) (fun c48 => ?_)
      · replace h := (k_if h).1 c48
        refine lv_iload hx hb dX8_pour_180 (lv_at hl 7 rfl) ?_
        refine lv_istore (i := 8) (lv' := [(8, .int a7), (0, .ref (sz + b0)), (1, .int b1), (2, .int b2), (3, .int b3), (4, .int b4), (5, .int b5), (6, .int b6), (7, .int a7)]) hx hb dX8_pour_182 hl (by decide) (by first | rfl | simp [rv_cat, cat_i, cat_l, cat_r, cat_n]) (fun ls hl => ?_)
        refine lv_aload_n hx hb dX8_pour_184 rfl (lv_at hl 1 rfl) ?_
        obtain ⟨ok49, h⟩ := k_gd h
        refine gs_X8_20 E hM ok49 dX8_pour_185 (fun x50 hxx50 => ?_)
        replace h := k_bb h x50 hxx50.symm
        refine lv_bipush (v := 40) hx hb dX8_pour_188 (by decide) ?_
        refine lv_iload_n hx hb dX8_pour_190 rfl (lv_at hl 4 rfl) ?_
        refine lv_imul hx hb dX8_pour_191 ?_
        refine lv_iload hx hb dX8_pour_192 (lv_at hl 5 rfl) ?_
        refine lv_iadd hx hb dX8_pour_194 ?_
        refine lv_iload hx hb dX8_pour_195 (lv_at hl 0 rfl) ?_
        refine lv_iadd hx hb dX8_pour_197 ?_
        refine lv_aload_n hx hb dX8_pour_198 rfl (lv_at hl 1 rfl) ?_
        refine gs_X8_20 E hM ok49 dX8_pour_199 (fun x51 hxx51 => ?_)
        replace h := k_bb h x51 hxx51.symm
        refine lv_bipush (v := 40) hx hb dX8_pour_202 (by decide) ?_
        refine lv_iload_n hx hb dX8_pour_204 rfl (lv_at hl 2 rfl) ?_
        refine lv_imul hx hb dX8_pour_205 ?_
        refine lv_iload_n hx hb dX8_pour_206 rfl (lv_at hl 3 rfl) ?_
        refine lv_iadd hx hb dX8_pour_207 ?_
        refine lv_iload hx hb dX8_pour_208 (lv_at hl 0 rfl) ?_
        refine lv_iadd hx hb dX8_pour_210 ?_
        rcases x51 with _ | k52
        · cases h
        rw [cs_s] at h
        obtain ⟨ok53, h⟩ := k_gd h
        refine m_lald E hM ok53 dX8_pour_211 ?_
        rcases x50 with _ | k54
        · cases h
        rw [cs_s] at h
        obtain ⟨ok55, h⟩ := k_gd h
        refine m_last E hM ok55 dX8_pour_212 (fun H locs hM => ?_)
        obtain ⟨v56, hvv56⟩ : ∃ y : Int32, y = a7 + (1) := ⟨_, rfl⟩
        replace h := k_bb h v56 hvv56
        refine lv_iinc (v := v56) (lv' := [(7, .int v56), (8, .int a7), (0, .ref (sz + b0)), (1, .int b1), (2, .int b2), (3, .int b3), (4, .int b4), (5, .int b5), (6, .int b6)]) hx hb dX8_pour_213 hl (k := 8) rfl (by rw [hvv56]; rfl) (by decide) (by first | rfl | simp [rv_cat, cat_i, cat_l, cat_r, cat_n]) (fun ls hl => ?_)
        refine lv_goto (tgt := 158) hx hb dX8_pour_216 (by decide) ?_
        exact ih v56 (sL u k54 (Int32.toNatClampNeg ((((40 : Int32) * b3) + b4) + a7)) (gL u k52 (Int32.toNatClampNeg ((((40 : Int32) * b1) + b2) + a7)))) H locs ls hM (lv_sub hl [2, 3, 4, 5, 6, 7, 8, 0] rfl) h hk
      · replace h := (k_if h).2 c48
        refine lv_iload hx hb dX8_pour_170 (lv_at hl 5 rfl) ?_
        refine lv_iconst (v := 1) hx hb dX8_pour_172 (by decide) ?_
        refine lv_isub hx hb dX8_pour_173 ?_
        refine lv_iload hx hb dX8_pour_174 (lv_at hl 7 rfl) ?_
        refine lv_isub hx hb dX8_pour_176 ?_
        refine lv_goto (tgt := 182) hx hb dX8_pour_177 (by decide) ?_
        refine lv_topi (fun v57 hvv57 => ?_)
        replace h := k_bb h v57 hvv57
        refine lv_istore (i := 8) (lv' := [(8, .int v57), (0, .ref (sz + b0)), (1, .int b1), (2, .int b2), (3, .int b3), (4, .int b4), (5, .int b5), (6, .int b6), (7, .int a7)]) hx hb dX8_pour_182 hl (by decide) (by first | rfl | simp [rv_cat, cat_i, cat_l, cat_r, cat_n]) (fun ls hl => ?_)
        refine lv_aload_n hx hb dX8_pour_184 rfl (lv_at hl 1 rfl) ?_
        obtain ⟨ok58, h⟩ := k_gd h
        refine gs_X8_20 E hM ok58 dX8_pour_185 (fun x59 hxx59 => ?_)
        replace h := k_bb h x59 hxx59.symm
        refine lv_bipush (v := 40) hx hb dX8_pour_188 (by decide) ?_
        refine lv_iload_n hx hb dX8_pour_190 rfl (lv_at hl 4 rfl) ?_
        refine lv_imul hx hb dX8_pour_191 ?_
        refine lv_iload hx hb dX8_pour_192 (lv_at hl 5 rfl) ?_
        refine lv_iadd hx hb dX8_pour_194 ?_
        refine lv_iload hx hb dX8_pour_195 (lv_at hl 0 rfl) ?_
        refine lv_iadd hx hb dX8_pour_197 ?_
        refine lv_aload_n hx hb dX8_pour_198 rfl (lv_at hl 1 rfl) ?_
        refine gs_X8_20 E hM ok58 dX8_pour_199 (fun x60 hxx60 => ?_)
        replace h := k_bb h x60 hxx60.symm
        refine lv_bipush (v := 40) hx hb dX8_pour_202 (by decide) ?_
        refine lv_iload_n hx hb dX8_pour_204 rfl (lv_at hl 2 rfl) ?_
        refine lv_imul hx hb dX8_pour_205 ?_
        refine lv_iload_n hx hb dX8_pour_206 rfl (lv_at hl 3 rfl) ?_
        refine lv_iadd hx hb dX8_pour_207 ?_
        refine lv_iload hx hb dX8_pour_208 (lv_at hl 0 rfl) ?_
        refine lv_iadd hx hb dX8_pour_210 ?_
        rcases x60 with _ | k61
        · cases h
        rw [cs_s] at h
        obtain ⟨ok62, h⟩ := k_gd h
        refine m_lald E hM ok62 dX8_pour_211 ?_
        rcases x59 with _ | k63
        · cases h
        rw [cs_s] at h
        obtain ⟨ok64, h⟩ := k_gd h
        refine m_last E hM ok64 dX8_pour_212 (fun H locs hM => ?_)
        obtain ⟨v65, hvv65⟩ : ∃ y : Int32, y = a7 + (1) := ⟨_, rfl⟩
        replace h := k_bb h v65 hvv65
        refine lv_iinc (v := v65) (lv' := [(7, .int v65), (8, .int v57), (0, .ref (sz + b0)), (1, .int b1), (2, .int b2), (3, .int b3), (4, .int b4), (5, .int b5), (6, .int b6)]) hx hb dX8_pour_213 hl (k := 8) rfl (by rw [hvv65]; rfl) (by decide) (by first | rfl | simp [rv_cat, cat_i, cat_l, cat_r, cat_n]) (fun ls hl => ?_)
        refine lv_goto (tgt := 158) hx hb dX8_pour_216 (by decide) ?_
        exact ih v65 (sL u k63 (Int32.toNatClampNeg ((((40 : Int32) * b3) + b4) + v57)) (gL u k61 (Int32.toNatClampNeg ((((40 : Int32) * b1) + b2) + v57)))) H locs ls hM (lv_sub hl [2, 3, 4, 5, 6, 7, 8, 0] rfl) h hk

def f_X8_pour (r : Nat) (p1 : Int32) (p2 : Int32) (p3 : Int32) (p4 : Int32) (p5 : Int32) (u : Mm) : Option ((Int32) × Mm) := gd (okO u r 8) ((if p1 < 0 then bd (f_X8_no r (1 : Int32) (sI (sI u r 1 (0 : Int32)) r 0 (0 : Int32))) (fun w3 => gd (isB w3.1) (some (w3.1, w3.2))) else (if (4 : Int32) ≤ p1 then bd (f_X8_no r (1 : Int32) (sI (sI u r 1 (0 : Int32)) r 0 (0 : Int32))) (fun w6 => gd (isB w6.1) (some (w6.1, w6.2))) else (if p3 < 0 then bd (f_X8_no r (1 : Int32) (sI (sI u r 1 (0 : Int32)) r 0 (0 : Int32))) (fun w9 => gd (isB w9.1) (some (w9.1, w9.2))) else (if p3 < (4 : Int32) then bb (gR (sI (sI u r 1 (0 : Int32)) r 0 (0 : Int32)) r 5) (fun x12 => cs x12 none (fun k13 => gd (okA (sI (sI u r 1 (0 : Int32)) r 0 (0 : Int32)) k13 9 p1) ((if (gI (sI (sI u r 1 (0 : Int32)) r 0 (0 : Int32)) k13 (Int32.toNatClampNeg p1)) < 0 then bd (f_X8_no r (3 : Int32) (sI (sI u r 1 (0 : Int32)) r 0 (0 : Int32))) (fun w16 => gd (isB w16.1) (some (w16.1, w16.2))) else bb (gR (sI (sI u r 1 (0 : Int32)) r 0 (0 : Int32)) r 5) (fun x18 => cs x18 none (fun k19 => gd (okA (sI (sI u r 1 (0 : Int32)) r 0 (0 : Int32)) k19 9 p3) ((if 0 ≤ (gI (sI (sI u r 1 (0 : Int32)) r 0 (0 : Int32)) k19 (Int32.toNatClampNeg p3)) then bb (gR (sI (sI u r 1 (0 : Int32)) r 0 (0 : Int32)) r 4) (fun x22 => cs x22 none (fun k23 => gd (okA (sI (sI u r 1 (0 : Int32)) r 0 (0 : Int32)) k23 9 p1) (bb (gR (sI (sI u r 1 (0 : Int32)) r 0 (0 : Int32)) r 4) (fun x25 => cs x25 none (fun k26 => gd (okA (sI (sI u r 1 (0 : Int32)) r 0 (0 : Int32)) k26 9 p3) ((if (gI (sI (sI u r 1 (0 : Int32)) r 0 (0 : Int32)) k23 (Int32.toNatClampNeg p1)) = (gI (sI (sI u r 1 (0 : Int32)) r 0 (0 : Int32)) k26 (Int32.toNatClampNeg p3)) then (if 0 ≤ p5 then (if p2 < 0 then bd (f_X8_no r (4 : Int32) (sI (sI u r 1 (0 : Int32)) r 0 (0 : Int32))) (fun w31 => gd (isB w31.1) (some (w31.1, w31.2))) else (if p4 < 0 then bd (f_X8_no r (4 : Int32) (sI (sI u r 1 (0 : Int32)) r 0 (0 : Int32))) (fun w34 => gd (isB w34.1) (some (w34.1, w34.2))) else bb (gR (sI (sI u r 1 (0 : Int32)) r 0 (0 : Int32)) r 5) (fun x36 => cs x36 none (fun k37 => gd (okA (sI (sI u r 1 (0 : Int32)) r 0 (0 : Int32)) k37 9 p1) ((if 0 < (lg_cmp ((Int32.toInt64 p2) + (Int32.toInt64 p5)) (Int32.toInt64 (gI (sI (sI u r 1 (0 : Int32)) r 0 (0 : Int32)) k37 (Int32.toNatClampNeg p1)))) then bd (f_X8_no r (4 : Int32) (sI (sI u r 1 (0 : Int32)) r 0 (0 : Int32))) (fun w40 => gd (isB w40.1) (some (w40.1, w40.2))) else bb (gR (sI (sI u r 1 (0 : Int32)) r 0 (0 : Int32)) r 5) (fun x42 => cs x42 none (fun k43 => gd (okA (sI (sI u r 1 (0 : Int32)) r 0 (0 : Int32)) k43 9 p3) ((if (lg_cmp ((Int32.toInt64 p4) + (Int32.toInt64 p5)) (Int32.toInt64 (gI (sI (sI u r 1 (0 : Int32)) r 0 (0 : Int32)) k43 (Int32.toNatClampNeg p3)))) ≤ 0 then (if p4 ≤ p2 then L_X8_pour_158 r p1 p2 p3 p4 p5 (0 : Int32)  (fun a66 u67 => some ((1 : Int32), u67)) 1000 (0 : Int32) (sI (sI u r 1 (0 : Int32)) r 0 (0 : Int32)) else L_X8_pour_158 r p1 p2 p3 p4 p5 (1 : Int32)  (fun a68 u69 => some ((1 : Int32), u69)) 1000 (0 : Int32) (sI (sI u r 1 (0 : Int32)) r 0 (0 : Int32))) else bd (f_X8_no r (4 : Int32) (sI (sI u r 1 (0 : Int32)) r 0 (0 : Int32))) (fun w70 => gd (isB w70.1) (some (w70.1, w70.2))))))))))))) else bd (f_X8_no r (6 : Int32) (sI (sI u r 1 (0 : Int32)) r 0 (0 : Int32))) (fun w72 => gd (isB w72.1) (some (w72.1, w72.2)))) else bd (f_X8_no r (11 : Int32) (sI (sI u r 1 (0 : Int32)) r 0 (0 : Int32))) (fun w74 => gd (isB w74.1) (some (w74.1, w74.2)))))))))) else bd (f_X8_no r (3 : Int32) (sI (sI u r 1 (0 : Int32)) r 0 (0 : Int32))) (fun w76 => gd (isB w76.1) (some (w76.1, w76.2))))))))))) else bd (f_X8_no r (1 : Int32) (sI (sI u r 1 (0 : Int32)) r 0 (0 : Int32))) (fun w78 => gd (isB w78.1) (some (w78.1, w78.2))))))))
set_option maxHeartbeats 4000000 in
set_option maxRecDepth 100000 in
theorem c_X8_pour (l : Launch) (D : va_G) (cy : Nat → ClassId) (sz : Nat) (H0 : Heap) (u : Mm) (r : Nat) (p1 : Int32) (p2 : Int32) (p3 : Int32) (p4 : Int32) (p5 : Int32) {res : (Int32) × Mm} (h : f_X8_pour r p1 p2 p3 p4 p5 u = some res) : Ctr l yX8_pour cX8_pour 9 (some .boolean) rm_X8_pour 0 0 D cy sz H0 u [.ref (sz + r), .int p1, .int p2, .int p3, .int p4, .int p5] (some (.int res.1)) res.2 := by
  refine m_start (lv := [(0, .ref (sz + r)), (1, .int p1), (2, .int p2), (3, .int p3), (4, .int p4), (5, .int p5)]) (by decide) (by first | exact Nat.le_of_ble_eq_true rfl | simp [lg_sl, rv_cat, cat_i, cat_l, cat_r, cat_n]) (by first | rfl | simp [lv_args, rv_cat, cat_i, cat_l, cat_r, cat_n]) ?_
  intro p e s m below meth c ls E hr hlk hinit hM hl
  obtain ⟨hx, hb, hml, hown, hts, hKK⟩ := id E
  obtain ⟨H, hH⟩ : ∃ H, H = s.heap := ⟨_, rfl⟩
  obtain ⟨locs, hlocs⟩ : ∃ L : List Loc, L = [] := ⟨_, rfl⟩
  rw [← hH, ← hlocs] at hM ⊢
  unfold f_X8_pour at h
  refine lv_aload_n hx hb dX8_pour_0 rfl (lv_at hl 0 rfl) ?_
  refine lv_iconst (v := 0) hx hb dX8_pour_1 (by decide) ?_
  obtain ⟨ok1, h⟩ := k_gd h
  refine ps_X8_93 (v := (0 : Int32)) E hM ok1 dX8_pour_2 (fun H locs hM => ?_)
  refine lv_aload_n hx hb dX8_pour_5 rfl (lv_at hl 0 rfl) ?_
  refine lv_iconst (v := 0) hx hb dX8_pour_6 (by decide) ?_
  refine ps_X8_97 (v := (0 : Int32)) E hM ok1 dX8_pour_7 (fun H locs hM => ?_)
  refine lv_iload_n hx hb dX8_pour_10 rfl (lv_at hl 1 rfl) ?_
  refine lv_if_lt (tgt := 28) hx hb dX8_pour_11 (by decide) (fun c2 => ?_) (fun c2 => ?_)
  · replace h := (k_if h).1 c2
    refine lv_aload_n hx hb dX8_pour_28 rfl (lv_at hl 0 rfl) ?_
    refine lv_iconst (v := 1) hx hb dX8_pour_29 (by decide) ?_
    obtain ⟨w3, hzw3, h⟩ := k_bd h
    refine m_callV (C := RX8) (T := TX8) (N := 33) (ci := 8) (n := 1) (As := [.int (1 : Int32)]) (rest := []) (st1 := (.int w3.1 :: [])) E hM hl.1 ok1 (by decide) rfl rfl (c_X8_no l D cy sz H0 (sI (sI u r 1 (0 : Int32)) r 0 (0 : Int32)) r (1 : Int32) hzw3) wl_X8_100 wm_X8_no ws_X8_no wi_X8 wd_X8_no rfl rfl (by decide +kernel) ⟨by decide, by decide⟩ rfl rfl (by first | exact Nat.le_of_ble_eq_true rfl | simp [rv_cat, cat_i, cat_l, cat_r, cat_n]) dX8_pour_30 ⟨by decide, by decide⟩ rfl (fun H locs hM => ?_)
    obtain ⟨hB4, h⟩ := k_gd h
    cases h
    exact m_zret hx hb hr hlk hM hB4 rfl rfl dX8_pour_33
  · replace h := (k_if h).2 c2
    refine lv_iload_n hx hb dX8_pour_14 rfl (lv_at hl 1 rfl) ?_
    refine lv_iconst (v := 4) hx hb dX8_pour_15 (by decide) ?_
    refine lv_icmp_ge (tgt := 28) hx hb dX8_pour_16 (by decide) (fun c5 => ?_) (fun c5 => ?_)
    · replace h := (k_if h).1 c5
      refine lv_aload_n hx hb dX8_pour_28 rfl (lv_at hl 0 rfl) ?_
      refine lv_iconst (v := 1) hx hb dX8_pour_29 (by decide) ?_
      obtain ⟨w6, hzw6, h⟩ := k_bd h
      refine m_callV (C := RX8) (T := TX8) (N := 33) (ci := 8) (n := 1) (As := [.int (1 : Int32)]) (rest := []) (st1 := (.int w6.1 :: [])) E hM hl.1 ok1 (by decide) rfl rfl (c_X8_no l D cy sz H0 (sI (sI u r 1 (0 : Int32)) r 0 (0 : Int32)) r (1 : Int32) hzw6) wl_X8_100 wm_X8_no ws_X8_no wi_X8 wd_X8_no rfl rfl (by decide +kernel) ⟨by decide, by decide⟩ rfl rfl (by first | exact Nat.le_of_ble_eq_true rfl | simp [rv_cat, cat_i, cat_l, cat_r, cat_n]) dX8_pour_30 ⟨by decide, by decide⟩ rfl (fun H locs hM => ?_)
      obtain ⟨hB7, h⟩ := k_gd h
      cases h
      exact m_zret hx hb hr hlk hM hB7 rfl rfl dX8_pour_33
    · replace h := (k_if h).2 c5
      refine lv_iload_n hx hb dX8_pour_19 rfl (lv_at hl 3 rfl) ?_
      refine lv_if_lt (tgt := 28) hx hb dX8_pour_20 (by decide) (fun c8 => ?_) (fun c8 => ?_)
      · replace h := (k_if h).1 c8
        refine lv_aload_n hx hb dX8_pour_28 rfl (lv_at hl 0 rfl) ?_
        refine lv_iconst (v := 1) hx hb dX8_pour_29 (by decide) ?_
        obtain ⟨w9, hzw9, h⟩ := k_bd h
        refine m_callV (C := RX8) (T := TX8) (N := 33) (ci := 8) (n := 1) (As := [.int (1 : Int32)]) (rest := []) (st1 := (.int w9.1 :: [])) E hM hl.1 ok1 (by decide) rfl rfl (c_X8_no l D cy sz H0 (sI (sI u r 1 (0 : Int32)) r 0 (0 : Int32)) r (1 : Int32) hzw9) wl_X8_100 wm_X8_no ws_X8_no wi_X8 wd_X8_no rfl rfl (by decide +kernel) ⟨by decide, by decide⟩ rfl rfl (by first | exact Nat.le_of_ble_eq_true rfl | simp [rv_cat, cat_i, cat_l, cat_r, cat_n]) dX8_pour_30 ⟨by decide, by decide⟩ rfl (fun H locs hM => ?_)
        obtain ⟨hB10, h⟩ := k_gd h
        cases h
        exact m_zret hx hb hr hlk hM hB10 rfl rfl dX8_pour_33
      · replace h := (k_if h).2 c8
        refine lv_iload_n hx hb dX8_pour_23 rfl (lv_at hl 3 rfl) ?_
        refine lv_iconst (v := 4) hx hb dX8_pour_24 (by decide) ?_
        refine lv_icmp_lt (tgt := 34) hx hb dX8_pour_25 (by decide) (fun c11 => ?_) (fun c11 => ?_)
        · replace h := (k_if h).1 c11
          refine lv_aload_n hx hb dX8_pour_34 rfl (lv_at hl 0 rfl) ?_
          refine gs_X8_17 E hM ok1 dX8_pour_35 (fun x12 hxx12 => ?_)
          replace h := k_bb h x12 hxx12.symm
          refine lv_iload_n hx hb dX8_pour_38 rfl (lv_at hl 1 rfl) ?_
          rcases x12 with _ | k13
          · cases h
          rw [cs_s] at h
          obtain ⟨ok14, h⟩ := k_gd h
          refine m_iald E hM ok14 dX8_pour_39 ?_
          refine lv_if_lt (tgt := 52) hx hb dX8_pour_40 (by decide) (fun c15 => ?_) (fun c15 => ?_)
          · replace h := (k_if h).1 c15
            refine lv_aload_n hx hb dX8_pour_52 rfl (lv_at hl 0 rfl) ?_
            refine lv_iconst (v := 3) hx hb dX8_pour_53 (by decide) ?_
            obtain ⟨w16, hzw16, h⟩ := k_bd h
            refine m_callV (C := RX8) (T := TX8) (N := 33) (ci := 8) (n := 1) (As := [.int (3 : Int32)]) (rest := []) (st1 := (.int w16.1 :: [])) E hM hl.1 ok1 (by decide) rfl rfl (c_X8_no l D cy sz H0 (sI (sI u r 1 (0 : Int32)) r 0 (0 : Int32)) r (3 : Int32) hzw16) wl_X8_100 wm_X8_no ws_X8_no wi_X8 wd_X8_no rfl rfl (by decide +kernel) ⟨by decide, by decide⟩ rfl rfl (by first | exact Nat.le_of_ble_eq_true rfl | simp [rv_cat, cat_i, cat_l, cat_r, cat_n]) dX8_pour_54 ⟨by decide, by decide⟩ rfl (fun H locs hM => ?_)
            obtain ⟨hB17, h⟩ := k_gd h
            cases h
            exact m_zret hx hb hr hlk hM hB17 rfl rfl dX8_pour_57
          · replace h := (k_if h).2 c15
            refine lv_aload_n hx hb dX8_pour_43 rfl (lv_at hl 0 rfl) ?_
            refine gs_X8_17 E hM ok1 dX8_pour_44 (fun x18 hxx18 => ?_)
            replace h := k_bb h x18 hxx18.symm
            refine lv_iload_n hx hb dX8_pour_47 rfl (lv_at hl 3 rfl) ?_
            rcases x18 with _ | k19
            · cases h
            rw [cs_s] at h
            obtain ⟨ok20, h⟩ := k_gd h
            refine m_iald E hM ok20 dX8_pour_48 ?_
            refine lv_if_ge (tgt := 58) hx hb dX8_pour_49 (by decide) (fun c21 => ?_) (fun c21 => ?_)
            · replace h := (k_if h).1 c21
              refine lv_aload_n hx hb dX8_pour_58 rfl (lv_at hl 0 rfl) ?_
              refine gs_X8_13 E hM ok1 dX8_pour_59 (fun x22 hxx22 => ?_)
              replace h := k_bb h x22 hxx22.symm
              refine lv_iload_n hx hb dX8_pour_62 rfl (lv_at hl 1 rfl) ?_
              rcases x22 with _ | k23
              · cases h
              rw [cs_s] at h
              obtain ⟨ok24, h⟩ := k_gd h
              refine m_iald E hM ok24 dX8_pour_63 ?_
              refine lv_aload_n hx hb dX8_pour_64 rfl (lv_at hl 0 rfl) ?_
              refine gs_X8_13 E hM ok1 dX8_pour_65 (fun x25 hxx25 => ?_)
              replace h := k_bb h x25 hxx25.symm
              refine lv_iload_n hx hb dX8_pour_68 rfl (lv_at hl 3 rfl) ?_
              rcases x25 with _ | k26
              · cases h
              rw [cs_s] at h
              obtain ⟨ok27, h⟩ := k_gd h
              refine m_iald E hM ok27 dX8_pour_69 ?_
              refine lv_icmp_eq (tgt := 80) hx hb dX8_pour_70 (by decide) (fun c28 => ?_) (fun c28 => ?_)
              · replace h := (k_if h).1 c28
                refine lv_iload hx hb dX8_pour_80 (lv_at hl 5 rfl) ?_
                refine lv_if_ge (tgt := 92) hx hb dX8_pour_82 (by decide) (fun c29 => ?_) (fun c29 => ?_)
                · replace h := (k_if h).1 c29
                  refine lv_iload_n hx hb dX8_pour_92 rfl (lv_at hl 2 rfl) ?_
                  refine lv_if_lt (tgt := 136) hx hb dX8_pour_93 (by decide) (fun c30 => ?_) (fun c30 => ?_)
                  · replace h := (k_if h).1 c30
                    refine lv_aload_n hx hb dX8_pour_136 rfl (lv_at hl 0 rfl) ?_
                    refine lv_iconst (v := 4) hx hb dX8_pour_137 (by decide) ?_
                    obtain ⟨w31, hzw31, h⟩ := k_bd h
                    refine m_callV (C := RX8) (T := TX8) (N := 33) (ci := 8) (n := 1) (As := [.int (4 : Int32)]) (rest := []) (st1 := (.int w31.1 :: [])) E hM hl.1 ok1 (by decide) rfl rfl (c_X8_no l D cy sz H0 (sI (sI u r 1 (0 : Int32)) r 0 (0 : Int32)) r (4 : Int32) hzw31) wl_X8_100 wm_X8_no ws_X8_no wi_X8 wd_X8_no rfl rfl (by decide +kernel) ⟨by decide, by decide⟩ rfl rfl (by first | exact Nat.le_of_ble_eq_true rfl | simp [rv_cat, cat_i, cat_l, cat_r, cat_n]) dX8_pour_138 ⟨by decide, by decide⟩ rfl (fun H locs hM => ?_)
                    obtain ⟨hB32, h⟩ := k_gd h
                    cases h
                    exact m_zret hx hb hr hlk hM hB32 rfl rfl dX8_pour_141
                  · replace h := (k_if h).2 c30
                    refine lv_iload hx hb dX8_pour_96 (lv_at hl 4 rfl) ?_
                    refine lv_if_lt (tgt := 136) hx hb dX8_pour_98 (by decide) (fun c33 => ?_) (fun c33 => ?_)
                    · replace h := (k_if h).1 c33
                      refine lv_aload_n hx hb dX8_pour_136 rfl (lv_at hl 0 rfl) ?_
                      refine lv_iconst (v := 4) hx hb dX8_pour_137 (by decide) ?_
                      obtain ⟨w34, hzw34, h⟩ := k_bd h
                      refine m_callV (C := RX8) (T := TX8) (N := 33) (ci := 8) (n := 1) (As := [.int (4 : Int32)]) (rest := []) (st1 := (.int w34.1 :: [])) E hM hl.1 ok1 (by decide) rfl rfl (c_X8_no l D cy sz H0 (sI (sI u r 1 (0 : Int32)) r 0 (0 : Int32)) r (4 : Int32) hzw34) wl_X8_100 wm_X8_no ws_X8_no wi_X8 wd_X8_no rfl rfl (by decide +kernel) ⟨by decide, by decide⟩ rfl rfl (by first | exact Nat.le_of_ble_eq_true rfl | simp [rv_cat, cat_i, cat_l, cat_r, cat_n]) dX8_pour_138 ⟨by decide, by decide⟩ rfl (fun H locs hM => ?_)
                      obtain ⟨hB35, h⟩ := k_gd h
                      cases h
                      exact m_zret hx hb hr hlk hM hB35 rfl rfl dX8_pour_141
                    · replace h := (k_if h).2 c33
                      refine lv_iload_n hx hb dX8_pour_101 rfl (lv_at hl 2 rfl) ?_
                      refine lv_i2l hx hb dX8_pour_102 rfl ?_
                      refine lv_iload hx hb dX8_pour_103 (lv_at hl 5 rfl) ?_
                      refine lv_i2l hx hb dX8_pour_105 rfl ?_
                      refine lv_ladd hx hb dX8_pour_106 ?_
                      refine lv_aload_n hx hb dX8_pour_107 rfl (lv_at hl 0 rfl) ?_
                      refine gs_X8_17 E hM ok1 dX8_pour_108 (fun x36 hxx36 => ?_)
                      replace h := k_bb h x36 hxx36.symm
                      refine lv_iload_n hx hb dX8_pour_111 rfl (lv_at hl 1 rfl) ?_
                      rcases x36 with _ | k37
                      · cases h
                      rw [cs_s] at h
                      obtain ⟨ok38, h⟩ := k_gd h
                      refine m_iald E hM ok38 dX8_pour_112 ?_
                      refine lv_i2l hx hb dX8_pour_113 rfl ?_
                      refine W.lcmp hx hb dX8_pour_114 ?_
                      refine lv_if_gt (tgt := 136) hx hb dX8_pour_115 (by decide) (fun c39 => ?_) (fun c39 => ?_)
                      · replace h := (k_if h).1 c39
                        refine lv_aload_n hx hb dX8_pour_136 rfl (lv_at hl 0 rfl) ?_
                        refine lv_iconst (v := 4) hx hb dX8_pour_137 (by decide) ?_
                        obtain ⟨w40, hzw40, h⟩ := k_bd h
                        refine m_callV (C := RX8) (T := TX8) (N := 33) (ci := 8) (n := 1) (As := [.int (4 : Int32)]) (rest := []) (st1 := (.int w40.1 :: [])) E hM hl.1 ok1 (by decide) rfl rfl (c_X8_no l D cy sz H0 (sI (sI u r 1 (0 : Int32)) r 0 (0 : Int32)) r (4 : Int32) hzw40) wl_X8_100 wm_X8_no ws_X8_no wi_X8 wd_X8_no rfl rfl (by decide +kernel) ⟨by decide, by decide⟩ rfl rfl (by first | exact Nat.le_of_ble_eq_true rfl | simp [rv_cat, cat_i, cat_l, cat_r, cat_n]) dX8_pour_138 ⟨by decide, by decide⟩ rfl (fun H locs hM => ?_)
                        obtain ⟨hB41, h⟩ := k_gd h
                        cases h
                        exact m_zret hx hb hr hlk hM hB41 rfl rfl dX8_pour_141
                      · replace h := (k_if h).2 c39
                        refine lv_iload hx hb dX8_pour_118 (lv_at hl 4 rfl) ?_
                        refine lv_i2l hx hb dX8_pour_120 rfl ?_
                        refine lv_iload hx hb dX8_pour_121 (lv_at hl 5 rfl) ?_
                        refine lv_i2l hx hb dX8_pour_123 rfl ?_
                        refine lv_ladd hx hb dX8_pour_124 ?_
                        refine lv_aload_n hx hb dX8_pour_125 rfl (lv_at hl 0 rfl) ?_
                        refine gs_X8_17 E hM ok1 dX8_pour_126 (fun x42 hxx42 => ?_)
                        replace h := k_bb h x42 hxx42.symm
                        refine lv_iload_n hx hb dX8_pour_129 rfl (lv_at hl 3 rfl) ?_
                        rcases x42 with _ | k43
                        · cases h
                        rw [cs_s] at h
                        obtain ⟨ok44, h⟩ := k_gd h
                        refine m_iald E hM ok44 dX8_pour_130 ?_
                        refine lv_i2l hx hb dX8_pour_131 rfl ?_
                        refine W.lcmp hx hb dX8_pour_132 ?_
                        refine lv_if_le (tgt := 142) hx hb dX8_pour_133 (by decide) (fun c45 => ?_) (fun c45 => ?_)
                        · replace h := (k_if h).1 c45
                          refine lv_iload_n hx hb dX8_pour_142 rfl (lv_at hl 2 rfl) ?_
                          refine lv_iload hx hb dX8_pour_143 (lv_at hl 4 rfl) ?_
                          refine lv_icmp_ge (tgt := 152) hx hb dX8_pour_145 (by decide) (fun c46 => ?_) (fun c46 => ?_)
                          · replace h := (k_if h).1 c46
                            refine lv_iconst (v := 0) hx hb dX8_pour_152 (by decide) ?_
                            refine lv_istore (i := 6) (lv' := [(6, .int (0 : Int32)), (0, .ref (sz + r)), (1, .int p1), (2, .int p2), (3, .int p3), (4, .int p4), (5, .int p5)]) hx hb dX8_pour_153 hl (by decide) (by first | rfl | simp [rv_cat, cat_i, cat_l, cat_r, cat_n]) (fun ls hl => ?_)
                            refine lv_iconst (v := 0) hx hb dX8_pour_155 (by decide) ?_
                            refine lv_istore (i := 7) (lv' := [(7, .int (0 : Int32)), (6, .int (0 : Int32)), (0, .ref (sz + r)), (1, .int p1), (2, .int p2), (3, .int p3), (4, .int p4), (5, .int p5)]) hx hb dX8_pour_156 hl (by decide) (by first | rfl | simp [rv_cat, cat_i, cat_l, cat_r, cat_n]) (fun ls hl => ?_)
                            refine lp_X8_pour_158 hr hlk  E 1000 (0 : Int32) (sI (sI u r 1 (0 : Int32)) r 0 (0 : Int32)) H locs ls hM (lv_sub hl [2, 3, 4, 5, 6, 7, 1, 0] rfl) h (fun a66 u67 H locs ls hM hl h => ?_)
                            refine lv_iconst (v := 1) hx hb dX8_pour_219 (by decide) ?_
                            cases h
                            exact m_zret hx hb hr hlk hM (by decide) rfl rfl dX8_pour_220
                          · replace h := (k_if h).2 c46
                            refine lv_iconst (v := 1) hx hb dX8_pour_148 (by decide) ?_
                            refine lv_goto (tgt := 153) hx hb dX8_pour_149 (by decide) ?_
                            refine lv_istore (i := 6) (lv' := [(6, .int (1 : Int32)), (0, .ref (sz + r)), (1, .int p1), (2, .int p2), (3, .int p3), (4, .int p4), (5, .int p5)]) hx hb dX8_pour_153 hl (by decide) (by first | rfl | simp [rv_cat, cat_i, cat_l, cat_r, cat_n]) (fun ls hl => ?_)
                            refine lv_iconst (v := 0) hx hb dX8_pour_155 (by decide) ?_
                            refine lv_istore (i := 7) (lv' := [(7, .int (0 : Int32)), (6, .int (1 : Int32)), (0, .ref (sz + r)), (1, .int p1), (2, .int p2), (3, .int p3), (4, .int p4), (5, .int p5)]) hx hb dX8_pour_156 hl (by decide) (by first | rfl | simp [rv_cat, cat_i, cat_l, cat_r, cat_n]) (fun ls hl => ?_)
                            refine lp_X8_pour_158 hr hlk  E 1000 (0 : Int32) (sI (sI u r 1 (0 : Int32)) r 0 (0 : Int32)) H locs ls hM (lv_sub hl [2, 3, 4, 5, 6, 7, 1, 0] rfl) h (fun a68 u69 H locs ls hM hl h => ?_)
                            refine lv_iconst (v := 1) hx hb dX8_pour_219 (by decide) ?_
                            cases h
                            exact m_zret hx hb hr hlk hM (by decide) rfl rfl dX8_pour_220
                        · replace h := (k_if h).2 c45
                          refine lv_aload_n hx hb dX8_pour_136 rfl (lv_at hl 0 rfl) ?_
                          refine lv_iconst (v := 4) hx hb dX8_pour_137 (by decide) ?_
                          obtain ⟨w70, hzw70, h⟩ := k_bd h
                          refine m_callV (C := RX8) (T := TX8) (N := 33) (ci := 8) (n := 1) (As := [.int (4 : Int32)]) (rest := []) (st1 := (.int w70.1 :: [])) E hM hl.1 ok1 (by decide) rfl rfl (c_X8_no l D cy sz H0 (sI (sI u r 1 (0 : Int32)) r 0 (0 : Int32)) r (4 : Int32) hzw70) wl_X8_100 wm_X8_no ws_X8_no wi_X8 wd_X8_no rfl rfl (by decide +kernel) ⟨by decide, by decide⟩ rfl rfl (by first | exact Nat.le_of_ble_eq_true rfl | simp [rv_cat, cat_i, cat_l, cat_r, cat_n]) dX8_pour_138 ⟨by decide, by decide⟩ rfl (fun H locs hM => ?_)
                          obtain ⟨hB71, h⟩ := k_gd h
                          cases h
                          exact m_zret hx hb hr hlk hM hB71 rfl rfl dX8_pour_141
                · replace h := (k_if h).2 c29
                  refine lv_aload_n hx hb dX8_pour_85 rfl (lv_at hl 0 rfl) ?_
                  refine lv_bipush (v := 6) hx hb dX8_pour_86 (by decide) ?_
                  obtain ⟨w72, hzw72, h⟩ := k_bd h
                  refine m_callV (C := RX8) (T := TX8) (N := 33) (ci := 8) (n := 1) (As := [.int (6 : Int32)]) (rest := []) (st1 := (.int w72.1 :: [])) E hM hl.1 ok1 (by decide) rfl rfl (c_X8_no l D cy sz H0 (sI (sI u r 1 (0 : Int32)) r 0 (0 : Int32)) r (6 : Int32) hzw72) wl_X8_100 wm_X8_no ws_X8_no wi_X8 wd_X8_no rfl rfl (by decide +kernel) ⟨by decide, by decide⟩ rfl rfl (by first | exact Nat.le_of_ble_eq_true rfl | simp [rv_cat, cat_i, cat_l, cat_r, cat_n]) dX8_pour_88 ⟨by decide, by decide⟩ rfl (fun H locs hM => ?_)
                  obtain ⟨hB73, h⟩ := k_gd h
                  cases h
                  exact m_zret hx hb hr hlk hM hB73 rfl rfl dX8_pour_91
              · replace h := (k_if h).2 c28
                refine lv_aload_n hx hb dX8_pour_73 rfl (lv_at hl 0 rfl) ?_
                refine lv_bipush (v := 11) hx hb dX8_pour_74 (by decide) ?_
                obtain ⟨w74, hzw74, h⟩ := k_bd h
                refine m_callV (C := RX8) (T := TX8) (N := 33) (ci := 8) (n := 1) (As := [.int (11 : Int32)]) (rest := []) (st1 := (.int w74.1 :: [])) E hM hl.1 ok1 (by decide) rfl rfl (c_X8_no l D cy sz H0 (sI (sI u r 1 (0 : Int32)) r 0 (0 : Int32)) r (11 : Int32) hzw74) wl_X8_100 wm_X8_no ws_X8_no wi_X8 wd_X8_no rfl rfl (by decide +kernel) ⟨by decide, by decide⟩ rfl rfl (by first | exact Nat.le_of_ble_eq_true rfl | simp [rv_cat, cat_i, cat_l, cat_r, cat_n]) dX8_pour_76 ⟨by decide, by decide⟩ rfl (fun H locs hM => ?_)
                obtain ⟨hB75, h⟩ := k_gd h
                cases h
                exact m_zret hx hb hr hlk hM hB75 rfl rfl dX8_pour_79
            · replace h := (k_if h).2 c21
              refine lv_aload_n hx hb dX8_pour_52 rfl (lv_at hl 0 rfl) ?_
              refine lv_iconst (v := 3) hx hb dX8_pour_53 (by decide) ?_
              obtain ⟨w76, hzw76, h⟩ := k_bd h
              refine m_callV (C := RX8) (T := TX8) (N := 33) (ci := 8) (n := 1) (As := [.int (3 : Int32)]) (rest := []) (st1 := (.int w76.1 :: [])) E hM hl.1 ok1 (by decide) rfl rfl (c_X8_no l D cy sz H0 (sI (sI u r 1 (0 : Int32)) r 0 (0 : Int32)) r (3 : Int32) hzw76) wl_X8_100 wm_X8_no ws_X8_no wi_X8 wd_X8_no rfl rfl (by decide +kernel) ⟨by decide, by decide⟩ rfl rfl (by first | exact Nat.le_of_ble_eq_true rfl | simp [rv_cat, cat_i, cat_l, cat_r, cat_n]) dX8_pour_54 ⟨by decide, by decide⟩ rfl (fun H locs hM => ?_)
              obtain ⟨hB77, h⟩ := k_gd h
              cases h
              exact m_zret hx hb hr hlk hM hB77 rfl rfl dX8_pour_57
        · replace h := (k_if h).2 c11
          refine lv_aload_n hx hb dX8_pour_28 rfl (lv_at hl 0 rfl) ?_
          refine lv_iconst (v := 1) hx hb dX8_pour_29 (by decide) ?_
          obtain ⟨w78, hzw78, h⟩ := k_bd h
          refine m_callV (C := RX8) (T := TX8) (N := 33) (ci := 8) (n := 1) (As := [.int (1 : Int32)]) (rest := []) (st1 := (.int w78.1 :: [])) E hM hl.1 ok1 (by decide) rfl rfl (c_X8_no l D cy sz H0 (sI (sI u r 1 (0 : Int32)) r 0 (0 : Int32)) r (1 : Int32) hzw78) wl_X8_100 wm_X8_no ws_X8_no wi_X8 wd_X8_no rfl rfl (by decide +kernel) ⟨by decide, by decide⟩ rfl rfl (by first | exact Nat.le_of_ble_eq_true rfl | simp [rv_cat, cat_i, cat_l, cat_r, cat_n]) dX8_pour_30 ⟨by decide, by decide⟩ rfl (fun H locs hM => ?_)
          obtain ⟨hB79, h⟩ := k_gd h
          cases h
          exact m_zret hx hb hr hlk hM hB79 rfl rfl dX8_pour_33

abbrev rm_X8_isThing : Room := { frames := 0, cells := 0, slots := 0, locals := 0 }
def f_X8_isThing (r : Nat) (p1 : Int32) (u : Mm) : Option (Int32) := (if p1 < 0 then some (0 : Int32) else gd (okO u r 8) ((if (gI u r 7) ≤ p1 then some (0 : Int32) else some (1 : Int32))))
set_option maxHeartbeats 4000000 in
set_option maxRecDepth 100000 in
theorem c_X8_isThing (l : Launch) (D : va_G) (cy : Nat → ClassId) (sz : Nat) (H0 : Heap) (u : Mm) (r : Nat) (p1 : Int32) {res : Int32} (h : f_X8_isThing r p1 u = some res) : Ctr l yX8_isThing cX8_isThing 2 (some .boolean) rm_X8_isThing 0 0 D cy sz H0 u [.ref (sz + r), .int p1] (some (.int res)) u := by
  refine m_start (lv := [(0, .ref (sz + r)), (1, .int p1)]) (by decide) (by first | exact Nat.le_of_ble_eq_true rfl | simp [lg_sl, rv_cat, cat_i, cat_l, cat_r, cat_n]) (by first | rfl | simp [lv_args, rv_cat, cat_i, cat_l, cat_r, cat_n]) ?_
  intro p e s m below meth c ls E hr hlk hinit hM hl
  obtain ⟨hx, hb, hml, hown, hts, hKK⟩ := id E
  obtain ⟨H, hH⟩ : ∃ H, H = s.heap := ⟨_, rfl⟩
  obtain ⟨locs, hlocs⟩ : ∃ L : List Loc, L = [] := ⟨_, rfl⟩
  rw [← hH, ← hlocs] at hM ⊢
  unfold f_X8_isThing at h
  refine lv_iload_n hx hb dX8_isThing_0 rfl (lv_at hl 1 rfl) ?_
  refine lv_if_lt (tgt := 16) hx hb dX8_isThing_1 (by decide) (fun c1 => ?_) (fun c1 => ?_)
  · replace h := (k_if h).1 c1
    refine lv_iconst (v := 0) hx hb dX8_isThing_16 (by decide) ?_
    cases h
    exact m_zret hx hb hr hlk hM (by decide) rfl rfl dX8_isThing_17
  · replace h := (k_if h).2 c1
    refine lv_iload_n hx hb dX8_isThing_4 rfl (lv_at hl 1 rfl) ?_
    refine lv_aload_n hx hb dX8_isThing_5 rfl (lv_at hl 0 rfl) ?_
    obtain ⟨ok2, h⟩ := k_gd h
    refine gs_X8_118 E hM ok2 dX8_isThing_6 ?_
    refine lv_icmp_ge (tgt := 16) hx hb dX8_isThing_9 (by decide) (fun c3 => ?_) (fun c3 => ?_)
    · replace h := (k_if h).1 c3
      refine lv_iconst (v := 0) hx hb dX8_isThing_16 (by decide) ?_
      cases h
      exact m_zret hx hb hr hlk hM (by decide) rfl rfl dX8_isThing_17
    · replace h := (k_if h).2 c3
      refine lv_iconst (v := 1) hx hb dX8_isThing_12 (by decide) ?_
      refine lv_goto (tgt := 17) hx hb dX8_isThing_13 (by decide) ?_
      cases h
      exact m_zret hx hb hr hlk hM (by decide) rfl rfl dX8_isThing_17

abbrev rm_X8_thing : Room := { frames := 1, cells := 0, slots := 0, locals := 36 }
def L_X8_thing_141 (b0 : Nat) (b1 : Int32) (b2 : Int32) (b3 : Int32) (k : Int32 → Mm → Option ((Int32) × Mm)) : Nat → Int32 → Mm → Option ((Int32) × Mm)
  | 0, _, _ => none
  | n + 1, a4, u => (if (6 : Int32) ≤ a4 then k a4 u else gd (okO u b0 8) (bb (gR u b0 12) (fun x25 => cs x25 none (fun k26 => gd (okA u k26 9 (((6 : Int32) * b3) + a4)) (bb (a4 + (1)) (fun v28 => L_X8_thing_141 b0 b1 b2 b3 k n v28 (sI u k26 (Int32.toNatClampNeg (((6 : Int32) * b3) + a4)) (-1 : Int32))))))))
set_option maxHeartbeats 4000000 in
set_option maxRecDepth 100000 in
theorem lp_X8_thing_141 {p : Program} {l : Launch} {e : Env} {s : State} {m : MethodId} {args : Array Value} {below : List Frame} {meth : Method} {c : Code} {D : va_G} {cy : Nat → ClassId} {sz : Nat} {H0 : Heap} {b0 : Nat} {b1 : Int32} {b2 : Int32} {b3 : Int32} {k : Int32 → Mm → Option ((Int32) × Mm)} {res : (Int32) × Mm} (hr : meth.sig.returnType = (some .int)) (hlk : meth.locks = false) (E : EE p s m args c cX8_thing 5 RX8 D cy) : ∀ (n : Nat) (a4 : Int32) (u : Mm) (H : Heap) (locs : List Loc) (ls : Array Slot), MM D cy sz H0 u H locs → lv_has ls 5 [(0, .ref (sz + b0)), (1, .int b1), (2, .int b2), (3, .int b3), (4, .int a4)] → L_X8_thing_141 b0 b1 b2 b3 k n a4 u = some res → (∀ (a4 : Int32) (u : Mm) (H : Heap) (locs : List Loc) (ls : Array Slot), MM D cy sz H0 u H locs → lv_has ls 5 [(0, .ref (sz + b0)), (1, .int b1), (2, .int b2), (3, .int b3), (4, .int a4)] → k a4 u = some res → W p l e rm_X8_thing s m args below meth c H locs 0 0 (MQ below (Post D cy sz H0 (some (.int res.1)) res.2) args s 0 0 (fun q => sz ≤ q)) (F0 m 167 ls [])) → W p l e rm_X8_thing s m args below meth c H locs 0 0 (MQ below (Post D cy sz H0 (some (.int res.1)) res.2) args s 0 0 (fun q => sz ≤ q)) (F0 m 141 ls []) := by
  obtain ⟨hx, hb, hml, hown, hts, hKK⟩ := id E
  intro n
  induction n with
  | zero => intros; rename_i h _; cases h
  | succ n ih =>
    intro a4 u H locs ls hM hl h hk
    rw [L_X8_thing_141] at h
    refine lv_iload hx hb dX8_thing_141 (lv_at hl 4 rfl) ?_
    refine lv_bipush (v := 6) hx hb dX8_thing_143 (by decide) ?_
    refine lv_icmp_ge (tgt := 167) hx hb dX8_thing_145 (by decide) (fun c23 => ?_) (fun c23 => ?_)
    · replace h := (k_if h).1 c23
      exact hk a4 u H locs ls hM (lv_sub hl [0, 1, 2, 3, 4] rfl) h
    · replace h := (k_if h).2 c23
      refine lv_aload_n hx hb dX8_thing_148 rfl (lv_at hl 0 rfl) ?_
      obtain ⟨ok24, h⟩ := k_gd h
      refine gs_X8_36 E hM ok24 dX8_thing_149 (fun x25 hxx25 => ?_)
      replace h := k_bb h x25 hxx25.symm
      refine lv_bipush (v := 6) hx hb dX8_thing_152 (by decide) ?_
      refine lv_iload_n hx hb dX8_thing_154 rfl (lv_at hl 3 rfl) ?_
      refine lv_imul hx hb dX8_thing_155 ?_
      refine lv_iload hx hb dX8_thing_156 (lv_at hl 4 rfl) ?_
      refine lv_iadd hx hb dX8_thing_158 ?_
      refine lv_iconst (v := (-1)) hx hb dX8_thing_159 (by decide) ?_
      rcases x25 with _ | k26
      · cases h
      rw [cs_s] at h
      obtain ⟨ok27, h⟩ := k_gd h
      refine m_iast E hM ok27 dX8_thing_160 (fun H locs hM => ?_)
      obtain ⟨v28, hvv28⟩ : ∃ y : Int32, y = a4 + (1) := ⟨_, rfl⟩
      replace h := k_bb h v28 hvv28
      refine lv_iinc (v := v28) (lv' := [(4, .int v28), (0, .ref (sz + b0)), (1, .int b1), (2, .int b2), (3, .int b3)]) hx hb dX8_thing_161 hl (k := 4) rfl (by rw [hvv28]; rfl) (by decide) (by first | rfl | simp [rv_cat, cat_i, cat_l, cat_r, cat_n]) (fun ls hl => ?_)
      refine lv_goto (tgt := 141) hx hb dX8_thing_164 (by decide) ?_
      exact ih v28 (sI u k26 (Int32.toNatClampNeg (((6 : Int32) * b3) + a4)) (-1 : Int32)) H locs ls hM (lv_sub hl [1, 2, 3, 4, 0] rfl) h hk

def f_X8_thing (r : Nat) (p1 : Int32) (p2 : Int32) (u : Mm) : Option ((Int32) × Mm) := gd (okO u r 8) ((if p1 < 0 then bd (f_X8_refuse r (5 : Int32) (sI (sI u r 1 (0 : Int32)) r 0 (0 : Int32))) (fun w3 => some (w3.1, w3.2)) else (if p1 ≤ (3 : Int32) then (if p1 = 0 then (if p2 = (-1 : Int32) then (if p1 ≤ 0 then (if (gI (sI (sI u r 1 (0 : Int32)) r 0 (0 : Int32)) r 7) = (80 : Int32) then bd (f_X8_refuse r (7 : Int32) (sI (sI u r 1 (0 : Int32)) r 0 (0 : Int32))) (fun w160 => some (w160.1, w160.2)) else bb ((gI (sI (sI u r 1 (0 : Int32)) r 0 (0 : Int32)) r 7)) (fun v129 => bb (gR (sI (sI u r 1 (0 : Int32)) r 0 (0 : Int32)) r 8) (fun x130 => cs x130 none (fun k131 => gd (okA (sI (sI u r 1 (0 : Int32)) r 0 (0 : Int32)) k131 9 v129) (bb (gR (sI (sI (sI u r 1 (0 : Int32)) r 0 (0 : Int32)) k131 (Int32.toNatClampNeg v129) p1) r 9) (fun x133 => cs x133 none (fun k134 => gd (okA (sI (sI (sI u r 1 (0 : Int32)) r 0 (0 : Int32)) k131 (Int32.toNatClampNeg v129) p1) k134 9 v129) (bb (gR (sI (sI (sI (sI u r 1 (0 : Int32)) r 0 (0 : Int32)) k131 (Int32.toNatClampNeg v129) p1) k134 (Int32.toNatClampNeg v129) p2) r 10) (fun x136 => cs x136 none (fun k137 => gd (okA (sI (sI (sI (sI u r 1 (0 : Int32)) r 0 (0 : Int32)) k131 (Int32.toNatClampNeg v129) p1) k134 (Int32.toNatClampNeg v129) p2) k137 9 v129) (bb (gR (sI (sI (sI (sI (sI u r 1 (0 : Int32)) r 0 (0 : Int32)) k131 (Int32.toNatClampNeg v129) p1) k134 (Int32.toNatClampNeg v129) p2) k137 (Int32.toNatClampNeg v129) (-1 : Int32)) r 11) (fun x139 => cs x139 none (fun k140 => gd (okA (sI (sI (sI (sI (sI u r 1 (0 : Int32)) r 0 (0 : Int32)) k131 (Int32.toNatClampNeg v129) p1) k134 (Int32.toNatClampNeg v129) p2) k137 (Int32.toNatClampNeg v129) (-1 : Int32)) k140 9 v129) (L_X8_thing_141 r p1 p2 v129  (fun a142 u143 => gd (okO u143 r 8) (bb (gR u143 r 13) (fun x145 => cs x145 none (fun k146 => gd (okA u143 k146 9 v129) (bb (gR (sI u143 k146 (Int32.toNatClampNeg v129) (-1 : Int32)) r 15) (fun x148 => cs x148 none (fun k149 => gd (okA (sI u143 k146 (Int32.toNatClampNeg v129) (-1 : Int32)) k149 9 v129) (bb (gR (sI (sI u143 k146 (Int32.toNatClampNeg v129) (-1 : Int32)) k149 (Int32.toNatClampNeg v129) (-1 : Int32)) r 17) (fun x151 => cs x151 none (fun k152 => gd (okA (sI (sI u143 k146 (Int32.toNatClampNeg v129) (-1 : Int32)) k149 (Int32.toNatClampNeg v129) (-1 : Int32)) k152 9 v129) (bb (gR (sI (sI (sI u143 k146 (Int32.toNatClampNeg v129) (-1 : Int32)) k149 (Int32.toNatClampNeg v129) (-1 : Int32)) k152 (Int32.toNatClampNeg v129) (-1 : Int32)) r 18) (fun x154 => cs x154 none (fun k155 => gd (okA (sI (sI (sI u143 k146 (Int32.toNatClampNeg v129) (-1 : Int32)) k149 (Int32.toNatClampNeg v129) (-1 : Int32)) k152 (Int32.toNatClampNeg v129) (-1 : Int32)) k155 9 v129) (bb (gR (sI (sI (sI (sI u143 k146 (Int32.toNatClampNeg v129) (-1 : Int32)) k149 (Int32.toNatClampNeg v129) (-1 : Int32)) k152 (Int32.toNatClampNeg v129) (-1 : Int32)) k155 (Int32.toNatClampNeg v129) (-1 : Int32)) r 19) (fun x157 => cs x157 none (fun k158 => gd (okA (sI (sI (sI (sI u143 k146 (Int32.toNatClampNeg v129) (-1 : Int32)) k149 (Int32.toNatClampNeg v129) (-1 : Int32)) k152 (Int32.toNatClampNeg v129) (-1 : Int32)) k155 (Int32.toNatClampNeg v129) (-1 : Int32)) k158 9 v129) (some (v129, (sI (sI (sI (sI (sI (sI u143 k146 (Int32.toNatClampNeg v129) (-1 : Int32)) k149 (Int32.toNatClampNeg v129) (-1 : Int32)) k152 (Int32.toNatClampNeg v129) (-1 : Int32)) k155 (Int32.toNatClampNeg v129) (-1 : Int32)) k158 (Int32.toNatClampNeg v129) (-1 : Int32)) r 7 ((gI (sI (sI (sI (sI (sI u143 k146 (Int32.toNatClampNeg v129) (-1 : Int32)) k149 (Int32.toNatClampNeg v129) (-1 : Int32)) k152 (Int32.toNatClampNeg v129) (-1 : Int32)) k155 (Int32.toNatClampNeg v129) (-1 : Int32)) k158 (Int32.toNatClampNeg v129) (-1 : Int32)) r 7) + (1 : Int32))))))))))))))))))))) 1000 (0 : Int32) (sI (sI (sI (sI (sI (sI u r 1 (0 : Int32)) r 0 (0 : Int32)) k131 (Int32.toNatClampNeg v129) p1) k134 (Int32.toNatClampNeg v129) p2) k137 (Int32.toNatClampNeg v129) (-1 : Int32)) k140 (Int32.toNatClampNeg v129) v129))))))))))))))) else bb (gR (sI (sI u r 1 (0 : Int32)) r 0 (0 : Int32)) r 8) (fun x161 => cs x161 none (fun k162 => gd (okA (sI (sI u r 1 (0 : Int32)) r 0 (0 : Int32)) k162 9 p2) ((if (gI (sI (sI u r 1 (0 : Int32)) r 0 (0 : Int32)) k162 (Int32.toNatClampNeg p2)) = (p1 - (1 : Int32)) then (if (gI (sI (sI u r 1 (0 : Int32)) r 0 (0 : Int32)) r 7) = (80 : Int32) then bd (f_X8_refuse r (7 : Int32) (sI (sI u r 1 (0 : Int32)) r 0 (0 : Int32))) (fun w197 => some (w197.1, w197.2)) else bb ((gI (sI (sI u r 1 (0 : Int32)) r 0 (0 : Int32)) r 7)) (fun v166 => bb (gR (sI (sI u r 1 (0 : Int32)) r 0 (0 : Int32)) r 8) (fun x167 => cs x167 none (fun k168 => gd (okA (sI (sI u r 1 (0 : Int32)) r 0 (0 : Int32)) k168 9 v166) (bb (gR (sI (sI (sI u r 1 (0 : Int32)) r 0 (0 : Int32)) k168 (Int32.toNatClampNeg v166) p1) r 9) (fun x170 => cs x170 none (fun k171 => gd (okA (sI (sI (sI u r 1 (0 : Int32)) r 0 (0 : Int32)) k168 (Int32.toNatClampNeg v166) p1) k171 9 v166) (bb (gR (sI (sI (sI (sI u r 1 (0 : Int32)) r 0 (0 : Int32)) k168 (Int32.toNatClampNeg v166) p1) k171 (Int32.toNatClampNeg v166) p2) r 10) (fun x173 => cs x173 none (fun k174 => gd (okA (sI (sI (sI (sI u r 1 (0 : Int32)) r 0 (0 : Int32)) k168 (Int32.toNatClampNeg v166) p1) k171 (Int32.toNatClampNeg v166) p2) k174 9 v166) (bb (gR (sI (sI (sI (sI (sI u r 1 (0 : Int32)) r 0 (0 : Int32)) k168 (Int32.toNatClampNeg v166) p1) k171 (Int32.toNatClampNeg v166) p2) k174 (Int32.toNatClampNeg v166) (-1 : Int32)) r 11) (fun x176 => cs x176 none (fun k177 => gd (okA (sI (sI (sI (sI (sI u r 1 (0 : Int32)) r 0 (0 : Int32)) k168 (Int32.toNatClampNeg v166) p1) k171 (Int32.toNatClampNeg v166) p2) k174 (Int32.toNatClampNeg v166) (-1 : Int32)) k177 9 v166) (L_X8_thing_141 r p1 p2 v166  (fun a179 u180 => gd (okO u180 r 8) (bb (gR u180 r 13) (fun x182 => cs x182 none (fun k183 => gd (okA u180 k183 9 v166) (bb (gR (sI u180 k183 (Int32.toNatClampNeg v166) (-1 : Int32)) r 15) (fun x185 => cs x185 none (fun k186 => gd (okA (sI u180 k183 (Int32.toNatClampNeg v166) (-1 : Int32)) k186 9 v166) (bb (gR (sI (sI u180 k183 (Int32.toNatClampNeg v166) (-1 : Int32)) k186 (Int32.toNatClampNeg v166) (-1 : Int32)) r 17) (fun x188 => cs x188 none (fun k189 => gd (okA (sI (sI u180 k183 (Int32.toNatClampNeg v166) (-1 : Int32)) k186 (Int32.toNatClampNeg v166) (-1 : Int32)) k189 9 v166) (bb (gR (sI (sI (sI u180 k183 (Int32.toNatClampNeg v166) (-1 : Int32)) k186 (Int32.toNatClampNeg v166) (-1 : Int32)) k189 (Int32.toNatClampNeg v166) (-1 : Int32)) r 18) (fun x191 => cs x191 none (fun k192 => gd (okA (sI (sI (sI u180 k183 (Int32.toNatClampNeg v166) (-1 : Int32)) k186 (Int32.toNatClampNeg v166) (-1 : Int32)) k189 (Int32.toNatClampNeg v166) (-1 : Int32)) k192 9 v166) (bb (gR (sI (sI (sI (sI u180 k183 (Int32.toNatClampNeg v166) (-1 : Int32)) k186 (Int32.toNatClampNeg v166) (-1 : Int32)) k189 (Int32.toNatClampNeg v166) (-1 : Int32)) k192 (Int32.toNatClampNeg v166) (-1 : Int32)) r 19) (fun x194 => cs x194 none (fun k195 => gd (okA (sI (sI (sI (sI u180 k183 (Int32.toNatClampNeg v166) (-1 : Int32)) k186 (Int32.toNatClampNeg v166) (-1 : Int32)) k189 (Int32.toNatClampNeg v166) (-1 : Int32)) k192 (Int32.toNatClampNeg v166) (-1 : Int32)) k195 9 v166) (some (v166, (sI (sI (sI (sI (sI (sI u180 k183 (Int32.toNatClampNeg v166) (-1 : Int32)) k186 (Int32.toNatClampNeg v166) (-1 : Int32)) k189 (Int32.toNatClampNeg v166) (-1 : Int32)) k192 (Int32.toNatClampNeg v166) (-1 : Int32)) k195 (Int32.toNatClampNeg v166) (-1 : Int32)) r 7 ((gI (sI (sI (sI (sI (sI u180 k183 (Int32.toNatClampNeg v166) (-1 : Int32)) k186 (Int32.toNatClampNeg v166) (-1 : Int32)) k189 (Int32.toNatClampNeg v166) (-1 : Int32)) k192 (Int32.toNatClampNeg v166) (-1 : Int32)) k195 (Int32.toNatClampNeg v166) (-1 : Int32)) r 7) + (1 : Int32))))))))))))))))))))) 1000 (0 : Int32) (sI (sI (sI (sI (sI (sI u r 1 (0 : Int32)) r 0 (0 : Int32)) k168 (Int32.toNatClampNeg v166) p1) k171 (Int32.toNatClampNeg v166) p2) k174 (Int32.toNatClampNeg v166) (-1 : Int32)) k177 (Int32.toNatClampNeg v166) v166))))))))))))))) else (if p1 = (3 : Int32) then bb (gR (sI (sI u r 1 (0 : Int32)) r 0 (0 : Int32)) r 8) (fun x200 => cs x200 none (fun k201 => gd (okA (sI (sI u r 1 (0 : Int32)) r 0 (0 : Int32)) k201 9 p2) ((if (gI (sI (sI u r 1 (0 : Int32)) r 0 (0 : Int32)) k201 (Int32.toNatClampNeg p2)) = (1 : Int32) then (if (gI (sI (sI u r 1 (0 : Int32)) r 0 (0 : Int32)) r 7) = (80 : Int32) then bd (f_X8_refuse r (7 : Int32) (sI (sI u r 1 (0 : Int32)) r 0 (0 : Int32))) (fun w236 => some (w236.1, w236.2)) else bb ((gI (sI (sI u r 1 (0 : Int32)) r 0 (0 : Int32)) r 7)) (fun v205 => bb (gR (sI (sI u r 1 (0 : Int32)) r 0 (0 : Int32)) r 8) (fun x206 => cs x206 none (fun k207 => gd (okA (sI (sI u r 1 (0 : Int32)) r 0 (0 : Int32)) k207 9 v205) (bb (gR (sI (sI (sI u r 1 (0 : Int32)) r 0 (0 : Int32)) k207 (Int32.toNatClampNeg v205) p1) r 9) (fun x209 => cs x209 none (fun k210 => gd (okA (sI (sI (sI u r 1 (0 : Int32)) r 0 (0 : Int32)) k207 (Int32.toNatClampNeg v205) p1) k210 9 v205) (bb (gR (sI (sI (sI (sI u r 1 (0 : Int32)) r 0 (0 : Int32)) k207 (Int32.toNatClampNeg v205) p1) k210 (Int32.toNatClampNeg v205) p2) r 10) (fun x212 => cs x212 none (fun k213 => gd (okA (sI (sI (sI (sI u r 1 (0 : Int32)) r 0 (0 : Int32)) k207 (Int32.toNatClampNeg v205) p1) k210 (Int32.toNatClampNeg v205) p2) k213 9 v205) (bb (gR (sI (sI (sI (sI (sI u r 1 (0 : Int32)) r 0 (0 : Int32)) k207 (Int32.toNatClampNeg v205) p1) k210 (Int32.toNatClampNeg v205) p2) k213 (Int32.toNatClampNeg v205) (-1 : Int32)) r 11) (fun x215 => cs x215 none (fun k216 => gd (okA (sI (sI (sI (sI (sI u r 1 (0 : Int32)) r 0 (0 : Int32)) k207 (Int32.toNatClampNeg v205) p1) k210 (Int32.toNatClampNeg v205) p2) k213 (Int32.toNatClampNeg v205) (-1 : Int32)) k216 9 v205) (L_X8_thing_141 r p1 p2 v205  (fun a218 u219 => gd (okO u219 r 8) (bb (gR u219 r 13) (fun x221 => cs x221 none (fun k222 => gd (okA u219 k222 9 v205) (bb (gR (sI u219 k222 (Int32.toNatClampNeg v205) (-1 : Int32)) r 15) (fun x224 => cs x224 none (fun k225 => gd (okA (sI u219 k222 (Int32.toNatClampNeg v205) (-1 : Int32)) k225 9 v205) (bb (gR (sI (sI u219 k222 (Int32.toNatClampNeg v205) (-1 : Int32)) k225 (Int32.toNatClampNeg v205) (-1 : Int32)) r 17) (fun x227 => cs x227 none (fun k228 => gd (okA (sI (sI u219 k222 (Int32.toNatClampNeg v205) (-1 : Int32)) k225 (Int32.toNatClampNeg v205) (-1 : Int32)) k228 9 v205) (bb (gR (sI (sI (sI u219 k222 (Int32.toNatClampNeg v205) (-1 : Int32)) k225 (Int32.toNatClampNeg v205) (-1 : Int32)) k228 (Int32.toNatClampNeg v205) (-1 : Int32)) r 18) (fun x230 => cs x230 none (fun k231 => gd (okA (sI (sI (sI u219 k222 (Int32.toNatClampNeg v205) (-1 : Int32)) k225 (Int32.toNatClampNeg v205) (-1 : Int32)) k228 (Int32.toNatClampNeg v205) (-1 : Int32)) k231 9 v205) (bb (gR (sI (sI (sI (sI u219 k222 (Int32.toNatClampNeg v205) (-1 : Int32)) k225 (Int32.toNatClampNeg v205) (-1 : Int32)) k228 (Int32.toNatClampNeg v205) (-1 : Int32)) k231 (Int32.toNatClampNeg v205) (-1 : Int32)) r 19) (fun x233 => cs x233 none (fun k234 => gd (okA (sI (sI (sI (sI u219 k222 (Int32.toNatClampNeg v205) (-1 : Int32)) k225 (Int32.toNatClampNeg v205) (-1 : Int32)) k228 (Int32.toNatClampNeg v205) (-1 : Int32)) k231 (Int32.toNatClampNeg v205) (-1 : Int32)) k234 9 v205) (some (v205, (sI (sI (sI (sI (sI (sI u219 k222 (Int32.toNatClampNeg v205) (-1 : Int32)) k225 (Int32.toNatClampNeg v205) (-1 : Int32)) k228 (Int32.toNatClampNeg v205) (-1 : Int32)) k231 (Int32.toNatClampNeg v205) (-1 : Int32)) k234 (Int32.toNatClampNeg v205) (-1 : Int32)) r 7 ((gI (sI (sI (sI (sI (sI u219 k222 (Int32.toNatClampNeg v205) (-1 : Int32)) k225 (Int32.toNatClampNeg v205) (-1 : Int32)) k228 (Int32.toNatClampNeg v205) (-1 : Int32)) k231 (Int32.toNatClampNeg v205) (-1 : Int32)) k234 (Int32.toNatClampNeg v205) (-1 : Int32)) r 7) + (1 : Int32))))))))))))))))))))) 1000 (0 : Int32) (sI (sI (sI (sI (sI (sI u r 1 (0 : Int32)) r 0 (0 : Int32)) k207 (Int32.toNatClampNeg v205) p1) k210 (Int32.toNatClampNeg v205) p2) k213 (Int32.toNatClampNeg v205) (-1 : Int32)) k216 (Int32.toNatClampNeg v205) v205))))))))))))))) else bd (f_X8_refuse r (8 : Int32) (sI (sI u r 1 (0 : Int32)) r 0 (0 : Int32))) (fun w237 => some (w237.1, w237.2)))))) else bd (f_X8_refuse r (8 : Int32) (sI (sI u r 1 (0 : Int32)) r 0 (0 : Int32))) (fun w199 => some (w199.1, w199.2)))))))) else bd (f_X8_refuse r (2 : Int32) (sI (sI u r 1 (0 : Int32)) r 0 (0 : Int32))) (fun w238 => some (w238.1, w238.2))) else bd (f_X8_isThing r p2 (sI (sI u r 1 (0 : Int32)) r 0 (0 : Int32))) (fun w6 => (if w6 = 0 then bd (f_X8_refuse r (2 : Int32) (sI (sI u r 1 (0 : Int32)) r 0 (0 : Int32))) (fun w125 => some (w125.1, w125.2)) else (if p1 ≤ 0 then (if (gI (sI (sI u r 1 (0 : Int32)) r 0 (0 : Int32)) r 7) = (80 : Int32) then bd (f_X8_refuse r (7 : Int32) (sI (sI u r 1 (0 : Int32)) r 0 (0 : Int32))) (fun w47 => some (w47.1, w47.2)) else bb ((gI (sI (sI u r 1 (0 : Int32)) r 0 (0 : Int32)) r 7)) (fun v10 => bb (gR (sI (sI u r 1 (0 : Int32)) r 0 (0 : Int32)) r 8) (fun x11 => cs x11 none (fun k12 => gd (okA (sI (sI u r 1 (0 : Int32)) r 0 (0 : Int32)) k12 9 v10) (bb (gR (sI (sI (sI u r 1 (0 : Int32)) r 0 (0 : Int32)) k12 (Int32.toNatClampNeg v10) p1) r 9) (fun x14 => cs x14 none (fun k15 => gd (okA (sI (sI (sI u r 1 (0 : Int32)) r 0 (0 : Int32)) k12 (Int32.toNatClampNeg v10) p1) k15 9 v10) (bb (gR (sI (sI (sI (sI u r 1 (0 : Int32)) r 0 (0 : Int32)) k12 (Int32.toNatClampNeg v10) p1) k15 (Int32.toNatClampNeg v10) p2) r 10) (fun x17 => cs x17 none (fun k18 => gd (okA (sI (sI (sI (sI u r 1 (0 : Int32)) r 0 (0 : Int32)) k12 (Int32.toNatClampNeg v10) p1) k15 (Int32.toNatClampNeg v10) p2) k18 9 v10) (bb (gR (sI (sI (sI (sI (sI u r 1 (0 : Int32)) r 0 (0 : Int32)) k12 (Int32.toNatClampNeg v10) p1) k15 (Int32.toNatClampNeg v10) p2) k18 (Int32.toNatClampNeg v10) (-1 : Int32)) r 11) (fun x20 => cs x20 none (fun k21 => gd (okA (sI (sI (sI (sI (sI u r 1 (0 : Int32)) r 0 (0 : Int32)) k12 (Int32.toNatClampNeg v10) p1) k15 (Int32.toNatClampNeg v10) p2) k18 (Int32.toNatClampNeg v10) (-1 : Int32)) k21 9 v10) (L_X8_thing_141 r p1 p2 v10  (fun a29 u30 => gd (okO u30 r 8) (bb (gR u30 r 13) (fun x32 => cs x32 none (fun k33 => gd (okA u30 k33 9 v10) (bb (gR (sI u30 k33 (Int32.toNatClampNeg v10) (-1 : Int32)) r 15) (fun x35 => cs x35 none (fun k36 => gd (okA (sI u30 k33 (Int32.toNatClampNeg v10) (-1 : Int32)) k36 9 v10) (bb (gR (sI (sI u30 k33 (Int32.toNatClampNeg v10) (-1 : Int32)) k36 (Int32.toNatClampNeg v10) (-1 : Int32)) r 17) (fun x38 => cs x38 none (fun k39 => gd (okA (sI (sI u30 k33 (Int32.toNatClampNeg v10) (-1 : Int32)) k36 (Int32.toNatClampNeg v10) (-1 : Int32)) k39 9 v10) (bb (gR (sI (sI (sI u30 k33 (Int32.toNatClampNeg v10) (-1 : Int32)) k36 (Int32.toNatClampNeg v10) (-1 : Int32)) k39 (Int32.toNatClampNeg v10) (-1 : Int32)) r 18) (fun x41 => cs x41 none (fun k42 => gd (okA (sI (sI (sI u30 k33 (Int32.toNatClampNeg v10) (-1 : Int32)) k36 (Int32.toNatClampNeg v10) (-1 : Int32)) k39 (Int32.toNatClampNeg v10) (-1 : Int32)) k42 9 v10) (bb (gR (sI (sI (sI (sI u30 k33 (Int32.toNatClampNeg v10) (-1 : Int32)) k36 (Int32.toNatClampNeg v10) (-1 : Int32)) k39 (Int32.toNatClampNeg v10) (-1 : Int32)) k42 (Int32.toNatClampNeg v10) (-1 : Int32)) r 19) (fun x44 => cs x44 none (fun k45 => gd (okA (sI (sI (sI (sI u30 k33 (Int32.toNatClampNeg v10) (-1 : Int32)) k36 (Int32.toNatClampNeg v10) (-1 : Int32)) k39 (Int32.toNatClampNeg v10) (-1 : Int32)) k42 (Int32.toNatClampNeg v10) (-1 : Int32)) k45 9 v10) (some (v10, (sI (sI (sI (sI (sI (sI u30 k33 (Int32.toNatClampNeg v10) (-1 : Int32)) k36 (Int32.toNatClampNeg v10) (-1 : Int32)) k39 (Int32.toNatClampNeg v10) (-1 : Int32)) k42 (Int32.toNatClampNeg v10) (-1 : Int32)) k45 (Int32.toNatClampNeg v10) (-1 : Int32)) r 7 ((gI (sI (sI (sI (sI (sI u30 k33 (Int32.toNatClampNeg v10) (-1 : Int32)) k36 (Int32.toNatClampNeg v10) (-1 : Int32)) k39 (Int32.toNatClampNeg v10) (-1 : Int32)) k42 (Int32.toNatClampNeg v10) (-1 : Int32)) k45 (Int32.toNatClampNeg v10) (-1 : Int32)) r 7) + (1 : Int32))))))))))))))))))))) 1000 (0 : Int32) (sI (sI (sI (sI (sI (sI u r 1 (0 : Int32)) r 0 (0 : Int32)) k12 (Int32.toNatClampNeg v10) p1) k15 (Int32.toNatClampNeg v10) p2) k18 (Int32.toNatClampNeg v10) (-1 : Int32)) k21 (Int32.toNatClampNeg v10) v10))))))))))))))) else bb (gR (sI (sI u r 1 (0 : Int32)) r 0 (0 : Int32)) r 8) (fun x48 => cs x48 none (fun k49 => gd (okA (sI (sI u r 1 (0 : Int32)) r 0 (0 : Int32)) k49 9 p2) ((if (gI (sI (sI u r 1 (0 : Int32)) r 0 (0 : Int32)) k49 (Int32.toNatClampNeg p2)) = (p1 - (1 : Int32)) then (if (gI (sI (sI u r 1 (0 : Int32)) r 0 (0 : Int32)) r 7) = (80 : Int32) then bd (f_X8_refuse r (7 : Int32) (sI (sI u r 1 (0 : Int32)) r 0 (0 : Int32))) (fun w84 => some (w84.1, w84.2)) else bb ((gI (sI (sI u r 1 (0 : Int32)) r 0 (0 : Int32)) r 7)) (fun v53 => bb (gR (sI (sI u r 1 (0 : Int32)) r 0 (0 : Int32)) r 8) (fun x54 => cs x54 none (fun k55 => gd (okA (sI (sI u r 1 (0 : Int32)) r 0 (0 : Int32)) k55 9 v53) (bb (gR (sI (sI (sI u r 1 (0 : Int32)) r 0 (0 : Int32)) k55 (Int32.toNatClampNeg v53) p1) r 9) (fun x57 => cs x57 none (fun k58 => gd (okA (sI (sI (sI u r 1 (0 : Int32)) r 0 (0 : Int32)) k55 (Int32.toNatClampNeg v53) p1) k58 9 v53) (bb (gR (sI (sI (sI (sI u r 1 (0 : Int32)) r 0 (0 : Int32)) k55 (Int32.toNatClampNeg v53) p1) k58 (Int32.toNatClampNeg v53) p2) r 10) (fun x60 => cs x60 none (fun k61 => gd (okA (sI (sI (sI (sI u r 1 (0 : Int32)) r 0 (0 : Int32)) k55 (Int32.toNatClampNeg v53) p1) k58 (Int32.toNatClampNeg v53) p2) k61 9 v53) (bb (gR (sI (sI (sI (sI (sI u r 1 (0 : Int32)) r 0 (0 : Int32)) k55 (Int32.toNatClampNeg v53) p1) k58 (Int32.toNatClampNeg v53) p2) k61 (Int32.toNatClampNeg v53) (-1 : Int32)) r 11) (fun x63 => cs x63 none (fun k64 => gd (okA (sI (sI (sI (sI (sI u r 1 (0 : Int32)) r 0 (0 : Int32)) k55 (Int32.toNatClampNeg v53) p1) k58 (Int32.toNatClampNeg v53) p2) k61 (Int32.toNatClampNeg v53) (-1 : Int32)) k64 9 v53) (L_X8_thing_141 r p1 p2 v53  (fun a66 u67 => gd (okO u67 r 8) (bb (gR u67 r 13) (fun x69 => cs x69 none (fun k70 => gd (okA u67 k70 9 v53) (bb (gR (sI u67 k70 (Int32.toNatClampNeg v53) (-1 : Int32)) r 15) (fun x72 => cs x72 none (fun k73 => gd (okA (sI u67 k70 (Int32.toNatClampNeg v53) (-1 : Int32)) k73 9 v53) (bb (gR (sI (sI u67 k70 (Int32.toNatClampNeg v53) (-1 : Int32)) k73 (Int32.toNatClampNeg v53) (-1 : Int32)) r 17) (fun x75 => cs x75 none (fun k76 => gd (okA (sI (sI u67 k70 (Int32.toNatClampNeg v53) (-1 : Int32)) k73 (Int32.toNatClampNeg v53) (-1 : Int32)) k76 9 v53) (bb (gR (sI (sI (sI u67 k70 (Int32.toNatClampNeg v53) (-1 : Int32)) k73 (Int32.toNatClampNeg v53) (-1 : Int32)) k76 (Int32.toNatClampNeg v53) (-1 : Int32)) r 18) (fun x78 => cs x78 none (fun k79 => gd (okA (sI (sI (sI u67 k70 (Int32.toNatClampNeg v53) (-1 : Int32)) k73 (Int32.toNatClampNeg v53) (-1 : Int32)) k76 (Int32.toNatClampNeg v53) (-1 : Int32)) k79 9 v53) (bb (gR (sI (sI (sI (sI u67 k70 (Int32.toNatClampNeg v53) (-1 : Int32)) k73 (Int32.toNatClampNeg v53) (-1 : Int32)) k76 (Int32.toNatClampNeg v53) (-1 : Int32)) k79 (Int32.toNatClampNeg v53) (-1 : Int32)) r 19) (fun x81 => cs x81 none (fun k82 => gd (okA (sI (sI (sI (sI u67 k70 (Int32.toNatClampNeg v53) (-1 : Int32)) k73 (Int32.toNatClampNeg v53) (-1 : Int32)) k76 (Int32.toNatClampNeg v53) (-1 : Int32)) k79 (Int32.toNatClampNeg v53) (-1 : Int32)) k82 9 v53) (some (v53, (sI (sI (sI (sI (sI (sI u67 k70 (Int32.toNatClampNeg v53) (-1 : Int32)) k73 (Int32.toNatClampNeg v53) (-1 : Int32)) k76 (Int32.toNatClampNeg v53) (-1 : Int32)) k79 (Int32.toNatClampNeg v53) (-1 : Int32)) k82 (Int32.toNatClampNeg v53) (-1 : Int32)) r 7 ((gI (sI (sI (sI (sI (sI u67 k70 (Int32.toNatClampNeg v53) (-1 : Int32)) k73 (Int32.toNatClampNeg v53) (-1 : Int32)) k76 (Int32.toNatClampNeg v53) (-1 : Int32)) k79 (Int32.toNatClampNeg v53) (-1 : Int32)) k82 (Int32.toNatClampNeg v53) (-1 : Int32)) r 7) + (1 : Int32))))))))))))))))))))) 1000 (0 : Int32) (sI (sI (sI (sI (sI (sI u r 1 (0 : Int32)) r 0 (0 : Int32)) k55 (Int32.toNatClampNeg v53) p1) k58 (Int32.toNatClampNeg v53) p2) k61 (Int32.toNatClampNeg v53) (-1 : Int32)) k64 (Int32.toNatClampNeg v53) v53))))))))))))))) else (if p1 = (3 : Int32) then bb (gR (sI (sI u r 1 (0 : Int32)) r 0 (0 : Int32)) r 8) (fun x87 => cs x87 none (fun k88 => gd (okA (sI (sI u r 1 (0 : Int32)) r 0 (0 : Int32)) k88 9 p2) ((if (gI (sI (sI u r 1 (0 : Int32)) r 0 (0 : Int32)) k88 (Int32.toNatClampNeg p2)) = (1 : Int32) then (if (gI (sI (sI u r 1 (0 : Int32)) r 0 (0 : Int32)) r 7) = (80 : Int32) then bd (f_X8_refuse r (7 : Int32) (sI (sI u r 1 (0 : Int32)) r 0 (0 : Int32))) (fun w123 => some (w123.1, w123.2)) else bb ((gI (sI (sI u r 1 (0 : Int32)) r 0 (0 : Int32)) r 7)) (fun v92 => bb (gR (sI (sI u r 1 (0 : Int32)) r 0 (0 : Int32)) r 8) (fun x93 => cs x93 none (fun k94 => gd (okA (sI (sI u r 1 (0 : Int32)) r 0 (0 : Int32)) k94 9 v92) (bb (gR (sI (sI (sI u r 1 (0 : Int32)) r 0 (0 : Int32)) k94 (Int32.toNatClampNeg v92) p1) r 9) (fun x96 => cs x96 none (fun k97 => gd (okA (sI (sI (sI u r 1 (0 : Int32)) r 0 (0 : Int32)) k94 (Int32.toNatClampNeg v92) p1) k97 9 v92) (bb (gR (sI (sI (sI (sI u r 1 (0 : Int32)) r 0 (0 : Int32)) k94 (Int32.toNatClampNeg v92) p1) k97 (Int32.toNatClampNeg v92) p2) r 10) (fun x99 => cs x99 none (fun k100 => gd (okA (sI (sI (sI (sI u r 1 (0 : Int32)) r 0 (0 : Int32)) k94 (Int32.toNatClampNeg v92) p1) k97 (Int32.toNatClampNeg v92) p2) k100 9 v92) (bb (gR (sI (sI (sI (sI (sI u r 1 (0 : Int32)) r 0 (0 : Int32)) k94 (Int32.toNatClampNeg v92) p1) k97 (Int32.toNatClampNeg v92) p2) k100 (Int32.toNatClampNeg v92) (-1 : Int32)) r 11) (fun x102 => cs x102 none (fun k103 => gd (okA (sI (sI (sI (sI (sI u r 1 (0 : Int32)) r 0 (0 : Int32)) k94 (Int32.toNatClampNeg v92) p1) k97 (Int32.toNatClampNeg v92) p2) k100 (Int32.toNatClampNeg v92) (-1 : Int32)) k103 9 v92) (L_X8_thing_141 r p1 p2 v92  (fun a105 u106 => gd (okO u106 r 8) (bb (gR u106 r 13) (fun x108 => cs x108 none (fun k109 => gd (okA u106 k109 9 v92) (bb (gR (sI u106 k109 (Int32.toNatClampNeg v92) (-1 : Int32)) r 15) (fun x111 => cs x111 none (fun k112 => gd (okA (sI u106 k109 (Int32.toNatClampNeg v92) (-1 : Int32)) k112 9 v92) (bb (gR (sI (sI u106 k109 (Int32.toNatClampNeg v92) (-1 : Int32)) k112 (Int32.toNatClampNeg v92) (-1 : Int32)) r 17) (fun x114 => cs x114 none (fun k115 => gd (okA (sI (sI u106 k109 (Int32.toNatClampNeg v92) (-1 : Int32)) k112 (Int32.toNatClampNeg v92) (-1 : Int32)) k115 9 v92) (bb (gR (sI (sI (sI u106 k109 (Int32.toNatClampNeg v92) (-1 : Int32)) k112 (Int32.toNatClampNeg v92) (-1 : Int32)) k115 (Int32.toNatClampNeg v92) (-1 : Int32)) r 18) (fun x117 => cs x117 none (fun k118 => gd (okA (sI (sI (sI u106 k109 (Int32.toNatClampNeg v92) (-1 : Int32)) k112 (Int32.toNatClampNeg v92) (-1 : Int32)) k115 (Int32.toNatClampNeg v92) (-1 : Int32)) k118 9 v92) (bb (gR (sI (sI (sI (sI u106 k109 (Int32.toNatClampNeg v92) (-1 : Int32)) k112 (Int32.toNatClampNeg v92) (-1 : Int32)) k115 (Int32.toNatClampNeg v92) (-1 : Int32)) k118 (Int32.toNatClampNeg v92) (-1 : Int32)) r 19) (fun x120 => cs x120 none (fun k121 => gd (okA (sI (sI (sI (sI u106 k109 (Int32.toNatClampNeg v92) (-1 : Int32)) k112 (Int32.toNatClampNeg v92) (-1 : Int32)) k115 (Int32.toNatClampNeg v92) (-1 : Int32)) k118 (Int32.toNatClampNeg v92) (-1 : Int32)) k121 9 v92) (some (v92, (sI (sI (sI (sI (sI (sI u106 k109 (Int32.toNatClampNeg v92) (-1 : Int32)) k112 (Int32.toNatClampNeg v92) (-1 : Int32)) k115 (Int32.toNatClampNeg v92) (-1 : Int32)) k118 (Int32.toNatClampNeg v92) (-1 : Int32)) k121 (Int32.toNatClampNeg v92) (-1 : Int32)) r 7 ((gI (sI (sI (sI (sI (sI u106 k109 (Int32.toNatClampNeg v92) (-1 : Int32)) k112 (Int32.toNatClampNeg v92) (-1 : Int32)) k115 (Int32.toNatClampNeg v92) (-1 : Int32)) k118 (Int32.toNatClampNeg v92) (-1 : Int32)) k121 (Int32.toNatClampNeg v92) (-1 : Int32)) r 7) + (1 : Int32))))))))))))))))))))) 1000 (0 : Int32) (sI (sI (sI (sI (sI (sI u r 1 (0 : Int32)) r 0 (0 : Int32)) k94 (Int32.toNatClampNeg v92) p1) k97 (Int32.toNatClampNeg v92) p2) k100 (Int32.toNatClampNeg v92) (-1 : Int32)) k103 (Int32.toNatClampNeg v92) v92))))))))))))))) else bd (f_X8_refuse r (8 : Int32) (sI (sI u r 1 (0 : Int32)) r 0 (0 : Int32))) (fun w124 => some (w124.1, w124.2)))))) else bd (f_X8_refuse r (8 : Int32) (sI (sI u r 1 (0 : Int32)) r 0 (0 : Int32))) (fun w86 => some (w86.1, w86.2))))))))))) else bd (f_X8_refuse r (5 : Int32) (sI (sI u r 1 (0 : Int32)) r 0 (0 : Int32))) (fun w239 => some (w239.1, w239.2)))))
set_option maxHeartbeats 4000000 in
set_option maxRecDepth 100000 in
theorem c_X8_thing (l : Launch) (D : va_G) (cy : Nat → ClassId) (sz : Nat) (H0 : Heap) (u : Mm) (r : Nat) (p1 : Int32) (p2 : Int32) {res : (Int32) × Mm} (h : f_X8_thing r p1 p2 u = some res) : Ctr l yX8_thing cX8_thing 5 (some .int) rm_X8_thing 0 0 D cy sz H0 u [.ref (sz + r), .int p1, .int p2] (some (.int res.1)) res.2 := by
  refine m_start (lv := [(0, .ref (sz + r)), (1, .int p1), (2, .int p2)]) (by decide) (by first | exact Nat.le_of_ble_eq_true rfl | simp [lg_sl, rv_cat, cat_i, cat_l, cat_r, cat_n]) (by first | rfl | simp [lv_args, rv_cat, cat_i, cat_l, cat_r, cat_n]) ?_
  intro p e s m below meth c ls E hr hlk hinit hM hl
  obtain ⟨hx, hb, hml, hown, hts, hKK⟩ := id E
  obtain ⟨H, hH⟩ : ∃ H, H = s.heap := ⟨_, rfl⟩
  obtain ⟨locs, hlocs⟩ : ∃ L : List Loc, L = [] := ⟨_, rfl⟩
  rw [← hH, ← hlocs] at hM ⊢
  unfold f_X8_thing at h
  refine lv_aload_n hx hb dX8_thing_0 rfl (lv_at hl 0 rfl) ?_
  refine lv_iconst (v := 0) hx hb dX8_thing_1 (by decide) ?_
  obtain ⟨ok1, h⟩ := k_gd h
  refine ps_X8_93 (v := (0 : Int32)) E hM ok1 dX8_thing_2 (fun H locs hM => ?_)
  refine lv_aload_n hx hb dX8_thing_5 rfl (lv_at hl 0 rfl) ?_
  refine lv_iconst (v := 0) hx hb dX8_thing_6 (by decide) ?_
  refine ps_X8_97 (v := (0 : Int32)) E hM ok1 dX8_thing_7 (fun H locs hM => ?_)
  refine lv_iload_n hx hb dX8_thing_10 rfl (lv_at hl 1 rfl) ?_
  refine lv_if_lt (tgt := 19) hx hb dX8_thing_11 (by decide) (fun c2 => ?_) (fun c2 => ?_)
  · replace h := (k_if h).1 c2
    refine lv_aload_n hx hb dX8_thing_19 rfl (lv_at hl 0 rfl) ?_
    refine lv_iconst (v := 5) hx hb dX8_thing_20 (by decide) ?_
    obtain ⟨w3, hzw3, h⟩ := k_bd h
    refine m_callV (C := RX8) (T := TX8) (N := 33) (ci := 8) (n := 1) (As := [.int (5 : Int32)]) (rest := []) (st1 := (.int w3.1 :: [])) E hM hl.1 ok1 (by decide) rfl rfl (c_X8_refuse l D cy sz H0 (sI (sI u r 1 (0 : Int32)) r 0 (0 : Int32)) r (5 : Int32) hzw3) wl_X8_121 wm_X8_refuse ws_X8_refuse wi_X8 wd_X8_refuse rfl rfl (by decide +kernel) ⟨by decide, by decide⟩ rfl rfl (by first | exact Nat.le_of_ble_eq_true rfl | simp [rv_cat, cat_i, cat_l, cat_r, cat_n]) dX8_thing_21 ⟨by decide, by decide⟩ rfl (fun H locs hM => ?_)
    cases h
    exact m_iret hx hb hr hlk hM rfl rfl dX8_thing_24
  · replace h := (k_if h).2 c2
    refine lv_iload_n hx hb dX8_thing_14 rfl (lv_at hl 1 rfl) ?_
    refine lv_iconst (v := 3) hx hb dX8_thing_15 (by decide) ?_
    refine lv_icmp_le (tgt := 25) hx hb dX8_thing_16 (by decide) (fun c4 => ?_) (fun c4 => ?_)
    · replace h := (k_if h).1 c4
      refine lv_iload_n hx hb dX8_thing_25 rfl (lv_at hl 1 rfl) ?_
      refine lv_if_ne (tgt := 37) hx hb dX8_thing_26 (by decide) (fun c5 => ?_) (fun c5 => ?_)
      · replace h := (k_if h).2 c5
        refine lv_aload_n hx hb dX8_thing_37 rfl (lv_at hl 0 rfl) ?_
        refine lv_iload_n hx hb dX8_thing_38 rfl (lv_at hl 2 rfl) ?_
        obtain ⟨w6, hzw6, h⟩ := k_bd h
        refine m_callV (C := RX8) (T := TX8) (N := 33) (ci := 8) (n := 1) (As := [.int p2]) (rest := []) (st1 := (.int w6 :: [])) E hM hl.1 ok1 (by decide) rfl rfl (c_X8_isThing l D cy sz H0 (sI (sI u r 1 (0 : Int32)) r 0 (0 : Int32)) r p2 hzw6) wl_X8_124 wm_X8_isThing ws_X8_isThing wi_X8 wd_X8_isThing rfl rfl (by decide +kernel) ⟨by decide, by decide⟩ rfl rfl (by first | exact Nat.le_of_ble_eq_true rfl | simp [rv_cat, cat_i, cat_l, cat_r, cat_n]) dX8_thing_39 ⟨by decide, by decide⟩ rfl (fun H locs hM => ?_)
        refine lv_if_ne (tgt := 51) hx hb dX8_thing_42 (by decide) (fun c7 => ?_) (fun c7 => ?_)
        · replace h := (k_if h).2 c7
          refine lv_iload_n hx hb dX8_thing_51 rfl (lv_at hl 1 rfl) ?_
          refine lv_if_le (tgt := 89) hx hb dX8_thing_52 (by decide) (fun c8 => ?_) (fun c8 => ?_)
          · replace h := (k_if h).1 c8
            refine lv_aload_n hx hb dX8_thing_89 rfl (lv_at hl 0 rfl) ?_
            refine gs_X8_118 E hM ok1 dX8_thing_90 ?_
            refine lv_bipush (v := 80) hx hb dX8_thing_93 (by decide) ?_
            refine lv_icmp_ne (tgt := 105) hx hb dX8_thing_95 (by decide) (fun c9 => ?_) (fun c9 => ?_)
            · replace h := (k_if h).2 c9
              refine lv_aload_n hx hb dX8_thing_105 rfl (lv_at hl 0 rfl) ?_
              refine gs_X8_118 E hM ok1 dX8_thing_106 ?_
              refine lv_topi (fun v10 hvv10 => ?_)
              replace h := k_bb h v10 hvv10
              refine lv_istore_n (i := 3) (lv' := [(3, .int v10), (0, .ref (sz + r)), (1, .int p1), (2, .int p2)]) hx hb dX8_thing_109 rfl hl (by decide) (by first | rfl | simp [rv_cat, cat_i, cat_l, cat_r, cat_n]) (fun ls hl => ?_)
              refine lv_aload_n hx hb dX8_thing_110 rfl (lv_at hl 1 rfl) ?_
              refine gs_X8_24 E hM ok1 dX8_thing_111 (fun x11 hxx11 => ?_)
              replace h := k_bb h x11 hxx11.symm
              refine lv_iload_n hx hb dX8_thing_114 rfl (lv_at hl 0 rfl) ?_
              refine lv_iload_n hx hb dX8_thing_115 rfl (lv_at hl 2 rfl) ?_
              rcases x11 with _ | k12
              · cases h
              rw [cs_s] at h
              obtain ⟨ok13, h⟩ := k_gd h
              refine m_iast E hM ok13 dX8_thing_116 (fun H locs hM => ?_)
              refine lv_aload_n hx hb dX8_thing_117 rfl (lv_at hl 1 rfl) ?_
              refine gs_X8_27 E hM ok1 dX8_thing_118 (fun x14 hxx14 => ?_)
              replace h := k_bb h x14 hxx14.symm
              refine lv_iload_n hx hb dX8_thing_121 rfl (lv_at hl 0 rfl) ?_
              refine lv_iload_n hx hb dX8_thing_122 rfl (lv_at hl 3 rfl) ?_
              rcases x14 with _ | k15
              · cases h
              rw [cs_s] at h
              obtain ⟨ok16, h⟩ := k_gd h
              refine m_iast E hM ok16 dX8_thing_123 (fun H locs hM => ?_)
              refine lv_aload_n hx hb dX8_thing_124 rfl (lv_at hl 1 rfl) ?_
              refine gs_X8_30 E hM ok1 dX8_thing_125 (fun x17 hxx17 => ?_)
              replace h := k_bb h x17 hxx17.symm
              refine lv_iload_n hx hb dX8_thing_128 rfl (lv_at hl 0 rfl) ?_
              refine lv_iconst (v := (-1)) hx hb dX8_thing_129 (by decide) ?_
              rcases x17 with _ | k18
              · cases h
              rw [cs_s] at h
              obtain ⟨ok19, h⟩ := k_gd h
              refine m_iast E hM ok19 dX8_thing_130 (fun H locs hM => ?_)
              refine lv_aload_n hx hb dX8_thing_131 rfl (lv_at hl 1 rfl) ?_
              refine gs_X8_33 E hM ok1 dX8_thing_132 (fun x20 hxx20 => ?_)
              replace h := k_bb h x20 hxx20.symm
              refine lv_iload_n hx hb dX8_thing_135 rfl (lv_at hl 0 rfl) ?_
              refine lv_iload_n hx hb dX8_thing_136 rfl (lv_at hl 0 rfl) ?_
              rcases x20 with _ | k21
              · cases h
              rw [cs_s] at h
              obtain ⟨ok22, h⟩ := k_gd h
              refine m_iast E hM ok22 dX8_thing_137 (fun H locs hM => ?_)
              refine lv_iconst (v := 0) hx hb dX8_thing_138 (by decide) ?_
              refine lv_istore (i := 4) (lv' := [(4, .int (0 : Int32)), (3, .int v10), (0, .ref (sz + r)), (1, .int p1), (2, .int p2)]) hx hb dX8_thing_139 hl (by decide) (by first | rfl | simp [rv_cat, cat_i, cat_l, cat_r, cat_n]) (fun ls hl => ?_)
              refine lp_X8_thing_141 hr hlk  E 1000 (0 : Int32) (sI (sI (sI (sI (sI (sI u r 1 (0 : Int32)) r 0 (0 : Int32)) k12 (Int32.toNatClampNeg v10) p1) k15 (Int32.toNatClampNeg v10) p2) k18 (Int32.toNatClampNeg v10) (-1 : Int32)) k21 (Int32.toNatClampNeg v10) v10) H locs ls hM (lv_sub hl [2, 3, 4, 1, 0] rfl) h (fun a29 u30 H locs ls hM hl h => ?_)
              refine lv_aload_n hx hb dX8_thing_167 rfl (lv_at hl 0 rfl) ?_
              obtain ⟨ok31, h⟩ := k_gd h
              refine gs_X8_39 E hM ok31 dX8_thing_168 (fun x32 hxx32 => ?_)
              replace h := k_bb h x32 hxx32.symm
              refine lv_iload_n hx hb dX8_thing_171 rfl (lv_at hl 3 rfl) ?_
              refine lv_iconst (v := (-1)) hx hb dX8_thing_172 (by decide) ?_
              rcases x32 with _ | k33
              · cases h
              rw [cs_s] at h
              obtain ⟨ok34, h⟩ := k_gd h
              refine m_iast E hM ok34 dX8_thing_173 (fun H locs hM => ?_)
              refine lv_aload_n hx hb dX8_thing_174 rfl (lv_at hl 0 rfl) ?_
              refine gs_X8_45 E hM ok31 dX8_thing_175 (fun x35 hxx35 => ?_)
              replace h := k_bb h x35 hxx35.symm
              refine lv_iload_n hx hb dX8_thing_178 rfl (lv_at hl 3 rfl) ?_
              refine lv_iconst (v := (-1)) hx hb dX8_thing_179 (by decide) ?_
              rcases x35 with _ | k36
              · cases h
              rw [cs_s] at h
              obtain ⟨ok37, h⟩ := k_gd h
              refine m_iast E hM ok37 dX8_thing_180 (fun H locs hM => ?_)
              refine lv_aload_n hx hb dX8_thing_181 rfl (lv_at hl 0 rfl) ?_
              refine gs_X8_51 E hM ok31 dX8_thing_182 (fun x38 hxx38 => ?_)
              replace h := k_bb h x38 hxx38.symm
              refine lv_iload_n hx hb dX8_thing_185 rfl (lv_at hl 3 rfl) ?_
              refine lv_iconst (v := (-1)) hx hb dX8_thing_186 (by decide) ?_
              rcases x38 with _ | k39
              · cases h
              rw [cs_s] at h
              obtain ⟨ok40, h⟩ := k_gd h
              refine m_iast E hM ok40 dX8_thing_187 (fun H locs hM => ?_)
              refine lv_aload_n hx hb dX8_thing_188 rfl (lv_at hl 0 rfl) ?_
              refine gs_X8_54 E hM ok31 dX8_thing_189 (fun x41 hxx41 => ?_)
              replace h := k_bb h x41 hxx41.symm
              refine lv_iload_n hx hb dX8_thing_192 rfl (lv_at hl 3 rfl) ?_
              refine lv_iconst (v := (-1)) hx hb dX8_thing_193 (by decide) ?_
              rcases x41 with _ | k42
              · cases h
              rw [cs_s] at h
              obtain ⟨ok43, h⟩ := k_gd h
              refine m_iast E hM ok43 dX8_thing_194 (fun H locs hM => ?_)
              refine lv_aload_n hx hb dX8_thing_195 rfl (lv_at hl 0 rfl) ?_
              refine gs_X8_57 E hM ok31 dX8_thing_196 (fun x44 hxx44 => ?_)
              replace h := k_bb h x44 hxx44.symm
              refine lv_iload_n hx hb dX8_thing_199 rfl (lv_at hl 3 rfl) ?_
              refine lv_iconst (v := (-1)) hx hb dX8_thing_200 (by decide) ?_
              rcases x44 with _ | k45
              · cases h
              rw [cs_s] at h
              obtain ⟨ok46, h⟩ := k_gd h
              refine m_iast E hM ok46 dX8_thing_201 (fun H locs hM => ?_)
              refine lv_aload_n hx hb dX8_thing_202 rfl (lv_at hl 0 rfl) ?_
              refine lv_dup hx hb dX8_thing_203 rfl ?_
              refine gs_X8_118 E hM ok31 dX8_thing_204 ?_
              refine lv_iconst (v := 1) hx hb dX8_thing_207 (by decide) ?_
              refine lv_iadd hx hb dX8_thing_208 ?_
              refine ps_X8_118 (v := ((gI (sI (sI (sI (sI (sI u30 k33 (Int32.toNatClampNeg v10) (-1 : Int32)) k36 (Int32.toNatClampNeg v10) (-1 : Int32)) k39 (Int32.toNatClampNeg v10) (-1 : Int32)) k42 (Int32.toNatClampNeg v10) (-1 : Int32)) k45 (Int32.toNatClampNeg v10) (-1 : Int32)) r 7) + (1 : Int32))) E hM ok31 dX8_thing_209 (fun H locs hM => ?_)
              refine lv_iload_n hx hb dX8_thing_212 rfl (lv_at hl 3 rfl) ?_
              cases h
              exact m_iret hx hb hr hlk hM rfl rfl dX8_thing_213
            · replace h := (k_if h).1 c9
              refine lv_aload_n hx hb dX8_thing_98 rfl (lv_at hl 0 rfl) ?_
              refine lv_bipush (v := 7) hx hb dX8_thing_99 (by decide) ?_
              obtain ⟨w47, hzw47, h⟩ := k_bd h
              refine m_callV (C := RX8) (T := TX8) (N := 33) (ci := 8) (n := 1) (As := [.int (7 : Int32)]) (rest := []) (st1 := (.int w47.1 :: [])) E hM hl.1 ok1 (by decide) rfl rfl (c_X8_refuse l D cy sz H0 (sI (sI u r 1 (0 : Int32)) r 0 (0 : Int32)) r (7 : Int32) hzw47) wl_X8_121 wm_X8_refuse ws_X8_refuse wi_X8 wd_X8_refuse rfl rfl (by decide +kernel) ⟨by decide, by decide⟩ rfl rfl (by first | exact Nat.le_of_ble_eq_true rfl | simp [rv_cat, cat_i, cat_l, cat_r, cat_n]) dX8_thing_101 ⟨by decide, by decide⟩ rfl (fun H locs hM => ?_)
              cases h
              exact m_iret hx hb hr hlk hM rfl rfl dX8_thing_104
          · replace h := (k_if h).2 c8
            refine lv_aload_n hx hb dX8_thing_55 rfl (lv_at hl 0 rfl) ?_
            refine gs_X8_24 E hM ok1 dX8_thing_56 (fun x48 hxx48 => ?_)
            replace h := k_bb h x48 hxx48.symm
            refine lv_iload_n hx hb dX8_thing_59 rfl (lv_at hl 2 rfl) ?_
            rcases x48 with _ | k49
            · cases h
            rw [cs_s] at h
            obtain ⟨ok50, h⟩ := k_gd h
            refine m_iald E hM ok50 dX8_thing_60 ?_
            refine lv_iload_n hx hb dX8_thing_61 rfl (lv_at hl 1 rfl) ?_
            refine lv_iconst (v := 1) hx hb dX8_thing_62 (by decide) ?_
            refine lv_isub hx hb dX8_thing_63 ?_
            refine lv_icmp_eq (tgt := 89) hx hb dX8_thing_64 (by decide) (fun c51 => ?_) (fun c51 => ?_)
            · replace h := (k_if h).1 c51
              refine lv_aload_n hx hb dX8_thing_89 rfl (lv_at hl 0 rfl) ?_
              refine gs_X8_118 E hM ok1 dX8_thing_90 ?_
              refine lv_bipush (v := 80) hx hb dX8_thing_93 (by decide) ?_
              refine lv_icmp_ne (tgt := 105) hx hb dX8_thing_95 (by decide) (fun c52 => ?_) (fun c52 => ?_)
              · replace h := (k_if h).2 c52
                refine lv_aload_n hx hb dX8_thing_105 rfl (lv_at hl 0 rfl) ?_
                refine gs_X8_118 E hM ok1 dX8_thing_106 ?_
                refine lv_topi (fun v53 hvv53 => ?_)
                replace h := k_bb h v53 hvv53
                refine lv_istore_n (i := 3) (lv' := [(3, .int v53), (0, .ref (sz + r)), (1, .int p1), (2, .int p2)]) hx hb dX8_thing_109 rfl hl (by decide) (by first | rfl | simp [rv_cat, cat_i, cat_l, cat_r, cat_n]) (fun ls hl => ?_)
                refine lv_aload_n hx hb dX8_thing_110 rfl (lv_at hl 1 rfl) ?_
                refine gs_X8_24 E hM ok1 dX8_thing_111 (fun x54 hxx54 => ?_)
                replace h := k_bb h x54 hxx54.symm
                refine lv_iload_n hx hb dX8_thing_114 rfl (lv_at hl 0 rfl) ?_
                refine lv_iload_n hx hb dX8_thing_115 rfl (lv_at hl 2 rfl) ?_
                rcases x54 with _ | k55
                · cases h
                rw [cs_s] at h
                obtain ⟨ok56, h⟩ := k_gd h
                refine m_iast E hM ok56 dX8_thing_116 (fun H locs hM => ?_)
                refine lv_aload_n hx hb dX8_thing_117 rfl (lv_at hl 1 rfl) ?_
                refine gs_X8_27 E hM ok1 dX8_thing_118 (fun x57 hxx57 => ?_)
                replace h := k_bb h x57 hxx57.symm
                refine lv_iload_n hx hb dX8_thing_121 rfl (lv_at hl 0 rfl) ?_
                refine lv_iload_n hx hb dX8_thing_122 rfl (lv_at hl 3 rfl) ?_
                rcases x57 with _ | k58
                · cases h
                rw [cs_s] at h
                obtain ⟨ok59, h⟩ := k_gd h
                refine m_iast E hM ok59 dX8_thing_123 (fun H locs hM => ?_)
                refine lv_aload_n hx hb dX8_thing_124 rfl (lv_at hl 1 rfl) ?_
                refine gs_X8_30 E hM ok1 dX8_thing_125 (fun x60 hxx60 => ?_)
                replace h := k_bb h x60 hxx60.symm
                refine lv_iload_n hx hb dX8_thing_128 rfl (lv_at hl 0 rfl) ?_
                refine lv_iconst (v := (-1)) hx hb dX8_thing_129 (by decide) ?_
                rcases x60 with _ | k61
                · cases h
                rw [cs_s] at h
                obtain ⟨ok62, h⟩ := k_gd h
                refine m_iast E hM ok62 dX8_thing_130 (fun H locs hM => ?_)
                refine lv_aload_n hx hb dX8_thing_131 rfl (lv_at hl 1 rfl) ?_
                refine gs_X8_33 E hM ok1 dX8_thing_132 (fun x63 hxx63 => ?_)
                replace h := k_bb h x63 hxx63.symm
                refine lv_iload_n hx hb dX8_thing_135 rfl (lv_at hl 0 rfl) ?_
                refine lv_iload_n hx hb dX8_thing_136 rfl (lv_at hl 0 rfl) ?_
                rcases x63 with _ | k64
                · cases h
                rw [cs_s] at h
                obtain ⟨ok65, h⟩ := k_gd h
                refine m_iast E hM ok65 dX8_thing_137 (fun H locs hM => ?_)
                refine lv_iconst (v := 0) hx hb dX8_thing_138 (by decide) ?_
                refine lv_istore (i := 4) (lv' := [(4, .int (0 : Int32)), (3, .int v53), (0, .ref (sz + r)), (1, .int p1), (2, .int p2)]) hx hb dX8_thing_139 hl (by decide) (by first | rfl | simp [rv_cat, cat_i, cat_l, cat_r, cat_n]) (fun ls hl => ?_)
                refine lp_X8_thing_141 hr hlk  E 1000 (0 : Int32) (sI (sI (sI (sI (sI (sI u r 1 (0 : Int32)) r 0 (0 : Int32)) k55 (Int32.toNatClampNeg v53) p1) k58 (Int32.toNatClampNeg v53) p2) k61 (Int32.toNatClampNeg v53) (-1 : Int32)) k64 (Int32.toNatClampNeg v53) v53) H locs ls hM (lv_sub hl [2, 3, 4, 1, 0] rfl) h (fun a66 u67 H locs ls hM hl h => ?_)
                refine lv_aload_n hx hb dX8_thing_167 rfl (lv_at hl 0 rfl) ?_
                obtain ⟨ok68, h⟩ := k_gd h
                refine gs_X8_39 E hM ok68 dX8_thing_168 (fun x69 hxx69 => ?_)
                replace h := k_bb h x69 hxx69.symm
                refine lv_iload_n hx hb dX8_thing_171 rfl (lv_at hl 3 rfl) ?_
                refine lv_iconst (v := (-1)) hx hb dX8_thing_172 (by decide) ?_
                rcases x69 with _ | k70
                · cases h
                rw [cs_s] at h
                obtain ⟨ok71, h⟩ := k_gd h
                refine m_iast E hM ok71 dX8_thing_173 (fun H locs hM => ?_)
                refine lv_aload_n hx hb dX8_thing_174 rfl (lv_at hl 0 rfl) ?_
                refine gs_X8_45 E hM ok68 dX8_thing_175 (fun x72 hxx72 => ?_)
                replace h := k_bb h x72 hxx72.symm
                refine lv_iload_n hx hb dX8_thing_178 rfl (lv_at hl 3 rfl) ?_
                refine lv_iconst (v := (-1)) hx hb dX8_thing_179 (by decide) ?_
                rcases x72 with _ | k73
                · cases h
                rw [cs_s] at h
                obtain ⟨ok74, h⟩ := k_gd h
                refine m_iast E hM ok74 dX8_thing_180 (fun H locs hM => ?_)
                refine lv_aload_n hx hb dX8_thing_181 rfl (lv_at hl 0 rfl) ?_
                refine gs_X8_51 E hM ok68 dX8_thing_182 (fun x75 hxx75 => ?_)
                replace h := k_bb h x75 hxx75.symm
                refine lv_iload_n hx hb dX8_thing_185 rfl (lv_at hl 3 rfl) ?_
                refine lv_iconst (v := (-1)) hx hb dX8_thing_186 (by decide) ?_
                rcases x75 with _ | k76
                · cases h
                rw [cs_s] at h
                obtain ⟨ok77, h⟩ := k_gd h
                refine m_iast E hM ok77 dX8_thing_187 (fun H locs hM => ?_)
                refine lv_aload_n hx hb dX8_thing_188 rfl (lv_at hl 0 rfl) ?_
                refine gs_X8_54 E hM ok68 dX8_thing_189 (fun x78 hxx78 => ?_)
                replace h := k_bb h x78 hxx78.symm
                refine lv_iload_n hx hb dX8_thing_192 rfl (lv_at hl 3 rfl) ?_
                refine lv_iconst (v := (-1)) hx hb dX8_thing_193 (by decide) ?_
                rcases x78 with _ | k79
                · cases h
                rw [cs_s] at h
                obtain ⟨ok80, h⟩ := k_gd h
                refine m_iast E hM ok80 dX8_thing_194 (fun H locs hM => ?_)
                refine lv_aload_n hx hb dX8_thing_195 rfl (lv_at hl 0 rfl) ?_
                refine gs_X8_57 E hM ok68 dX8_thing_196 (fun x81 hxx81 => ?_)
                replace h := k_bb h x81 hxx81.symm
                refine lv_iload_n hx hb dX8_thing_199 rfl (lv_at hl 3 rfl) ?_
                refine lv_iconst (v := (-1)) hx hb dX8_thing_200 (by decide) ?_
                rcases x81 with _ | k82
                · cases h
                rw [cs_s] at h
                obtain ⟨ok83, h⟩ := k_gd h
                refine m_iast E hM ok83 dX8_thing_201 (fun H locs hM => ?_)
                refine lv_aload_n hx hb dX8_thing_202 rfl (lv_at hl 0 rfl) ?_
                refine lv_dup hx hb dX8_thing_203 rfl ?_
                refine gs_X8_118 E hM ok68 dX8_thing_204 ?_
                refine lv_iconst (v := 1) hx hb dX8_thing_207 (by decide) ?_
                refine lv_iadd hx hb dX8_thing_208 ?_
                refine ps_X8_118 (v := ((gI (sI (sI (sI (sI (sI u67 k70 (Int32.toNatClampNeg v53) (-1 : Int32)) k73 (Int32.toNatClampNeg v53) (-1 : Int32)) k76 (Int32.toNatClampNeg v53) (-1 : Int32)) k79 (Int32.toNatClampNeg v53) (-1 : Int32)) k82 (Int32.toNatClampNeg v53) (-1 : Int32)) r 7) + (1 : Int32))) E hM ok68 dX8_thing_209 (fun H locs hM => ?_)
                refine lv_iload_n hx hb dX8_thing_212 rfl (lv_at hl 3 rfl) ?_
                cases h
                exact m_iret hx hb hr hlk hM rfl rfl dX8_thing_213
              · replace h := (k_if h).1 c52
                refine lv_aload_n hx hb dX8_thing_98 rfl (lv_at hl 0 rfl) ?_
                refine lv_bipush (v := 7) hx hb dX8_thing_99 (by decide) ?_
                obtain ⟨w84, hzw84, h⟩ := k_bd h
                refine m_callV (C := RX8) (T := TX8) (N := 33) (ci := 8) (n := 1) (As := [.int (7 : Int32)]) (rest := []) (st1 := (.int w84.1 :: [])) E hM hl.1 ok1 (by decide) rfl rfl (c_X8_refuse l D cy sz H0 (sI (sI u r 1 (0 : Int32)) r 0 (0 : Int32)) r (7 : Int32) hzw84) wl_X8_121 wm_X8_refuse ws_X8_refuse wi_X8 wd_X8_refuse rfl rfl (by decide +kernel) ⟨by decide, by decide⟩ rfl rfl (by first | exact Nat.le_of_ble_eq_true rfl | simp [rv_cat, cat_i, cat_l, cat_r, cat_n]) dX8_thing_101 ⟨by decide, by decide⟩ rfl (fun H locs hM => ?_)
                cases h
                exact m_iret hx hb hr hlk hM rfl rfl dX8_thing_104
            · replace h := (k_if h).2 c51
              refine lv_iload_n hx hb dX8_thing_67 rfl (lv_at hl 1 rfl) ?_
              refine lv_iconst (v := 3) hx hb dX8_thing_68 (by decide) ?_
              refine lv_icmp_ne (tgt := 82) hx hb dX8_thing_69 (by decide) (fun c85 => ?_) (fun c85 => ?_)
              · replace h := (k_if h).2 c85
                refine lv_aload_n hx hb dX8_thing_82 rfl (lv_at hl 0 rfl) ?_
                refine lv_bipush (v := 8) hx hb dX8_thing_83 (by decide) ?_
                obtain ⟨w86, hzw86, h⟩ := k_bd h
                refine m_callV (C := RX8) (T := TX8) (N := 33) (ci := 8) (n := 1) (As := [.int (8 : Int32)]) (rest := []) (st1 := (.int w86.1 :: [])) E hM hl.1 ok1 (by decide) rfl rfl (c_X8_refuse l D cy sz H0 (sI (sI u r 1 (0 : Int32)) r 0 (0 : Int32)) r (8 : Int32) hzw86) wl_X8_121 wm_X8_refuse ws_X8_refuse wi_X8 wd_X8_refuse rfl rfl (by decide +kernel) ⟨by decide, by decide⟩ rfl rfl (by first | exact Nat.le_of_ble_eq_true rfl | simp [rv_cat, cat_i, cat_l, cat_r, cat_n]) dX8_thing_85 ⟨by decide, by decide⟩ rfl (fun H locs hM => ?_)
                cases h
                exact m_iret hx hb hr hlk hM rfl rfl dX8_thing_88
              · replace h := (k_if h).1 c85
                refine lv_aload_n hx hb dX8_thing_72 rfl (lv_at hl 0 rfl) ?_
                refine gs_X8_24 E hM ok1 dX8_thing_73 (fun x87 hxx87 => ?_)
                replace h := k_bb h x87 hxx87.symm
                refine lv_iload_n hx hb dX8_thing_76 rfl (lv_at hl 2 rfl) ?_
                rcases x87 with _ | k88
                · cases h
                rw [cs_s] at h
                obtain ⟨ok89, h⟩ := k_gd h
                refine m_iald E hM ok89 dX8_thing_77 ?_
                refine lv_iconst (v := 1) hx hb dX8_thing_78 (by decide) ?_
                refine lv_icmp_eq (tgt := 89) hx hb dX8_thing_79 (by decide) (fun c90 => ?_) (fun c90 => ?_)
                · replace h := (k_if h).1 c90
                  refine lv_aload_n hx hb dX8_thing_89 rfl (lv_at hl 0 rfl) ?_
                  refine gs_X8_118 E hM ok1 dX8_thing_90 ?_
                  refine lv_bipush (v := 80) hx hb dX8_thing_93 (by decide) ?_
                  refine lv_icmp_ne (tgt := 105) hx hb dX8_thing_95 (by decide) (fun c91 => ?_) (fun c91 => ?_)
                  · replace h := (k_if h).2 c91
                    refine lv_aload_n hx hb dX8_thing_105 rfl (lv_at hl 0 rfl) ?_
                    refine gs_X8_118 E hM ok1 dX8_thing_106 ?_
                    refine lv_topi (fun v92 hvv92 => ?_)
                    replace h := k_bb h v92 hvv92
                    refine lv_istore_n (i := 3) (lv' := [(3, .int v92), (0, .ref (sz + r)), (1, .int p1), (2, .int p2)]) hx hb dX8_thing_109 rfl hl (by decide) (by first | rfl | simp [rv_cat, cat_i, cat_l, cat_r, cat_n]) (fun ls hl => ?_)
                    refine lv_aload_n hx hb dX8_thing_110 rfl (lv_at hl 1 rfl) ?_
                    refine gs_X8_24 E hM ok1 dX8_thing_111 (fun x93 hxx93 => ?_)
                    replace h := k_bb h x93 hxx93.symm
                    refine lv_iload_n hx hb dX8_thing_114 rfl (lv_at hl 0 rfl) ?_
                    refine lv_iload_n hx hb dX8_thing_115 rfl (lv_at hl 2 rfl) ?_
                    rcases x93 with _ | k94
                    · cases h
                    rw [cs_s] at h
                    obtain ⟨ok95, h⟩ := k_gd h
                    refine m_iast E hM ok95 dX8_thing_116 (fun H locs hM => ?_)
                    refine lv_aload_n hx hb dX8_thing_117 rfl (lv_at hl 1 rfl) ?_
                    refine gs_X8_27 E hM ok1 dX8_thing_118 (fun x96 hxx96 => ?_)
                    replace h := k_bb h x96 hxx96.symm
                    refine lv_iload_n hx hb dX8_thing_121 rfl (lv_at hl 0 rfl) ?_
                    refine lv_iload_n hx hb dX8_thing_122 rfl (lv_at hl 3 rfl) ?_
                    rcases x96 with _ | k97
                    · cases h
                    rw [cs_s] at h
                    obtain ⟨ok98, h⟩ := k_gd h
                    refine m_iast E hM ok98 dX8_thing_123 (fun H locs hM => ?_)
                    refine lv_aload_n hx hb dX8_thing_124 rfl (lv_at hl 1 rfl) ?_
                    refine gs_X8_30 E hM ok1 dX8_thing_125 (fun x99 hxx99 => ?_)
                    replace h := k_bb h x99 hxx99.symm
                    refine lv_iload_n hx hb dX8_thing_128 rfl (lv_at hl 0 rfl) ?_
                    refine lv_iconst (v := (-1)) hx hb dX8_thing_129 (by decide) ?_
                    rcases x99 with _ | k100
                    · cases h
                    rw [cs_s] at h
                    obtain ⟨ok101, h⟩ := k_gd h
                    refine m_iast E hM ok101 dX8_thing_130 (fun H locs hM => ?_)
                    refine lv_aload_n hx hb dX8_thing_131 rfl (lv_at hl 1 rfl) ?_
                    refine gs_X8_33 E hM ok1 dX8_thing_132 (fun x102 hxx102 => ?_)
                    replace h := k_bb h x102 hxx102.symm
                    refine lv_iload_n hx hb dX8_thing_135 rfl (lv_at hl 0 rfl) ?_
                    refine lv_iload_n hx hb dX8_thing_136 rfl (lv_at hl 0 rfl) ?_
                    rcases x102 with _ | k103
                    · cases h
                    rw [cs_s] at h
                    obtain ⟨ok104, h⟩ := k_gd h
                    refine m_iast E hM ok104 dX8_thing_137 (fun H locs hM => ?_)
                    refine lv_iconst (v := 0) hx hb dX8_thing_138 (by decide) ?_
                    refine lv_istore (i := 4) (lv' := [(4, .int (0 : Int32)), (3, .int v92), (0, .ref (sz + r)), (1, .int p1), (2, .int p2)]) hx hb dX8_thing_139 hl (by decide) (by first | rfl | simp [rv_cat, cat_i, cat_l, cat_r, cat_n]) (fun ls hl => ?_)
                    refine lp_X8_thing_141 hr hlk  E 1000 (0 : Int32) (sI (sI (sI (sI (sI (sI u r 1 (0 : Int32)) r 0 (0 : Int32)) k94 (Int32.toNatClampNeg v92) p1) k97 (Int32.toNatClampNeg v92) p2) k100 (Int32.toNatClampNeg v92) (-1 : Int32)) k103 (Int32.toNatClampNeg v92) v92) H locs ls hM (lv_sub hl [2, 3, 4, 1, 0] rfl) h (fun a105 u106 H locs ls hM hl h => ?_)
                    refine lv_aload_n hx hb dX8_thing_167 rfl (lv_at hl 0 rfl) ?_
                    obtain ⟨ok107, h⟩ := k_gd h
                    refine gs_X8_39 E hM ok107 dX8_thing_168 (fun x108 hxx108 => ?_)
                    replace h := k_bb h x108 hxx108.symm
                    refine lv_iload_n hx hb dX8_thing_171 rfl (lv_at hl 3 rfl) ?_
                    refine lv_iconst (v := (-1)) hx hb dX8_thing_172 (by decide) ?_
                    rcases x108 with _ | k109
                    · cases h
                    rw [cs_s] at h
                    obtain ⟨ok110, h⟩ := k_gd h
                    refine m_iast E hM ok110 dX8_thing_173 (fun H locs hM => ?_)
                    refine lv_aload_n hx hb dX8_thing_174 rfl (lv_at hl 0 rfl) ?_
                    refine gs_X8_45 E hM ok107 dX8_thing_175 (fun x111 hxx111 => ?_)
                    replace h := k_bb h x111 hxx111.symm
                    refine lv_iload_n hx hb dX8_thing_178 rfl (lv_at hl 3 rfl) ?_
                    refine lv_iconst (v := (-1)) hx hb dX8_thing_179 (by decide) ?_
                    rcases x111 with _ | k112
                    · cases h
                    rw [cs_s] at h
                    obtain ⟨ok113, h⟩ := k_gd h
                    refine m_iast E hM ok113 dX8_thing_180 (fun H locs hM => ?_)
                    refine lv_aload_n hx hb dX8_thing_181 rfl (lv_at hl 0 rfl) ?_
                    refine gs_X8_51 E hM ok107 dX8_thing_182 (fun x114 hxx114 => ?_)
                    replace h := k_bb h x114 hxx114.symm
                    refine lv_iload_n hx hb dX8_thing_185 rfl (lv_at hl 3 rfl) ?_
                    refine lv_iconst (v := (-1)) hx hb dX8_thing_186 (by decide) ?_
                    rcases x114 with _ | k115
                    · cases h
                    rw [cs_s] at h
                    obtain ⟨ok116, h⟩ := k_gd h
                    refine m_iast E hM ok116 dX8_thing_187 (fun H locs hM => ?_)
                    refine lv_aload_n hx hb dX8_thing_188 rfl (lv_at hl 0 rfl) ?_
                    refine gs_X8_54 E hM ok107 dX8_thing_189 (fun x117 hxx117 => ?_)
                    replace h := k_bb h x117 hxx117.symm
                    refine lv_iload_n hx hb dX8_thing_192 rfl (lv_at hl 3 rfl) ?_
                    refine lv_iconst (v := (-1)) hx hb dX8_thing_193 (by decide) ?_
                    rcases x117 with _ | k118
                    · cases h
                    rw [cs_s] at h
                    obtain ⟨ok119, h⟩ := k_gd h
                    refine m_iast E hM ok119 dX8_thing_194 (fun H locs hM => ?_)
                    refine lv_aload_n hx hb dX8_thing_195 rfl (lv_at hl 0 rfl) ?_
                    refine gs_X8_57 E hM ok107 dX8_thing_196 (fun x120 hxx120 => ?_)
                    replace h := k_bb h x120 hxx120.symm
                    refine lv_iload_n hx hb dX8_thing_199 rfl (lv_at hl 3 rfl) ?_
                    refine lv_iconst (v := (-1)) hx hb dX8_thing_200 (by decide) ?_
                    rcases x120 with _ | k121
                    · cases h
                    rw [cs_s] at h
                    obtain ⟨ok122, h⟩ := k_gd h
                    refine m_iast E hM ok122 dX8_thing_201 (fun H locs hM => ?_)
                    refine lv_aload_n hx hb dX8_thing_202 rfl (lv_at hl 0 rfl) ?_
                    refine lv_dup hx hb dX8_thing_203 rfl ?_
                    refine gs_X8_118 E hM ok107 dX8_thing_204 ?_
                    refine lv_iconst (v := 1) hx hb dX8_thing_207 (by decide) ?_
                    refine lv_iadd hx hb dX8_thing_208 ?_
                    refine ps_X8_118 (v := ((gI (sI (sI (sI (sI (sI u106 k109 (Int32.toNatClampNeg v92) (-1 : Int32)) k112 (Int32.toNatClampNeg v92) (-1 : Int32)) k115 (Int32.toNatClampNeg v92) (-1 : Int32)) k118 (Int32.toNatClampNeg v92) (-1 : Int32)) k121 (Int32.toNatClampNeg v92) (-1 : Int32)) r 7) + (1 : Int32))) E hM ok107 dX8_thing_209 (fun H locs hM => ?_)
                    refine lv_iload_n hx hb dX8_thing_212 rfl (lv_at hl 3 rfl) ?_
                    cases h
                    exact m_iret hx hb hr hlk hM rfl rfl dX8_thing_213
                  · replace h := (k_if h).1 c91
                    refine lv_aload_n hx hb dX8_thing_98 rfl (lv_at hl 0 rfl) ?_
                    refine lv_bipush (v := 7) hx hb dX8_thing_99 (by decide) ?_
                    obtain ⟨w123, hzw123, h⟩ := k_bd h
                    refine m_callV (C := RX8) (T := TX8) (N := 33) (ci := 8) (n := 1) (As := [.int (7 : Int32)]) (rest := []) (st1 := (.int w123.1 :: [])) E hM hl.1 ok1 (by decide) rfl rfl (c_X8_refuse l D cy sz H0 (sI (sI u r 1 (0 : Int32)) r 0 (0 : Int32)) r (7 : Int32) hzw123) wl_X8_121 wm_X8_refuse ws_X8_refuse wi_X8 wd_X8_refuse rfl rfl (by decide +kernel) ⟨by decide, by decide⟩ rfl rfl (by first | exact Nat.le_of_ble_eq_true rfl | simp [rv_cat, cat_i, cat_l, cat_r, cat_n]) dX8_thing_101 ⟨by decide, by decide⟩ rfl (fun H locs hM => ?_)
                    cases h
                    exact m_iret hx hb hr hlk hM rfl rfl dX8_thing_104
                · replace h := (k_if h).2 c90
                  refine lv_aload_n hx hb dX8_thing_82 rfl (lv_at hl 0 rfl) ?_
                  refine lv_bipush (v := 8) hx hb dX8_thing_83 (by decide) ?_
                  obtain ⟨w124, hzw124, h⟩ := k_bd h
                  refine m_callV (C := RX8) (T := TX8) (N := 33) (ci := 8) (n := 1) (As := [.int (8 : Int32)]) (rest := []) (st1 := (.int w124.1 :: [])) E hM hl.1 ok1 (by decide) rfl rfl (c_X8_refuse l D cy sz H0 (sI (sI u r 1 (0 : Int32)) r 0 (0 : Int32)) r (8 : Int32) hzw124) wl_X8_121 wm_X8_refuse ws_X8_refuse wi_X8 wd_X8_refuse rfl rfl (by decide +kernel) ⟨by decide, by decide⟩ rfl rfl (by first | exact Nat.le_of_ble_eq_true rfl | simp [rv_cat, cat_i, cat_l, cat_r, cat_n]) dX8_thing_85 ⟨by decide, by decide⟩ rfl (fun H locs hM => ?_)
                  cases h
                  exact m_iret hx hb hr hlk hM rfl rfl dX8_thing_88
        · replace h := (k_if h).1 c7
          refine lv_aload_n hx hb dX8_thing_45 rfl (lv_at hl 0 rfl) ?_
          refine lv_iconst (v := 2) hx hb dX8_thing_46 (by decide) ?_
          obtain ⟨w125, hzw125, h⟩ := k_bd h
          refine m_callV (C := RX8) (T := TX8) (N := 33) (ci := 8) (n := 1) (As := [.int (2 : Int32)]) (rest := []) (st1 := (.int w125.1 :: [])) E hM hl.1 ok1 (by decide) rfl rfl (c_X8_refuse l D cy sz H0 (sI (sI u r 1 (0 : Int32)) r 0 (0 : Int32)) r (2 : Int32) hzw125) wl_X8_121 wm_X8_refuse ws_X8_refuse wi_X8 wd_X8_refuse rfl rfl (by decide +kernel) ⟨by decide, by decide⟩ rfl rfl (by first | exact Nat.le_of_ble_eq_true rfl | simp [rv_cat, cat_i, cat_l, cat_r, cat_n]) dX8_thing_47 ⟨by decide, by decide⟩ rfl (fun H locs hM => ?_)
          cases h
          exact m_iret hx hb hr hlk hM rfl rfl dX8_thing_50
      · replace h := (k_if h).1 c5
        refine lv_iload_n hx hb dX8_thing_29 rfl (lv_at hl 2 rfl) ?_
        refine lv_iconst (v := (-1)) hx hb dX8_thing_30 (by decide) ?_
        refine lv_icmp_eq (tgt := 51) hx hb dX8_thing_31 (by decide) (fun c126 => ?_) (fun c126 => ?_)
        · replace h := (k_if h).1 c126
          refine lv_iload_n hx hb dX8_thing_51 rfl (lv_at hl 1 rfl) ?_
          refine lv_if_le (tgt := 89) hx hb dX8_thing_52 (by decide) (fun c127 => ?_) (fun c127 => ?_)
          · replace h := (k_if h).1 c127
            refine lv_aload_n hx hb dX8_thing_89 rfl (lv_at hl 0 rfl) ?_
            refine gs_X8_118 E hM ok1 dX8_thing_90 ?_
            refine lv_bipush (v := 80) hx hb dX8_thing_93 (by decide) ?_
            refine lv_icmp_ne (tgt := 105) hx hb dX8_thing_95 (by decide) (fun c128 => ?_) (fun c128 => ?_)
            · replace h := (k_if h).2 c128
              refine lv_aload_n hx hb dX8_thing_105 rfl (lv_at hl 0 rfl) ?_
              refine gs_X8_118 E hM ok1 dX8_thing_106 ?_
              refine lv_topi (fun v129 hvv129 => ?_)
              replace h := k_bb h v129 hvv129
              refine lv_istore_n (i := 3) (lv' := [(3, .int v129), (0, .ref (sz + r)), (1, .int p1), (2, .int p2)]) hx hb dX8_thing_109 rfl hl (by decide) (by first | rfl | simp [rv_cat, cat_i, cat_l, cat_r, cat_n]) (fun ls hl => ?_)
              refine lv_aload_n hx hb dX8_thing_110 rfl (lv_at hl 1 rfl) ?_
              refine gs_X8_24 E hM ok1 dX8_thing_111 (fun x130 hxx130 => ?_)
              replace h := k_bb h x130 hxx130.symm
              refine lv_iload_n hx hb dX8_thing_114 rfl (lv_at hl 0 rfl) ?_
              refine lv_iload_n hx hb dX8_thing_115 rfl (lv_at hl 2 rfl) ?_
              rcases x130 with _ | k131
              · cases h
              rw [cs_s] at h
              obtain ⟨ok132, h⟩ := k_gd h
              refine m_iast E hM ok132 dX8_thing_116 (fun H locs hM => ?_)
              refine lv_aload_n hx hb dX8_thing_117 rfl (lv_at hl 1 rfl) ?_
              refine gs_X8_27 E hM ok1 dX8_thing_118 (fun x133 hxx133 => ?_)
              replace h := k_bb h x133 hxx133.symm
              refine lv_iload_n hx hb dX8_thing_121 rfl (lv_at hl 0 rfl) ?_
              refine lv_iload_n hx hb dX8_thing_122 rfl (lv_at hl 3 rfl) ?_
              rcases x133 with _ | k134
              · cases h
              rw [cs_s] at h
              obtain ⟨ok135, h⟩ := k_gd h
              refine m_iast E hM ok135 dX8_thing_123 (fun H locs hM => ?_)
              refine lv_aload_n hx hb dX8_thing_124 rfl (lv_at hl 1 rfl) ?_
              refine gs_X8_30 E hM ok1 dX8_thing_125 (fun x136 hxx136 => ?_)
              replace h := k_bb h x136 hxx136.symm
              refine lv_iload_n hx hb dX8_thing_128 rfl (lv_at hl 0 rfl) ?_
              refine lv_iconst (v := (-1)) hx hb dX8_thing_129 (by decide) ?_
              rcases x136 with _ | k137
              · cases h
              rw [cs_s] at h
              obtain ⟨ok138, h⟩ := k_gd h
              refine m_iast E hM ok138 dX8_thing_130 (fun H locs hM => ?_)
              refine lv_aload_n hx hb dX8_thing_131 rfl (lv_at hl 1 rfl) ?_
              refine gs_X8_33 E hM ok1 dX8_thing_132 (fun x139 hxx139 => ?_)
              replace h := k_bb h x139 hxx139.symm
              refine lv_iload_n hx hb dX8_thing_135 rfl (lv_at hl 0 rfl) ?_
              refine lv_iload_n hx hb dX8_thing_136 rfl (lv_at hl 0 rfl) ?_
              rcases x139 with _ | k140
              · cases h
              rw [cs_s] at h
              obtain ⟨ok141, h⟩ := k_gd h
              refine m_iast E hM ok141 dX8_thing_137 (fun H locs hM => ?_)
              refine lv_iconst (v := 0) hx hb dX8_thing_138 (by decide) ?_
              refine lv_istore (i := 4) (lv' := [(4, .int (0 : Int32)), (3, .int v129), (0, .ref (sz + r)), (1, .int p1), (2, .int p2)]) hx hb dX8_thing_139 hl (by decide) (by first | rfl | simp [rv_cat, cat_i, cat_l, cat_r, cat_n]) (fun ls hl => ?_)
              refine lp_X8_thing_141 hr hlk  E 1000 (0 : Int32) (sI (sI (sI (sI (sI (sI u r 1 (0 : Int32)) r 0 (0 : Int32)) k131 (Int32.toNatClampNeg v129) p1) k134 (Int32.toNatClampNeg v129) p2) k137 (Int32.toNatClampNeg v129) (-1 : Int32)) k140 (Int32.toNatClampNeg v129) v129) H locs ls hM (lv_sub hl [2, 3, 4, 1, 0] rfl) h (fun a142 u143 H locs ls hM hl h => ?_)
              refine lv_aload_n hx hb dX8_thing_167 rfl (lv_at hl 0 rfl) ?_
              obtain ⟨ok144, h⟩ := k_gd h
              refine gs_X8_39 E hM ok144 dX8_thing_168 (fun x145 hxx145 => ?_)
              replace h := k_bb h x145 hxx145.symm
              refine lv_iload_n hx hb dX8_thing_171 rfl (lv_at hl 3 rfl) ?_
              refine lv_iconst (v := (-1)) hx hb dX8_thing_172 (by decide) ?_
              rcases x145 with _ | k146
              · cases h
              rw [cs_s] at h
              obtain ⟨ok147, h⟩ := k_gd h
              refine m_iast E hM ok147 dX8_thing_173 (fun H locs hM => ?_)
              refine lv_aload_n hx hb dX8_thing_174 rfl (lv_at hl 0 rfl) ?_
              refine gs_X8_45 E hM ok144 dX8_thing_175 (fun x148 hxx148 => ?_)
              replace h := k_bb h x148 hxx148.symm
              refine lv_iload_n hx hb dX8_thing_178 rfl (lv_at hl 3 rfl) ?_
              refine lv_iconst (v := (-1)) hx hb dX8_thing_179 (by decide) ?_
              rcases x148 with _ | k149
              · cases h
              rw [cs_s] at h
              obtain ⟨ok150, h⟩ := k_gd h
              refine m_iast E hM ok150 dX8_thing_180 (fun H locs hM => ?_)
              refine lv_aload_n hx hb dX8_thing_181 rfl (lv_at hl 0 rfl) ?_
              refine gs_X8_51 E hM ok144 dX8_thing_182 (fun x151 hxx151 => ?_)
              replace h := k_bb h x151 hxx151.symm
              refine lv_iload_n hx hb dX8_thing_185 rfl (lv_at hl 3 rfl) ?_
              refine lv_iconst (v := (-1)) hx hb dX8_thing_186 (by decide) ?_
              rcases x151 with _ | k152
              · cases h
              rw [cs_s] at h
              obtain ⟨ok153, h⟩ := k_gd h
              refine m_iast E hM ok153 dX8_thing_187 (fun H locs hM => ?_)
              refine lv_aload_n hx hb dX8_thing_188 rfl (lv_at hl 0 rfl) ?_
              refine gs_X8_54 E hM ok144 dX8_thing_189 (fun x154 hxx154 => ?_)
              replace h := k_bb h x154 hxx154.symm
              refine lv_iload_n hx hb dX8_thing_192 rfl (lv_at hl 3 rfl) ?_
              refine lv_iconst (v := (-1)) hx hb dX8_thing_193 (by decide) ?_
              rcases x154 with _ | k155
              · cases h
              rw [cs_s] at h
              obtain ⟨ok156, h⟩ := k_gd h
              refine m_iast E hM ok156 dX8_thing_194 (fun H locs hM => ?_)
              refine lv_aload_n hx hb dX8_thing_195 rfl (lv_at hl 0 rfl) ?_
              refine gs_X8_57 E hM ok144 dX8_thing_196 (fun x157 hxx157 => ?_)
              replace h := k_bb h x157 hxx157.symm
              refine lv_iload_n hx hb dX8_thing_199 rfl (lv_at hl 3 rfl) ?_
              refine lv_iconst (v := (-1)) hx hb dX8_thing_200 (by decide) ?_
              rcases x157 with _ | k158
              · cases h
              rw [cs_s] at h
              obtain ⟨ok159, h⟩ := k_gd h
              refine m_iast E hM ok159 dX8_thing_201 (fun H locs hM => ?_)
              refine lv_aload_n hx hb dX8_thing_202 rfl (lv_at hl 0 rfl) ?_
              refine lv_dup hx hb dX8_thing_203 rfl ?_
              refine gs_X8_118 E hM ok144 dX8_thing_204 ?_
              refine lv_iconst (v := 1) hx hb dX8_thing_207 (by decide) ?_
              refine lv_iadd hx hb dX8_thing_208 ?_
              refine ps_X8_118 (v := ((gI (sI (sI (sI (sI (sI u143 k146 (Int32.toNatClampNeg v129) (-1 : Int32)) k149 (Int32.toNatClampNeg v129) (-1 : Int32)) k152 (Int32.toNatClampNeg v129) (-1 : Int32)) k155 (Int32.toNatClampNeg v129) (-1 : Int32)) k158 (Int32.toNatClampNeg v129) (-1 : Int32)) r 7) + (1 : Int32))) E hM ok144 dX8_thing_209 (fun H locs hM => ?_)
              refine lv_iload_n hx hb dX8_thing_212 rfl (lv_at hl 3 rfl) ?_
              cases h
              exact m_iret hx hb hr hlk hM rfl rfl dX8_thing_213
            · replace h := (k_if h).1 c128
              refine lv_aload_n hx hb dX8_thing_98 rfl (lv_at hl 0 rfl) ?_
              refine lv_bipush (v := 7) hx hb dX8_thing_99 (by decide) ?_
              obtain ⟨w160, hzw160, h⟩ := k_bd h
              refine m_callV (C := RX8) (T := TX8) (N := 33) (ci := 8) (n := 1) (As := [.int (7 : Int32)]) (rest := []) (st1 := (.int w160.1 :: [])) E hM hl.1 ok1 (by decide) rfl rfl (c_X8_refuse l D cy sz H0 (sI (sI u r 1 (0 : Int32)) r 0 (0 : Int32)) r (7 : Int32) hzw160) wl_X8_121 wm_X8_refuse ws_X8_refuse wi_X8 wd_X8_refuse rfl rfl (by decide +kernel) ⟨by decide, by decide⟩ rfl rfl (by first | exact Nat.le_of_ble_eq_true rfl | simp [rv_cat, cat_i, cat_l, cat_r, cat_n]) dX8_thing_101 ⟨by decide, by decide⟩ rfl (fun H locs hM => ?_)
              cases h
              exact m_iret hx hb hr hlk hM rfl rfl dX8_thing_104
          · replace h := (k_if h).2 c127
            refine lv_aload_n hx hb dX8_thing_55 rfl (lv_at hl 0 rfl) ?_
            refine gs_X8_24 E hM ok1 dX8_thing_56 (fun x161 hxx161 => ?_)
            replace h := k_bb h x161 hxx161.symm
            refine lv_iload_n hx hb dX8_thing_59 rfl (lv_at hl 2 rfl) ?_
            rcases x161 with _ | k162
            · cases h
            rw [cs_s] at h
            obtain ⟨ok163, h⟩ := k_gd h
            refine m_iald E hM ok163 dX8_thing_60 ?_
            refine lv_iload_n hx hb dX8_thing_61 rfl (lv_at hl 1 rfl) ?_
            refine lv_iconst (v := 1) hx hb dX8_thing_62 (by decide) ?_
            refine lv_isub hx hb dX8_thing_63 ?_
            refine lv_icmp_eq (tgt := 89) hx hb dX8_thing_64 (by decide) (fun c164 => ?_) (fun c164 => ?_)
            · replace h := (k_if h).1 c164
              refine lv_aload_n hx hb dX8_thing_89 rfl (lv_at hl 0 rfl) ?_
              refine gs_X8_118 E hM ok1 dX8_thing_90 ?_
              refine lv_bipush (v := 80) hx hb dX8_thing_93 (by decide) ?_
              refine lv_icmp_ne (tgt := 105) hx hb dX8_thing_95 (by decide) (fun c165 => ?_) (fun c165 => ?_)
              · replace h := (k_if h).2 c165
                refine lv_aload_n hx hb dX8_thing_105 rfl (lv_at hl 0 rfl) ?_
                refine gs_X8_118 E hM ok1 dX8_thing_106 ?_
                refine lv_topi (fun v166 hvv166 => ?_)
                replace h := k_bb h v166 hvv166
                refine lv_istore_n (i := 3) (lv' := [(3, .int v166), (0, .ref (sz + r)), (1, .int p1), (2, .int p2)]) hx hb dX8_thing_109 rfl hl (by decide) (by first | rfl | simp [rv_cat, cat_i, cat_l, cat_r, cat_n]) (fun ls hl => ?_)
                refine lv_aload_n hx hb dX8_thing_110 rfl (lv_at hl 1 rfl) ?_
                refine gs_X8_24 E hM ok1 dX8_thing_111 (fun x167 hxx167 => ?_)
                replace h := k_bb h x167 hxx167.symm
                refine lv_iload_n hx hb dX8_thing_114 rfl (lv_at hl 0 rfl) ?_
                refine lv_iload_n hx hb dX8_thing_115 rfl (lv_at hl 2 rfl) ?_
                rcases x167 with _ | k168
                · cases h
                rw [cs_s] at h
                obtain ⟨ok169, h⟩ := k_gd h
                refine m_iast E hM ok169 dX8_thing_116 (fun H locs hM => ?_)
                refine lv_aload_n hx hb dX8_thing_117 rfl (lv_at hl 1 rfl) ?_
                refine gs_X8_27 E hM ok1 dX8_thing_118 (fun x170 hxx170 => ?_)
                replace h := k_bb h x170 hxx170.symm
                refine lv_iload_n hx hb dX8_thing_121 rfl (lv_at hl 0 rfl) ?_
                refine lv_iload_n hx hb dX8_thing_122 rfl (lv_at hl 3 rfl) ?_
                rcases x170 with _ | k171
                · cases h
                rw [cs_s] at h
                obtain ⟨ok172, h⟩ := k_gd h
                refine m_iast E hM ok172 dX8_thing_123 (fun H locs hM => ?_)
                refine lv_aload_n hx hb dX8_thing_124 rfl (lv_at hl 1 rfl) ?_
                refine gs_X8_30 E hM ok1 dX8_thing_125 (fun x173 hxx173 => ?_)
                replace h := k_bb h x173 hxx173.symm
                refine lv_iload_n hx hb dX8_thing_128 rfl (lv_at hl 0 rfl) ?_
                refine lv_iconst (v := (-1)) hx hb dX8_thing_129 (by decide) ?_
                rcases x173 with _ | k174
                · cases h
                rw [cs_s] at h
                obtain ⟨ok175, h⟩ := k_gd h
                refine m_iast E hM ok175 dX8_thing_130 (fun H locs hM => ?_)
                refine lv_aload_n hx hb dX8_thing_131 rfl (lv_at hl 1 rfl) ?_
                refine gs_X8_33 E hM ok1 dX8_thing_132 (fun x176 hxx176 => ?_)
                replace h := k_bb h x176 hxx176.symm
                refine lv_iload_n hx hb dX8_thing_135 rfl (lv_at hl 0 rfl) ?_
                refine lv_iload_n hx hb dX8_thing_136 rfl (lv_at hl 0 rfl) ?_
                rcases x176 with _ | k177
                · cases h
                rw [cs_s] at h
                obtain ⟨ok178, h⟩ := k_gd h
                refine m_iast E hM ok178 dX8_thing_137 (fun H locs hM => ?_)
                refine lv_iconst (v := 0) hx hb dX8_thing_138 (by decide) ?_
                refine lv_istore (i := 4) (lv' := [(4, .int (0 : Int32)), (3, .int v166), (0, .ref (sz + r)), (1, .int p1), (2, .int p2)]) hx hb dX8_thing_139 hl (by decide) (by first | rfl | simp [rv_cat, cat_i, cat_l, cat_r, cat_n]) (fun ls hl => ?_)
                refine lp_X8_thing_141 hr hlk  E 1000 (0 : Int32) (sI (sI (sI (sI (sI (sI u r 1 (0 : Int32)) r 0 (0 : Int32)) k168 (Int32.toNatClampNeg v166) p1) k171 (Int32.toNatClampNeg v166) p2) k174 (Int32.toNatClampNeg v166) (-1 : Int32)) k177 (Int32.toNatClampNeg v166) v166) H locs ls hM (lv_sub hl [2, 3, 4, 1, 0] rfl) h (fun a179 u180 H locs ls hM hl h => ?_)
                refine lv_aload_n hx hb dX8_thing_167 rfl (lv_at hl 0 rfl) ?_
                obtain ⟨ok181, h⟩ := k_gd h
                refine gs_X8_39 E hM ok181 dX8_thing_168 (fun x182 hxx182 => ?_)
                replace h := k_bb h x182 hxx182.symm
                refine lv_iload_n hx hb dX8_thing_171 rfl (lv_at hl 3 rfl) ?_
                refine lv_iconst (v := (-1)) hx hb dX8_thing_172 (by decide) ?_
                rcases x182 with _ | k183
                · cases h
                rw [cs_s] at h
                obtain ⟨ok184, h⟩ := k_gd h
                refine m_iast E hM ok184 dX8_thing_173 (fun H locs hM => ?_)
                refine lv_aload_n hx hb dX8_thing_174 rfl (lv_at hl 0 rfl) ?_
                refine gs_X8_45 E hM ok181 dX8_thing_175 (fun x185 hxx185 => ?_)
                replace h := k_bb h x185 hxx185.symm
                refine lv_iload_n hx hb dX8_thing_178 rfl (lv_at hl 3 rfl) ?_
                refine lv_iconst (v := (-1)) hx hb dX8_thing_179 (by decide) ?_
                rcases x185 with _ | k186
                · cases h
                rw [cs_s] at h
                obtain ⟨ok187, h⟩ := k_gd h
                refine m_iast E hM ok187 dX8_thing_180 (fun H locs hM => ?_)
                refine lv_aload_n hx hb dX8_thing_181 rfl (lv_at hl 0 rfl) ?_
                refine gs_X8_51 E hM ok181 dX8_thing_182 (fun x188 hxx188 => ?_)
                replace h := k_bb h x188 hxx188.symm
                refine lv_iload_n hx hb dX8_thing_185 rfl (lv_at hl 3 rfl) ?_
                refine lv_iconst (v := (-1)) hx hb dX8_thing_186 (by decide) ?_
                rcases x188 with _ | k189
                · cases h
                rw [cs_s] at h
                obtain ⟨ok190, h⟩ := k_gd h
                refine m_iast E hM ok190 dX8_thing_187 (fun H locs hM => ?_)
                refine lv_aload_n hx hb dX8_thing_188 rfl (lv_at hl 0 rfl) ?_
                refine gs_X8_54 E hM ok181 dX8_thing_189 (fun x191 hxx191 => ?_)
                replace h := k_bb h x191 hxx191.symm
                refine lv_iload_n hx hb dX8_thing_192 rfl (lv_at hl 3 rfl) ?_
                refine lv_iconst (v := (-1)) hx hb dX8_thing_193 (by decide) ?_
                rcases x191 with _ | k192
                · cases h
                rw [cs_s] at h
                obtain ⟨ok193, h⟩ := k_gd h
                refine m_iast E hM ok193 dX8_thing_194 (fun H locs hM => ?_)
                refine lv_aload_n hx hb dX8_thing_195 rfl (lv_at hl 0 rfl) ?_
                refine gs_X8_57 E hM ok181 dX8_thing_196 (fun x194 hxx194 => ?_)
                replace h := k_bb h x194 hxx194.symm
                refine lv_iload_n hx hb dX8_thing_199 rfl (lv_at hl 3 rfl) ?_
                refine lv_iconst (v := (-1)) hx hb dX8_thing_200 (by decide) ?_
                rcases x194 with _ | k195
                · cases h
                rw [cs_s] at h
                obtain ⟨ok196, h⟩ := k_gd h
                refine m_iast E hM ok196 dX8_thing_201 (fun H locs hM => ?_)
                refine lv_aload_n hx hb dX8_thing_202 rfl (lv_at hl 0 rfl) ?_
                refine lv_dup hx hb dX8_thing_203 rfl ?_
                refine gs_X8_118 E hM ok181 dX8_thing_204 ?_
                refine lv_iconst (v := 1) hx hb dX8_thing_207 (by decide) ?_
                refine lv_iadd hx hb dX8_thing_208 ?_
                refine ps_X8_118 (v := ((gI (sI (sI (sI (sI (sI u180 k183 (Int32.toNatClampNeg v166) (-1 : Int32)) k186 (Int32.toNatClampNeg v166) (-1 : Int32)) k189 (Int32.toNatClampNeg v166) (-1 : Int32)) k192 (Int32.toNatClampNeg v166) (-1 : Int32)) k195 (Int32.toNatClampNeg v166) (-1 : Int32)) r 7) + (1 : Int32))) E hM ok181 dX8_thing_209 (fun H locs hM => ?_)
                refine lv_iload_n hx hb dX8_thing_212 rfl (lv_at hl 3 rfl) ?_
                cases h
                exact m_iret hx hb hr hlk hM rfl rfl dX8_thing_213
              · replace h := (k_if h).1 c165
                refine lv_aload_n hx hb dX8_thing_98 rfl (lv_at hl 0 rfl) ?_
                refine lv_bipush (v := 7) hx hb dX8_thing_99 (by decide) ?_
                obtain ⟨w197, hzw197, h⟩ := k_bd h
                refine m_callV (C := RX8) (T := TX8) (N := 33) (ci := 8) (n := 1) (As := [.int (7 : Int32)]) (rest := []) (st1 := (.int w197.1 :: [])) E hM hl.1 ok1 (by decide) rfl rfl (c_X8_refuse l D cy sz H0 (sI (sI u r 1 (0 : Int32)) r 0 (0 : Int32)) r (7 : Int32) hzw197) wl_X8_121 wm_X8_refuse ws_X8_refuse wi_X8 wd_X8_refuse rfl rfl (by decide +kernel) ⟨by decide, by decide⟩ rfl rfl (by first | exact Nat.le_of_ble_eq_true rfl | simp [rv_cat, cat_i, cat_l, cat_r, cat_n]) dX8_thing_101 ⟨by decide, by decide⟩ rfl (fun H locs hM => ?_)
                cases h
                exact m_iret hx hb hr hlk hM rfl rfl dX8_thing_104
            · replace h := (k_if h).2 c164
              refine lv_iload_n hx hb dX8_thing_67 rfl (lv_at hl 1 rfl) ?_
              refine lv_iconst (v := 3) hx hb dX8_thing_68 (by decide) ?_
              refine lv_icmp_ne (tgt := 82) hx hb dX8_thing_69 (by decide) (fun c198 => ?_) (fun c198 => ?_)
              · replace h := (k_if h).2 c198
                refine lv_aload_n hx hb dX8_thing_82 rfl (lv_at hl 0 rfl) ?_
                refine lv_bipush (v := 8) hx hb dX8_thing_83 (by decide) ?_
                obtain ⟨w199, hzw199, h⟩ := k_bd h
                refine m_callV (C := RX8) (T := TX8) (N := 33) (ci := 8) (n := 1) (As := [.int (8 : Int32)]) (rest := []) (st1 := (.int w199.1 :: [])) E hM hl.1 ok1 (by decide) rfl rfl (c_X8_refuse l D cy sz H0 (sI (sI u r 1 (0 : Int32)) r 0 (0 : Int32)) r (8 : Int32) hzw199) wl_X8_121 wm_X8_refuse ws_X8_refuse wi_X8 wd_X8_refuse rfl rfl (by decide +kernel) ⟨by decide, by decide⟩ rfl rfl (by first | exact Nat.le_of_ble_eq_true rfl | simp [rv_cat, cat_i, cat_l, cat_r, cat_n]) dX8_thing_85 ⟨by decide, by decide⟩ rfl (fun H locs hM => ?_)
                cases h
                exact m_iret hx hb hr hlk hM rfl rfl dX8_thing_88
              · replace h := (k_if h).1 c198
                refine lv_aload_n hx hb dX8_thing_72 rfl (lv_at hl 0 rfl) ?_
                refine gs_X8_24 E hM ok1 dX8_thing_73 (fun x200 hxx200 => ?_)
                replace h := k_bb h x200 hxx200.symm
                refine lv_iload_n hx hb dX8_thing_76 rfl (lv_at hl 2 rfl) ?_
                rcases x200 with _ | k201
                · cases h
                rw [cs_s] at h
                obtain ⟨ok202, h⟩ := k_gd h
                refine m_iald E hM ok202 dX8_thing_77 ?_
                refine lv_iconst (v := 1) hx hb dX8_thing_78 (by decide) ?_
                refine lv_icmp_eq (tgt := 89) hx hb dX8_thing_79 (by decide) (fun c203 => ?_) (fun c203 => ?_)
                · replace h := (k_if h).1 c203
                  refine lv_aload_n hx hb dX8_thing_89 rfl (lv_at hl 0 rfl) ?_
                  refine gs_X8_118 E hM ok1 dX8_thing_90 ?_
                  refine lv_bipush (v := 80) hx hb dX8_thing_93 (by decide) ?_
                  refine lv_icmp_ne (tgt := 105) hx hb dX8_thing_95 (by decide) (fun c204 => ?_) (fun c204 => ?_)
                  · replace h := (k_if h).2 c204
                    refine lv_aload_n hx hb dX8_thing_105 rfl (lv_at hl 0 rfl) ?_
                    refine gs_X8_118 E hM ok1 dX8_thing_106 ?_
                    refine lv_topi (fun v205 hvv205 => ?_)
                    replace h := k_bb h v205 hvv205
                    refine lv_istore_n (i := 3) (lv' := [(3, .int v205), (0, .ref (sz + r)), (1, .int p1), (2, .int p2)]) hx hb dX8_thing_109 rfl hl (by decide) (by first | rfl | simp [rv_cat, cat_i, cat_l, cat_r, cat_n]) (fun ls hl => ?_)
                    refine lv_aload_n hx hb dX8_thing_110 rfl (lv_at hl 1 rfl) ?_
                    refine gs_X8_24 E hM ok1 dX8_thing_111 (fun x206 hxx206 => ?_)
                    replace h := k_bb h x206 hxx206.symm
                    refine lv_iload_n hx hb dX8_thing_114 rfl (lv_at hl 0 rfl) ?_
                    refine lv_iload_n hx hb dX8_thing_115 rfl (lv_at hl 2 rfl) ?_
                    rcases x206 with _ | k207
                    · cases h
                    rw [cs_s] at h
                    obtain ⟨ok208, h⟩ := k_gd h
                    refine m_iast E hM ok208 dX8_thing_116 (fun H locs hM => ?_)
                    refine lv_aload_n hx hb dX8_thing_117 rfl (lv_at hl 1 rfl) ?_
                    refine gs_X8_27 E hM ok1 dX8_thing_118 (fun x209 hxx209 => ?_)
                    replace h := k_bb h x209 hxx209.symm
                    refine lv_iload_n hx hb dX8_thing_121 rfl (lv_at hl 0 rfl) ?_
                    refine lv_iload_n hx hb dX8_thing_122 rfl (lv_at hl 3 rfl) ?_
                    rcases x209 with _ | k210
                    · cases h
                    rw [cs_s] at h
                    obtain ⟨ok211, h⟩ := k_gd h
                    refine m_iast E hM ok211 dX8_thing_123 (fun H locs hM => ?_)
                    refine lv_aload_n hx hb dX8_thing_124 rfl (lv_at hl 1 rfl) ?_
                    refine gs_X8_30 E hM ok1 dX8_thing_125 (fun x212 hxx212 => ?_)
                    replace h := k_bb h x212 hxx212.symm
                    refine lv_iload_n hx hb dX8_thing_128 rfl (lv_at hl 0 rfl) ?_
                    refine lv_iconst (v := (-1)) hx hb dX8_thing_129 (by decide) ?_
                    rcases x212 with _ | k213
                    · cases h
                    rw [cs_s] at h
                    obtain ⟨ok214, h⟩ := k_gd h
                    refine m_iast E hM ok214 dX8_thing_130 (fun H locs hM => ?_)
                    refine lv_aload_n hx hb dX8_thing_131 rfl (lv_at hl 1 rfl) ?_
                    refine gs_X8_33 E hM ok1 dX8_thing_132 (fun x215 hxx215 => ?_)
                    replace h := k_bb h x215 hxx215.symm
                    refine lv_iload_n hx hb dX8_thing_135 rfl (lv_at hl 0 rfl) ?_
                    refine lv_iload_n hx hb dX8_thing_136 rfl (lv_at hl 0 rfl) ?_
                    rcases x215 with _ | k216
                    · cases h
                    rw [cs_s] at h
                    obtain ⟨ok217, h⟩ := k_gd h
                    refine m_iast E hM ok217 dX8_thing_137 (fun H locs hM => ?_)
                    refine lv_iconst (v := 0) hx hb dX8_thing_138 (by decide) ?_
                    refine lv_istore (i := 4) (lv' := [(4, .int (0 : Int32)), (3, .int v205), (0, .ref (sz + r)), (1, .int p1), (2, .int p2)]) hx hb dX8_thing_139 hl (by decide) (by first | rfl | simp [rv_cat, cat_i, cat_l, cat_r, cat_n]) (fun ls hl => ?_)
                    refine lp_X8_thing_141 hr hlk  E 1000 (0 : Int32) (sI (sI (sI (sI (sI (sI u r 1 (0 : Int32)) r 0 (0 : Int32)) k207 (Int32.toNatClampNeg v205) p1) k210 (Int32.toNatClampNeg v205) p2) k213 (Int32.toNatClampNeg v205) (-1 : Int32)) k216 (Int32.toNatClampNeg v205) v205) H locs ls hM (lv_sub hl [2, 3, 4, 1, 0] rfl) h (fun a218 u219 H locs ls hM hl h => ?_)
                    refine lv_aload_n hx hb dX8_thing_167 rfl (lv_at hl 0 rfl) ?_
                    obtain ⟨ok220, h⟩ := k_gd h
                    refine gs_X8_39 E hM ok220 dX8_thing_168 (fun x221 hxx221 => ?_)
                    replace h := k_bb h x221 hxx221.symm
                    refine lv_iload_n hx hb dX8_thing_171 rfl (lv_at hl 3 rfl) ?_
                    refine lv_iconst (v := (-1)) hx hb dX8_thing_172 (by decide) ?_
                    rcases x221 with _ | k222
                    · cases h
                    rw [cs_s] at h
                    obtain ⟨ok223, h⟩ := k_gd h
                    refine m_iast E hM ok223 dX8_thing_173 (fun H locs hM => ?_)
                    refine lv_aload_n hx hb dX8_thing_174 rfl (lv_at hl 0 rfl) ?_
                    refine gs_X8_45 E hM ok220 dX8_thing_175 (fun x224 hxx224 => ?_)
                    replace h := k_bb h x224 hxx224.symm
                    refine lv_iload_n hx hb dX8_thing_178 rfl (lv_at hl 3 rfl) ?_
                    refine lv_iconst (v := (-1)) hx hb dX8_thing_179 (by decide) ?_
                    rcases x224 with _ | k225
                    · cases h
                    rw [cs_s] at h
                    obtain ⟨ok226, h⟩ := k_gd h
                    refine m_iast E hM ok226 dX8_thing_180 (fun H locs hM => ?_)
                    refine lv_aload_n hx hb dX8_thing_181 rfl (lv_at hl 0 rfl) ?_
                    refine gs_X8_51 E hM ok220 dX8_thing_182 (fun x227 hxx227 => ?_)
                    replace h := k_bb h x227 hxx227.symm
                    refine lv_iload_n hx hb dX8_thing_185 rfl (lv_at hl 3 rfl) ?_
                    refine lv_iconst (v := (-1)) hx hb dX8_thing_186 (by decide) ?_
                    rcases x227 with _ | k228
                    · cases h
                    rw [cs_s] at h
                    obtain ⟨ok229, h⟩ := k_gd h
                    refine m_iast E hM ok229 dX8_thing_187 (fun H locs hM => ?_)
                    refine lv_aload_n hx hb dX8_thing_188 rfl (lv_at hl 0 rfl) ?_
                    refine gs_X8_54 E hM ok220 dX8_thing_189 (fun x230 hxx230 => ?_)
                    replace h := k_bb h x230 hxx230.symm
                    refine lv_iload_n hx hb dX8_thing_192 rfl (lv_at hl 3 rfl) ?_
                    refine lv_iconst (v := (-1)) hx hb dX8_thing_193 (by decide) ?_
                    rcases x230 with _ | k231
                    · cases h
                    rw [cs_s] at h
                    obtain ⟨ok232, h⟩ := k_gd h
                    refine m_iast E hM ok232 dX8_thing_194 (fun H locs hM => ?_)
                    refine lv_aload_n hx hb dX8_thing_195 rfl (lv_at hl 0 rfl) ?_
                    refine gs_X8_57 E hM ok220 dX8_thing_196 (fun x233 hxx233 => ?_)
                    replace h := k_bb h x233 hxx233.symm
                    refine lv_iload_n hx hb dX8_thing_199 rfl (lv_at hl 3 rfl) ?_
                    refine lv_iconst (v := (-1)) hx hb dX8_thing_200 (by decide) ?_
                    rcases x233 with _ | k234
                    · cases h
                    rw [cs_s] at h
                    obtain ⟨ok235, h⟩ := k_gd h
                    refine m_iast E hM ok235 dX8_thing_201 (fun H locs hM => ?_)
                    refine lv_aload_n hx hb dX8_thing_202 rfl (lv_at hl 0 rfl) ?_
                    refine lv_dup hx hb dX8_thing_203 rfl ?_
                    refine gs_X8_118 E hM ok220 dX8_thing_204 ?_
                    refine lv_iconst (v := 1) hx hb dX8_thing_207 (by decide) ?_
                    refine lv_iadd hx hb dX8_thing_208 ?_
                    refine ps_X8_118 (v := ((gI (sI (sI (sI (sI (sI u219 k222 (Int32.toNatClampNeg v205) (-1 : Int32)) k225 (Int32.toNatClampNeg v205) (-1 : Int32)) k228 (Int32.toNatClampNeg v205) (-1 : Int32)) k231 (Int32.toNatClampNeg v205) (-1 : Int32)) k234 (Int32.toNatClampNeg v205) (-1 : Int32)) r 7) + (1 : Int32))) E hM ok220 dX8_thing_209 (fun H locs hM => ?_)
                    refine lv_iload_n hx hb dX8_thing_212 rfl (lv_at hl 3 rfl) ?_
                    cases h
                    exact m_iret hx hb hr hlk hM rfl rfl dX8_thing_213
                  · replace h := (k_if h).1 c204
                    refine lv_aload_n hx hb dX8_thing_98 rfl (lv_at hl 0 rfl) ?_
                    refine lv_bipush (v := 7) hx hb dX8_thing_99 (by decide) ?_
                    obtain ⟨w236, hzw236, h⟩ := k_bd h
                    refine m_callV (C := RX8) (T := TX8) (N := 33) (ci := 8) (n := 1) (As := [.int (7 : Int32)]) (rest := []) (st1 := (.int w236.1 :: [])) E hM hl.1 ok1 (by decide) rfl rfl (c_X8_refuse l D cy sz H0 (sI (sI u r 1 (0 : Int32)) r 0 (0 : Int32)) r (7 : Int32) hzw236) wl_X8_121 wm_X8_refuse ws_X8_refuse wi_X8 wd_X8_refuse rfl rfl (by decide +kernel) ⟨by decide, by decide⟩ rfl rfl (by first | exact Nat.le_of_ble_eq_true rfl | simp [rv_cat, cat_i, cat_l, cat_r, cat_n]) dX8_thing_101 ⟨by decide, by decide⟩ rfl (fun H locs hM => ?_)
                    cases h
                    exact m_iret hx hb hr hlk hM rfl rfl dX8_thing_104
                · replace h := (k_if h).2 c203
                  refine lv_aload_n hx hb dX8_thing_82 rfl (lv_at hl 0 rfl) ?_
                  refine lv_bipush (v := 8) hx hb dX8_thing_83 (by decide) ?_
                  obtain ⟨w237, hzw237, h⟩ := k_bd h
                  refine m_callV (C := RX8) (T := TX8) (N := 33) (ci := 8) (n := 1) (As := [.int (8 : Int32)]) (rest := []) (st1 := (.int w237.1 :: [])) E hM hl.1 ok1 (by decide) rfl rfl (c_X8_refuse l D cy sz H0 (sI (sI u r 1 (0 : Int32)) r 0 (0 : Int32)) r (8 : Int32) hzw237) wl_X8_121 wm_X8_refuse ws_X8_refuse wi_X8 wd_X8_refuse rfl rfl (by decide +kernel) ⟨by decide, by decide⟩ rfl rfl (by first | exact Nat.le_of_ble_eq_true rfl | simp [rv_cat, cat_i, cat_l, cat_r, cat_n]) dX8_thing_85 ⟨by decide, by decide⟩ rfl (fun H locs hM => ?_)
                  cases h
                  exact m_iret hx hb hr hlk hM rfl rfl dX8_thing_88
        · replace h := (k_if h).2 c126
          refine lv_goto (tgt := 45) hx hb dX8_thing_34 (by decide) ?_
          refine lv_aload_n hx hb dX8_thing_45 rfl (lv_at hl 0 rfl) ?_
          refine lv_iconst (v := 2) hx hb dX8_thing_46 (by decide) ?_
          obtain ⟨w238, hzw238, h⟩ := k_bd h
          refine m_callV (C := RX8) (T := TX8) (N := 33) (ci := 8) (n := 1) (As := [.int (2 : Int32)]) (rest := []) (st1 := (.int w238.1 :: [])) E hM hl.1 ok1 (by decide) rfl rfl (c_X8_refuse l D cy sz H0 (sI (sI u r 1 (0 : Int32)) r 0 (0 : Int32)) r (2 : Int32) hzw238) wl_X8_121 wm_X8_refuse ws_X8_refuse wi_X8 wd_X8_refuse rfl rfl (by decide +kernel) ⟨by decide, by decide⟩ rfl rfl (by first | exact Nat.le_of_ble_eq_true rfl | simp [rv_cat, cat_i, cat_l, cat_r, cat_n]) dX8_thing_47 ⟨by decide, by decide⟩ rfl (fun H locs hM => ?_)
          cases h
          exact m_iret hx hb hr hlk hM rfl rfl dX8_thing_50
    · replace h := (k_if h).2 c4
      refine lv_aload_n hx hb dX8_thing_19 rfl (lv_at hl 0 rfl) ?_
      refine lv_iconst (v := 5) hx hb dX8_thing_20 (by decide) ?_
      obtain ⟨w239, hzw239, h⟩ := k_bd h
      refine m_callV (C := RX8) (T := TX8) (N := 33) (ci := 8) (n := 1) (As := [.int (5 : Int32)]) (rest := []) (st1 := (.int w239.1 :: [])) E hM hl.1 ok1 (by decide) rfl rfl (c_X8_refuse l D cy sz H0 (sI (sI u r 1 (0 : Int32)) r 0 (0 : Int32)) r (5 : Int32) hzw239) wl_X8_121 wm_X8_refuse ws_X8_refuse wi_X8 wd_X8_refuse rfl rfl (by decide +kernel) ⟨by decide, by decide⟩ rfl rfl (by first | exact Nat.le_of_ble_eq_true rfl | simp [rv_cat, cat_i, cat_l, cat_r, cat_n]) dX8_thing_21 ⟨by decide, by decide⟩ rfl (fun H locs hM => ?_)
      cases h
      exact m_iret hx hb hr hlk hM rfl rfl dX8_thing_24

