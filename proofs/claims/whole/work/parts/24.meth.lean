abbrev rm_X8_upper : Room := { frames := 0, cells := 0, slots := 0, locals := 0 }
def f_X8_upper (r : Nat) (u : Mm) : Option ((Int64) × Mm) := gd (okO u r 8) (some ((gL (sI u r 1 (0 : Int32)) r 2), (sI u r 1 (0 : Int32))))
set_option maxHeartbeats 4000000 in
set_option maxRecDepth 100000 in
theorem c_X8_upper (l : Launch) (D : va_G) (cy : Nat → ClassId) (sz : Nat) (H0 : Heap) (u : Mm) (r : Nat) {res : (Int64) × Mm} (h : f_X8_upper r u = some res) : Ctr l yX8_upper cX8_upper 1 (some .long) rm_X8_upper 0 0 D cy sz H0 u [.ref (sz + r)] (some (.long res.1)) res.2 := by
  refine m_start (lv := [(0, .ref (sz + r))]) (by decide) (by first | exact Nat.le_of_ble_eq_true rfl | simp [lg_sl, rv_cat, cat_i, cat_l, cat_r, cat_n]) (by first | rfl | simp [lv_args, rv_cat, cat_i, cat_l, cat_r, cat_n]) ?_
  intro p e s m below meth c ls E hr hlk hinit hM hl
  obtain ⟨hx, hb, hml, hown, hts, hKK⟩ := id E
  obtain ⟨H, hH⟩ : ∃ H, H = s.heap := ⟨_, rfl⟩
  obtain ⟨locs, hlocs⟩ : ∃ L : List Loc, L = [] := ⟨_, rfl⟩
  rw [← hH, ← hlocs] at hM ⊢
  unfold f_X8_upper at h
  refine lv_aload_n hx hb dX8_upper_0 rfl (lv_at hl 0 rfl) ?_
  refine lv_iconst (v := 0) hx hb dX8_upper_1 (by decide) ?_
  obtain ⟨ok1, h⟩ := k_gd h
  refine ps_X8_93 (v := (0 : Int32)) E hM ok1 dX8_upper_2 (fun H locs hM => ?_)
  refine lv_aload_n hx hb dX8_upper_5 rfl (lv_at hl 0 rfl) ?_
  refine gs_X8_209 E hM ok1 dX8_upper_6 ?_
  cases h
  exact m_lret hx hb hr hlk hM rfl rfl dX8_upper_9

abbrev rm_X8_lower : Room := { frames := 0, cells := 0, slots := 0, locals := 0 }
def f_X8_lower (r : Nat) (u : Mm) : Option ((Int64) × Mm) := gd (okO u r 8) (some ((gL (sI u r 1 (0 : Int32)) r 3), (sI u r 1 (0 : Int32))))
set_option maxHeartbeats 4000000 in
set_option maxRecDepth 100000 in
theorem c_X8_lower (l : Launch) (D : va_G) (cy : Nat → ClassId) (sz : Nat) (H0 : Heap) (u : Mm) (r : Nat) {res : (Int64) × Mm} (h : f_X8_lower r u = some res) : Ctr l yX8_lower cX8_lower 1 (some .long) rm_X8_lower 0 0 D cy sz H0 u [.ref (sz + r)] (some (.long res.1)) res.2 := by
  refine m_start (lv := [(0, .ref (sz + r))]) (by decide) (by first | exact Nat.le_of_ble_eq_true rfl | simp [lg_sl, rv_cat, cat_i, cat_l, cat_r, cat_n]) (by first | rfl | simp [lv_args, rv_cat, cat_i, cat_l, cat_r, cat_n]) ?_
  intro p e s m below meth c ls E hr hlk hinit hM hl
  obtain ⟨hx, hb, hml, hown, hts, hKK⟩ := id E
  obtain ⟨H, hH⟩ : ∃ H, H = s.heap := ⟨_, rfl⟩
  obtain ⟨locs, hlocs⟩ : ∃ L : List Loc, L = [] := ⟨_, rfl⟩
  rw [← hH, ← hlocs] at hM ⊢
  unfold f_X8_lower at h
  refine lv_aload_n hx hb dX8_lower_0 rfl (lv_at hl 0 rfl) ?_
  refine lv_iconst (v := 0) hx hb dX8_lower_1 (by decide) ?_
  obtain ⟨ok1, h⟩ := k_gd h
  refine ps_X8_93 (v := (0 : Int32)) E hM ok1 dX8_lower_2 (fun H locs hM => ?_)
  refine lv_aload_n hx hb dX8_lower_5 rfl (lv_at hl 0 rfl) ?_
  refine gs_X8_7 E hM ok1 dX8_lower_6 ?_
  cases h
  exact m_lret hx hb hr hlk hM rfl rfl dX8_lower_9

