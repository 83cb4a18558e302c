abbrev rm_X0_init : Room := { frames := 1, cells := 3, slots := 240, locals := 36 }
def f_X0_init (r : Nat) (u : Mm) : Option (Mm) := gd (okM u 12 80) (bb (u.1) (fun q2 => gd (okO (nw u) r 0) (gd (okM (sI (sR (nw u) r 0 (some q2)) r 1 (0 : Int32)) 12 80) (bb ((sI (sR (nw u) r 0 (some q2)) r 1 (0 : Int32)).1) (fun q5 => gd (okM (sR (nw (sI (sR (nw u) r 0 (some q2)) r 1 (0 : Int32))) r 2 (some q5)) 11 80) (bb ((sR (nw (sI (sR (nw u) r 0 (some q2)) r 1 (0 : Int32))) r 2 (some q5)).1) (fun q7 => some (sR (nw (sR (nw (sI (sR (nw u) r 0 (some q2)) r 1 (0 : Int32))) r 2 (some q5))) r 3 (some q7)))))))))
set_option maxHeartbeats 4000000 in
set_option maxRecDepth 100000 in
theorem c_X0_init (l : Launch) (D : va_G) (cy : Nat → ClassId) (sz : Nat) (H0 : Heap) (u : Mm) (r : Nat) {res : Mm} (h : f_X0_init r u = some res) : Ctr l yX0_init cX0_init 1 none rm_X0_init 3 240 D cy sz H0 u [.ref (sz + r)] none res := by
  refine m_start (lv := [(0, .ref (sz + r))]) (by decide) (by first | exact Nat.le_of_ble_eq_true rfl | simp [lg_sl, rv_cat, cat_i, cat_l, cat_r, cat_n]) (by first | rfl | simp [lv_args, rv_cat, cat_i, cat_l, cat_r, cat_n]) ?_
  intro p e s m below meth c ls E hr hlk hinit hM hl
  obtain ⟨hx, hb, hml, hown, hts, hKK⟩ := id E
  obtain ⟨H, hH⟩ : ∃ H, H = s.heap := ⟨_, rfl⟩
  obtain ⟨locs, hlocs⟩ : ∃ L : List Loc, L = [] := ⟨_, rfl⟩
  rw [← hH, ← hlocs] at hM ⊢
  unfold f_X0_init at h
  refine lv_aload_n hx hb dX0_init_0 rfl (lv_at hl 0 rfl) ?_
  refine m_obj E hl.1 wl_X0_3 wm_objectInit wd_objectInit dX0_init_1 (by decide) (Nat.le_of_ble_eq_true rfl) ?_
  refine lv_aload_n hx hb dX0_init_4 rfl (lv_at hl 0 rfl) ?_
  refine lv_bipush (v := 80) hx hb dX0_init_5 (by decide) ?_
  obtain ⟨ok1, h⟩ := k_gd h
  obtain ⟨q2, hq2⟩ : ∃ y : Nat, y = (u).1 := ⟨_, rfl⟩
  replace h := k_bb h q2 hq2
  refine m_newq hq2 (sh := 12) (N := 80) (by decide) rfl 3 rfl hKK.2.1 wc_X0_9 E hM ok1 (by decide) (by decide) (by decide) (by decide) (by decide) dX0_init_7 (fun H hM => ?_)
  obtain ⟨ok3, h⟩ := k_gd h
  refine ps_X0_11 (v := (some q2)) E hM ok3 hinit dX0_init_10 (fun H locs hM => ?_)
  refine lv_aload_n hx hb dX0_init_13 rfl (lv_at hl 0 rfl) ?_
  refine lv_iconst (v := 0) hx hb dX0_init_14 (by decide) ?_
  refine ps_X0_17 (v := (0 : Int32)) E hM ok3 dX0_init_15 (fun H locs hM => ?_)
  refine lv_aload_n hx hb dX0_init_18 rfl (lv_at hl 0 rfl) ?_
  refine lv_bipush (v := 80) hx hb dX0_init_19 (by decide) ?_
  obtain ⟨ok4, h⟩ := k_gd h
  obtain ⟨q5, hq5⟩ : ∃ y : Nat, y = ((sI (sR (nw u) r 0 (some q2)) r 1 (0 : Int32))).1 := ⟨_, rfl⟩
  replace h := k_bb h q5 hq5
  refine m_newq hq5 (sh := 12) (N := 80) (by decide) rfl 3 rfl hKK.2.1 wc_X0_9 E hM ok4 (by decide) (by decide) (by decide) (by decide) (by decide) dX0_init_21 (fun H hM => ?_)
  refine ps_X0_21 (v := (some q5)) E hM (okO_nw ok3) hinit dX0_init_24 (fun H locs hM => ?_)
  refine lv_aload_n hx hb dX0_init_27 rfl (lv_at hl 0 rfl) ?_
  refine lv_bipush (v := 80) hx hb dX0_init_28 (by decide) ?_
  obtain ⟨ok6, h⟩ := k_gd h
  obtain ⟨q7, hq7⟩ : ∃ y : Nat, y = ((sR (nw (sI (sR (nw u) r 0 (some q2)) r 1 (0 : Int32))) r 2 (some q5))).1 := ⟨_, rfl⟩
  replace h := k_bb h q7 hq7
  refine m_newa hq7 (sh := 11) (ty := .boolean) (N := 80) (by decide) rfl 2 rfl (fun U h => h) wa_boolean E hM ok6 (by decide) (by decide) (by decide) (nw_i _).symm (fun j => (nw_i j).trans (nw_i 0).symm) (by decide) (by decide) dX0_init_30 (fun H hM => ?_)
  refine ps_X0_24 (v := (some q7)) E hM (okO_nw (okO_nw ok3)) hinit dX0_init_32 (fun H locs hM => ?_)
  cases h
  exact m_vret hx hb hr hlk hM rfl dX0_init_35

abbrev rm_X0_at : Room := { frames := 0, cells := 0, slots := 0, locals := 0 }
def f_X0_at (r : Nat) (p1 : Int32) (u : Mm) : Option (Option Nat) := (if p1 < 0 then some (none : Option Nat) else gd (okO u r 0) ((if (gI u r 1) ≤ p1 then some (none : Option Nat) else bb (gR u r 0) (fun x4 => cs x4 none (fun k5 => gd (okA u k5 12 p1) (bb (gR u k5 (Int32.toNatClampNeg p1)) (fun x7 => some x7)))))))
set_option maxHeartbeats 4000000 in
set_option maxRecDepth 100000 in
theorem c_X0_at (l : Launch) (D : va_G) (cy : Nat → ClassId) (sz : Nat) (H0 : Heap) (u : Mm) (r : Nat) (p1 : Int32) {res : Option Nat} (h : f_X0_at r p1 u = some res) : Ctr l yX0_at cX0_at 2 (some (.object "BoxArchive$Thing")) rm_X0_at 0 0 D cy sz H0 u [.ref (sz + r), .int p1] (some (rv sz res)) u := by
  refine m_start (lv := [(0, .ref (sz + r)), (1, .int p1)]) (by decide) (by first | exact Nat.le_of_ble_eq_true rfl | simp [lg_sl, rv_cat, cat_i, cat_l, cat_r, cat_n]) (by first | rfl | simp [lv_args, rv_cat, cat_i, cat_l, cat_r, cat_n]) ?_
  intro p e s m below meth c ls E hr hlk hinit hM hl
  obtain ⟨hx, hb, hml, hown, hts, hKK⟩ := id E
  obtain ⟨H, hH⟩ : ∃ H, H = s.heap := ⟨_, rfl⟩
  obtain ⟨locs, hlocs⟩ : ∃ L : List Loc, L = [] := ⟨_, rfl⟩
  rw [← hH, ← hlocs] at hM ⊢
  unfold f_X0_at at h
  refine lv_iload_n hx hb dX0_at_0 rfl (lv_at hl 1 rfl) ?_
  refine lv_if_lt (tgt := 21) hx hb dX0_at_1 (by decide) (fun c1 => ?_) (fun c1 => ?_)
  · replace h := (k_if h).1 c1
    refine lv_null hx hb dX0_at_21 ?_
    cases h
    exact m_aret (x := (none : Option Nat)) (sz := sz) hx hb hr hlk hM rfl rfl dX0_at_22
  · replace h := (k_if h).2 c1
    refine lv_iload_n hx hb dX0_at_4 rfl (lv_at hl 1 rfl) ?_
    refine lv_aload_n hx hb dX0_at_5 rfl (lv_at hl 0 rfl) ?_
    obtain ⟨ok2, h⟩ := k_gd h
    refine gs_X0_17 E hM ok2 dX0_at_6 ?_
    refine lv_icmp_ge (tgt := 21) hx hb dX0_at_9 (by decide) (fun c3 => ?_) (fun c3 => ?_)
    · replace h := (k_if h).1 c3
      refine lv_null hx hb dX0_at_21 ?_
      cases h
      exact m_aret (x := (none : Option Nat)) (sz := sz) hx hb hr hlk hM rfl rfl dX0_at_22
    · replace h := (k_if h).2 c3
      refine lv_aload_n hx hb dX0_at_12 rfl (lv_at hl 0 rfl) ?_
      refine gs_X0_11 E hM ok2 dX0_at_13 (fun x4 hxx4 => ?_)
      replace h := k_bb h x4 hxx4.symm
      refine lv_iload_n hx hb dX0_at_16 rfl (lv_at hl 1 rfl) ?_
      rcases x4 with _ | k5
      · cases h
      rw [cs_s] at h
      obtain ⟨ok6, h⟩ := k_gd h
      refine m_aald (sh := 12) (tp := 3) (by decide) rfl rfl E hM ok6 dX0_at_17 (fun x7 hxx7 => ?_)
      replace h := k_bb h x7 hxx7.symm
      refine lv_goto (tgt := 22) hx hb dX0_at_18 (by decide) ?_
      cases h
      exact m_aret (sz := sz) hx hb hr hlk hM rfl rfl dX0_at_22

abbrev rm_J7_fill_53178 : Room := { frames := 0, cells := 0, slots := 0, locals := 0 }
def L_J7_fill_53178_5 (b0 : Nat) (b1 : Int32) (b3 : Int32) (k : Int32 → Mm → Option (Mm)) : Nat → Int32 → Mm → Option (Mm)
  | 0, _, _ => none
  | n + 1, a2, u => (if b3 ≤ a2 then k a2 u else gd (okA u b0 9 a2) (bb (a2 + (1)) (fun v6 => L_J7_fill_53178_5 b0 b1 b3 k n v6 (sI u b0 (Int32.toNatClampNeg a2) b1))))
set_option maxHeartbeats 4000000 in
set_option maxRecDepth 100000 in
theorem lp_J7_fill_53178_5 {p : Program} {l : Launch} {e : Env} {s : State} {m : MethodId} {args : Array Value} {below : List Frame} {meth : Method} {c : Code} {D : va_G} {cy : Nat → ClassId} {sz : Nat} {H0 : Heap} {b0 : Nat} {b1 : Int32} {b3 : Int32} {k : Int32 → Mm → Option (Mm)} {res : Mm} (hr : meth.sig.returnType = none) (hlk : meth.locks = false) (E : EE p s m args c cJ7_fill_53178 4 RJ7 D cy) : ∀ (n : Nat) (a2 : Int32) (u : Mm) (H : Heap) (locs : List Loc) (ls : Array Slot), MM D cy sz H0 u H locs → lv_has ls 4 [(0, .ref (sz + b0)), (1, .int b1), (2, .int a2), (3, .int b3)] → L_J7_fill_53178_5 b0 b1 b3 k n a2 u = some res → (∀ (a2 : Int32) (u : Mm) (H : Heap) (locs : List Loc) (ls : Array Slot), MM D cy sz H0 u H locs → lv_has ls 4 [(0, .ref (sz + b0)), (1, .int b1), (2, .int a2), (3, .int b3)] → k a2 u = some res → W p l e rm_J7_fill_53178 s m args below meth c H locs 0 0 (MQ below (Post D cy sz H0 none res) args s 0 0 (fun q => sz ≤ q)) (F0 m 20 ls [])) → W p l e rm_J7_fill_53178 s m args below meth c H locs 0 0 (MQ below (Post D cy sz H0 none res) args s 0 0 (fun q => sz ≤ q)) (F0 m 5 ls []) := by
  obtain ⟨hx, hb, hml, hown, hts, hKK⟩ := id E
  intro n
  induction n with
  | zero => intros; rename_i h _; cases h
  | succ n ih =>
    intro a2 u H locs ls hM hl h hk
    rw [L_J7_fill_53178_5] at h
    refine lv_iload_n hx hb dJ7_fill_53178_5 rfl (lv_at hl 2 rfl) ?_
    refine lv_iload_n hx hb dJ7_fill_53178_6 rfl (lv_at hl 3 rfl) ?_
    refine lv_icmp_ge (tgt := 20) hx hb dJ7_fill_53178_7 (by decide) (fun c4 => ?_) (fun c4 => ?_)
    · replace h := (k_if h).1 c4
      exact hk a2 u H locs ls hM (lv_sub hl [0, 1, 2, 3] rfl) h
    · replace h := (k_if h).2 c4
      refine lv_aload_n hx hb dJ7_fill_53178_10 rfl (lv_at hl 0 rfl) ?_
      refine lv_iload_n hx hb dJ7_fill_53178_11 rfl (lv_at hl 2 rfl) ?_
      refine lv_iload_n hx hb dJ7_fill_53178_12 rfl (lv_at hl 1 rfl) ?_
      obtain ⟨ok5, h⟩ := k_gd h
      refine m_iast E hM ok5 dJ7_fill_53178_13 (fun H locs hM => ?_)
      obtain ⟨v6, hvv6⟩ : ∃ y : Int32, y = a2 + (1) := ⟨_, rfl⟩
      replace h := k_bb h v6 hvv6
      refine lv_iinc (v := v6) (lv' := [(2, .int v6), (0, .ref (sz + b0)), (1, .int b1), (3, .int b3)]) hx hb dJ7_fill_53178_14 hl (k := 2) rfl (by rw [hvv6]; rfl) (by decide) (by first | rfl | simp [rv_cat, cat_i, cat_l, cat_r, cat_n]) (fun ls hl => ?_)
      refine lv_goto (tgt := 5) hx hb dJ7_fill_53178_17 (by decide) ?_
      exact ih v6 (sI u b0 (Int32.toNatClampNeg a2) b1) H locs ls hM (lv_sub hl [1, 2, 0, 3] rfl) h hk

def f_J7_fill_53178 (p1 : Option Nat) (p2 : Int32) (u : Mm) : Option (Mm) := cs p1 none (fun k1 => gd (okO u k1 9) (bb ((Int32.ofNat (aln k1))) (fun v3 => L_J7_fill_53178_5 k1 p2 v3  (fun a7 u8 => some u8) 1000 (0 : Int32) u)))
set_option maxHeartbeats 4000000 in
set_option maxRecDepth 100000 in
theorem c_J7_fill_53178 (l : Launch) (D : va_G) (cy : Nat → ClassId) (sz : Nat) (H0 : Heap) (u : Mm) (p1 : Option Nat) (p2 : Int32) {res : Mm} (h : f_J7_fill_53178 p1 p2 u = some res) : Ctr l yJ7_fill_53178 cJ7_fill_53178 4 none rm_J7_fill_53178 0 0 D cy sz H0 u [rv sz p1, .int p2] none res := by
  refine m_start (lv := [(0, rv sz p1), (1, .int p2)]) (by decide) (by first | exact Nat.le_of_ble_eq_true rfl | simp [lg_sl, rv_cat, cat_i, cat_l, cat_r, cat_n]) (by first | rfl | simp [lv_args, rv_cat, cat_i, cat_l, cat_r, cat_n]) ?_
  intro p e s m below meth c ls E hr hlk hinit hM hl
  obtain ⟨hx, hb, hml, hown, hts, hKK⟩ := id E
  obtain ⟨H, hH⟩ : ∃ H, H = s.heap := ⟨_, rfl⟩
  obtain ⟨locs, hlocs⟩ : ∃ L : List Loc, L = [] := ⟨_, rfl⟩
  rw [← hH, ← hlocs] at hM ⊢
  unfold f_J7_fill_53178 at h
  refine lv_iconst (v := 0) hx hb dJ7_fill_53178_0 (by decide) ?_
  refine lv_istore_n (i := 2) (lv' := [(2, .int (0 : Int32)), (0, rv sz p1), (1, .int p2)]) hx hb dJ7_fill_53178_1 rfl hl (by decide) (by first | rfl | simp [rv_cat, cat_i, cat_l, cat_r, cat_n]) (fun ls hl => ?_)
  refine m_aload_n hx hb dJ7_fill_53178_2 rfl (lv_at hl 1 rfl) ?_
  rcases p1 with _ | k1
  · cases h
  rw [cs_s] at h
  obtain ⟨ok2, h⟩ := k_gd h
  refine m_alen (sh := 9) (tp := 0) (by decide) rfl E hM ok2 dJ7_fill_53178_3 ?_
  refine lv_topi (fun v3 hvv3 => ?_)
  replace h := k_bb h v3 hvv3
  refine lv_istore_n (i := 3) (lv' := [(3, .int v3), (2, .int (0 : Int32)), (0, .ref (sz + k1)), (1, .int p2)]) hx hb dJ7_fill_53178_4 rfl hl (by decide) (by first | rfl | simp [rv_cat, cat_i, cat_l, cat_r, cat_n]) (fun ls hl => ?_)
  refine lp_J7_fill_53178_5 hr hlk  E 1000 (0 : Int32) u H locs ls hM (lv_sub hl [2, 3, 1, 0] rfl) h (fun a7 u8 H locs ls hM hl h => ?_)
  cases h
  exact m_vret hx hb hr hlk hM rfl dJ7_fill_53178_20

abbrev rm_X5_init : Room := { frames := 1, cells := 1, slots := 6, locals := 36 }
def f_X5_init (r : Nat) (p1 : Int32) (p2 : Int32) (p3 : Option Nat) (u : Mm) : Option (Mm) := gd (okM u 9 6) (bb (u.1) (fun q2 => gd (okO (nw u) r 5) (bb (gR (sI (sR (sI (sI (sI (sI (sI (sI (sI (sI (sR (nw u) r 3 (some q2)) r 4 (-1 : Int32)) r 5 (-1 : Int32)) r 6 (-1 : Int32)) r 7 (-1 : Int32)) r 8 (0 : Int32)) r 9 (-1 : Int32)) r 0 p1) r 1 p2) r 2 p3) r 10 p1) r 3) (fun x4 => bd (f_J7_fill_53178 x4 (-1 : Int32) (sI (sR (sI (sI (sI (sI (sI (sI (sI (sI (sR (nw u) r 3 (some q2)) r 4 (-1 : Int32)) r 5 (-1 : Int32)) r 6 (-1 : Int32)) r 7 (-1 : Int32)) r 8 (0 : Int32)) r 9 (-1 : Int32)) r 0 p1) r 1 p2) r 2 p3) r 10 p1)) (fun w5 => some w5)))))
set_option maxHeartbeats 4000000 in
set_option maxRecDepth 100000 in
theorem c_X5_init (l : Launch) (D : va_G) (cy : Nat → ClassId) (sz : Nat) (H0 : Heap) (u : Mm) (r : Nat) (p1 : Int32) (p2 : Int32) (p3 : Option Nat) {res : Mm} (h : f_X5_init r p1 p2 p3 u = some res) : Ctr l yX5_init cX5_init 4 none rm_X5_init 1 6 D cy sz H0 u [.ref (sz + r), .int p1, .int p2, rv sz p3] none res := by
  refine m_start (lv := [(0, .ref (sz + r)), (1, .int p1), (2, .int p2), (3, rv sz p3)]) (by decide) (by first | exact Nat.le_of_ble_eq_true rfl | simp [lg_sl, rv_cat, cat_i, cat_l, cat_r, cat_n]) (by first | rfl | simp [lv_args, rv_cat, cat_i, cat_l, cat_r, cat_n]) ?_
  intro p e s m below meth c ls E hr hlk hinit hM hl
  obtain ⟨hx, hb, hml, hown, hts, hKK⟩ := id E
  obtain ⟨H, hH⟩ : ∃ H, H = s.heap := ⟨_, rfl⟩
  obtain ⟨locs, hlocs⟩ : ∃ L : List Loc, L = [] := ⟨_, rfl⟩
  rw [← hH, ← hlocs] at hM ⊢
  unfold f_X5_init at h
  refine lv_aload_n hx hb dX5_init_0 rfl (lv_at hl 0 rfl) ?_
  refine m_obj E hl.1 wl_X5_3 wm_objectInit wd_objectInit dX5_init_1 (by decide) (Nat.le_of_ble_eq_true rfl) ?_
  refine lv_aload_n hx hb dX5_init_4 rfl (lv_at hl 0 rfl) ?_
  refine lv_bipush (v := 6) hx hb dX5_init_5 (by decide) ?_
  obtain ⟨ok1, h⟩ := k_gd h
  obtain ⟨q2, hq2⟩ : ∃ y : Nat, y = (u).1 := ⟨_, rfl⟩
  replace h := k_bb h q2 hq2
  refine m_newa hq2 (sh := 9) (ty := .int) (N := 6) (by decide) rfl 0 rfl (fun U h => h) wa_int E hM ok1 (by decide) (by decide) (by decide) (nw_i _).symm (fun j => (nw_i j).trans (nw_i 0).symm) (by decide) (by decide) dX5_init_7 (fun H hM => ?_)
  obtain ⟨ok3, h⟩ := k_gd h
  refine ps_X5_9 (v := (some q2)) E hM ok3 hinit dX5_init_9 (fun H locs hM => ?_)
  refine lv_aload_n hx hb dX5_init_12 rfl (lv_at hl 0 rfl) ?_
  refine lv_iconst (v := (-1)) hx hb dX5_init_13 (by decide) ?_
  refine ps_X5_15 (v := (-1 : Int32)) E hM ok3 dX5_init_14 (fun H locs hM => ?_)
  refine lv_aload_n hx hb dX5_init_17 rfl (lv_at hl 0 rfl) ?_
  refine lv_iconst (v := (-1)) hx hb dX5_init_18 (by decide) ?_
  refine ps_X5_19 (v := (-1 : Int32)) E hM ok3 dX5_init_19 (fun H locs hM => ?_)
  refine lv_aload_n hx hb dX5_init_22 rfl (lv_at hl 0 rfl) ?_
  refine lv_iconst (v := (-1)) hx hb dX5_init_23 (by decide) ?_
  refine ps_X5_22 (v := (-1 : Int32)) E hM ok3 dX5_init_24 (fun H locs hM => ?_)
  refine lv_aload_n hx hb dX5_init_27 rfl (lv_at hl 0 rfl) ?_
  refine lv_iconst (v := (-1)) hx hb dX5_init_28 (by decide) ?_
  refine ps_X5_25 (v := (-1 : Int32)) E hM ok3 dX5_init_29 (fun H locs hM => ?_)
  refine lv_aload_n hx hb dX5_init_32 rfl (lv_at hl 0 rfl) ?_
  refine lv_iconst (v := 0) hx hb dX5_init_33 (by decide) ?_
  refine ps_X5_28 (v := (0 : Int32)) E hM ok3 dX5_init_34 (fun H locs hM => ?_)
  refine lv_aload_n hx hb dX5_init_37 rfl (lv_at hl 0 rfl) ?_
  refine lv_iconst (v := (-1)) hx hb dX5_init_38 (by decide) ?_
  refine ps_X5_31 (v := (-1 : Int32)) E hM ok3 dX5_init_39 (fun H locs hM => ?_)
  refine lv_aload_n hx hb dX5_init_42 rfl (lv_at hl 0 rfl) ?_
  refine lv_iload_n hx hb dX5_init_43 rfl (lv_at hl 1 rfl) ?_
  refine ps_X5_34 (v := p1) E hM ok3 hinit dX5_init_44 (fun H locs hM => ?_)
  refine lv_aload_n hx hb dX5_init_47 rfl (lv_at hl 0 rfl) ?_
  refine lv_iload_n hx hb dX5_init_48 rfl (lv_at hl 2 rfl) ?_
  refine ps_X5_37 (v := p2) E hM ok3 hinit dX5_init_49 (fun H locs hM => ?_)
  refine lv_aload_n hx hb dX5_init_52 rfl (lv_at hl 0 rfl) ?_
  refine m_aload_n hx hb dX5_init_53 rfl (lv_at hl 3 rfl) ?_
  refine ps_X5_40 (v := p3) E hM ok3 hinit dX5_init_54 (fun H locs hM => ?_)
  refine lv_aload_n hx hb dX5_init_57 rfl (lv_at hl 0 rfl) ?_
  refine lv_iload_n hx hb dX5_init_58 rfl (lv_at hl 1 rfl) ?_
  refine ps_X5_44 (v := p1) E hM ok3 dX5_init_59 (fun H locs hM => ?_)
  refine lv_aload_n hx hb dX5_init_62 rfl (lv_at hl 0 rfl) ?_
  refine gs_X5_9 E hM ok3 dX5_init_63 (fun x4 hxx4 => ?_)
  replace h := k_bb h x4 hxx4.symm
  refine lv_iconst (v := (-1)) hx hb dX5_init_66 (by decide) ?_
  obtain ⟨w5, hzw5, h⟩ := k_bd h
  refine m_callS (n := 2) (As := [rv sz x4, .int (-1 : Int32)]) (rest := []) (st1 := []) E hM hl.1 (c_J7_fill_53178 l D cy sz H0 (sI (sR (sI (sI (sI (sI (sI (sI (sI (sI (sR (nw u) r 3 (some q2)) r 4 (-1 : Int32)) r 5 (-1 : Int32)) r 6 (-1 : Int32)) r 7 (-1 : Int32)) r 8 (0 : Int32)) r 9 (-1 : Int32)) r 0 p1) r 1 p2) r 2 p3) r 10 p1) x4 (-1 : Int32) hzw5) wl_X5_47 wst_J7_fill_53178 wi_J7 wd_J7_fill_53178 rfl rfl (by decide +kernel) ⟨by decide, by decide⟩ rfl rfl (by first | exact Nat.le_of_ble_eq_true rfl | simp [rv_cat, cat_i, cat_l, cat_r, cat_n]) dX5_init_67 ⟨by decide, by decide⟩ rfl (fun H locs hM => ?_)
  cases h
  exact m_vret hx hb hr hlk hM rfl dX5_init_70

abbrev rm_X0_add : Room := { frames := 2, cells := 2, slots := 17, locals := 72 }
def f_X0_add (r : Nat) (p1 : Int32) (p2 : Option Nat) (u : Mm) : Option ((Int32) × Mm) := gd (okO u r 0) (bb ((gI u r 1)) (fun v2 => (if v2 < (80 : Int32) then bb (gR u r 0) (fun x4 => gd (okN u 5) (bb (u.1) (fun q6 => bd (f_X5_init q6 v2 p1 p2 (nw u)) (fun w7 => cs x4 none (fun k8 => gd (okO w7 q6 5) (gd (okA w7 k8 12 v2) (gd (okO (sR w7 k8 (Int32.toNatClampNeg v2) (some q6)) r 0) (some (v2, (sI (sR w7 k8 (Int32.toNatClampNeg v2) (some q6)) r 1 (v2 + (1 : Int32)))))))))))) else some ((-1 : Int32), u))))
set_option maxHeartbeats 4000000 in
set_option maxRecDepth 100000 in
theorem c_X0_add (l : Launch) (D : va_G) (cy : Nat → ClassId) (sz : Nat) (H0 : Heap) (u : Mm) (r : Nat) (p1 : Int32) (p2 : Option Nat) {res : (Int32) × Mm} (h : f_X0_add r p1 p2 u = some res) : Ctr l yX0_add cX0_add 4 (some .int) rm_X0_add 2 17 D cy sz H0 u [.ref (sz + r), .int p1, rv sz p2] (some (.int res.1)) res.2 := by
  refine m_start (lv := [(0, .ref (sz + r)), (1, .int p1), (2, rv sz p2)]) (by decide) (by first | exact Nat.le_of_ble_eq_true rfl | simp [lg_sl, rv_cat, cat_i, cat_l, cat_r, cat_n]) (by first | rfl | simp [lv_args, rv_cat, cat_i, cat_l, cat_r, cat_n]) ?_
  intro p e s m below meth c ls E hr hlk hinit hM hl
  obtain ⟨hx, hb, hml, hown, hts, hKK⟩ := id E
  obtain ⟨H, hH⟩ : ∃ H, H = s.heap := ⟨_, rfl⟩
  obtain ⟨locs, hlocs⟩ : ∃ L : List Loc, L = [] := ⟨_, rfl⟩
  rw [← hH, ← hlocs] at hM ⊢
  unfold f_X0_add at h
  refine lv_aload_n hx hb dX0_add_0 rfl (lv_at hl 0 rfl) ?_
  obtain ⟨ok1, h⟩ := k_gd h
  refine gs_X0_17 E hM ok1 dX0_add_1 ?_
  refine lv_topi (fun v2 hvv2 => ?_)
  replace h := k_bb h v2 hvv2
  refine lv_istore_n (i := 3) (lv' := [(3, .int v2), (0, .ref (sz + r)), (1, .int p1), (2, rv sz p2)]) hx hb dX0_add_4 rfl hl (by decide) (by first | rfl | simp [rv_cat, cat_i, cat_l, cat_r, cat_n]) (fun ls hl => ?_)
  refine lv_iload_n hx hb dX0_add_5 rfl (lv_at hl 0 rfl) ?_
  refine lv_bipush (v := 80) hx hb dX0_add_6 (by decide) ?_
  refine lv_icmp_lt (tgt := 13) hx hb dX0_add_8 (by decide) (fun c3 => ?_) (fun c3 => ?_)
  · replace h := (k_if h).1 c3
    refine lv_aload_n hx hb dX0_add_13 rfl (lv_at hl 1 rfl) ?_
    refine gs_X0_11 E hM ok1 dX0_add_14 (fun x4 hxx4 => ?_)
    replace h := k_bb h x4 hxx4.symm
    refine lv_iload_n hx hb dX0_add_17 rfl (lv_at hl 0 rfl) ?_
    obtain ⟨ok5, h⟩ := k_gd h
    obtain ⟨q6, hq6⟩ : ∃ y : Nat, y = (u).1 := ⟨_, rfl⟩
    replace h := k_bb h q6 hq6
    refine m_new hq6 E hM (ci := 5) (N := 11) (C := RX5) (T := TX5) tyX5 tyX5_ok ok5 (by decide) rfl rfl inX5 wc_X0_9 wn_X5 wi_X5 (fun j hj => by rcases (show j = 0 ∨ j = 1 ∨ j = 2 ∨ j = 3 ∨ j = 4 ∨ j = 5 ∨ j = 6 ∨ j = 7 ∨ j = 8 ∨ j = 9 ∨ j = 10 by omega) with rfl | rfl | rfl | rfl | rfl | rfl | rfl | rfl | rfl | rfl | rfl <;> first | exact (nw_i _).symm | exact (nw_l _).symm | exact (nw_r _).symm) (by decide) (by decide) dX0_add_18 (fun H hM => ?_)
    refine lv_dup hx hb dX0_add_21 rfl ?_
    refine lv_iload_n hx hb dX0_add_22 rfl (lv_at hl 0 rfl) ?_
    refine lv_iload_n hx hb dX0_add_23 rfl (lv_at hl 2 rfl) ?_
    refine m_aload_n hx hb dX0_add_24 rfl (lv_at hl 3 rfl) ?_
    obtain ⟨w7, hzw7, h⟩ := k_bd h
    refine m_callI (n := 3) (As := [.int v2, .int p1, rv sz p2]) (rest := [.ref (sz + q6), .int v2, rv sz x4]) (st1 := [.ref (sz + q6), .int v2, rv sz x4]) E hM hl.1 (c_X5_init l D cy sz H0 (nw u) q6 v2 p1 p2 hzw7) wl_X0_28 wm_X5_init wi_X5 wd_X5_init rfl rfl rfl (by decide +kernel) ⟨by decide, by decide⟩ rfl rfl (by first | exact Nat.le_of_ble_eq_true rfl | simp [rv_cat, cat_i, cat_l, cat_r, cat_n]) dX0_add_25 ⟨by decide, by decide⟩ rfl (fun H locs hM => ?_)
    rcases x4 with _ | k8
    · cases h
    rw [cs_s] at h
    obtain ⟨ok10, h⟩ := k_gd h
    obtain ⟨ok9, h⟩ := k_gd h
    refine m_aast (sh := 12) (tp := 3) (ci := 5) (by decide) rfl rfl (by decide) rfl rfl E hM ok9 ok10 dX0_add_28 (fun H locs hM => ?_)
    refine lv_aload_n hx hb dX0_add_29 rfl (lv_at hl 1 rfl) ?_
    refine lv_iload_n hx hb dX0_add_30 rfl (lv_at hl 0 rfl) ?_
    refine lv_iconst (v := 1) hx hb dX0_add_31 (by decide) ?_
    refine lv_iadd hx hb dX0_add_32 ?_
    obtain ⟨ok11, h⟩ := k_gd h
    refine ps_X0_17 (v := (v2 + (1 : Int32))) E hM ok11 dX0_add_33 (fun H locs hM => ?_)
    refine lv_iload_n hx hb dX0_add_36 rfl (lv_at hl 0 rfl) ?_
    cases h
    exact m_iret hx hb hr hlk hM rfl rfl dX0_add_37
  · replace h := (k_if h).2 c3
    refine lv_iconst (v := (-1)) hx hb dX0_add_11 (by decide) ?_
    refine W.widen (k := 2) (n := 17) (by decide) (by decide) ?_
    cases h
    exact m_iret hx hb hr hlk hM rfl rfl dX0_add_12

abbrev rm_X0_rightIn : Room := { frames := 0, cells := 0, slots := 0, locals := 0 }
def L_X0_rightIn_4 (b0 : Nat) (b1 : Option Nat) (u : Mm) (k : Int32 → Int32 → Option (Int32)) : Nat → Int32 → Int32 → Option (Int32)
  | 0, _, _ => none
  | n + 1, a2, a3 => gd (okO u b0 0) ((if (gI u b0 1) ≤ a3 then k a2 a3 else bb (gR u b0 0) (fun x3 => cs x3 none (fun k4 => gd (okA u k4 12 a3) (bb (gR u k4 (Int32.toNatClampNeg a3)) (fun x6 => cs x6 none (fun k7 => gd (okO u k7 5) (bb (gR u k7 2) (fun x9 => (if x9 = b1 then bb (a2 + (1)) (fun v12 => bb (a3 + (1)) (fun v13 => L_X0_rightIn_4 b0 b1 u k n v12 v13)) else bb (a3 + (1)) (fun v11 => L_X0_rightIn_4 b0 b1 u k n a2 v11)))))))))))
set_option maxHeartbeats 4000000 in
set_option maxRecDepth 100000 in
theorem lp_X0_rightIn_4 {p : Program} {l : Launch} {e : Env} {s : State} {m : MethodId} {args : Array Value} {below : List Frame} {meth : Method} {c : Code} {D : va_G} {cy : Nat → ClassId} {sz : Nat} {H0 : Heap} {b0 : Nat} {b1 : Option Nat} {u : Mm} {k : Int32 → Int32 → Option (Int32)} {res : Int32} (hr : meth.sig.returnType = (some .int)) (hlk : meth.locks = false) (E : EE p s m args c cX0_rightIn 4 RX0 D cy) : ∀ (n : Nat) (a2 : Int32) (a3 : Int32) (H : Heap) (locs : List Loc) (ls : Array Slot), MM D cy sz H0 u H locs → lv_has ls 4 [(0, .ref (sz + b0)), (1, rv sz b1), (2, .int a2), (3, .int a3)] → L_X0_rightIn_4 b0 b1 u k n a2 a3 = some res → (∀ (a2 : Int32) (a3 : Int32) (H : Heap) (locs : List Loc) (ls : Array Slot), MM D cy sz H0 u H locs → lv_has ls 4 [(0, .ref (sz + b0)), (1, rv sz b1), (2, .int a2), (3, .int a3)] → k a2 a3 = some res → W p l e rm_X0_rightIn s m args below meth c H locs 0 0 (MQ below (Post D cy sz H0 (some (.int res)) u) args s 0 0 (fun q => sz ≤ q)) (F0 m 34 ls [])) → W p l e rm_X0_rightIn s m args below meth c H locs 0 0 (MQ below (Post D cy sz H0 (some (.int res)) u) args s 0 0 (fun q => sz ≤ q)) (F0 m 4 ls []) := by
  obtain ⟨hx, hb, hml, hown, hts, hKK⟩ := id E
  intro n
  induction n with
  | zero => intros; rename_i h _; cases h
  | succ n ih =>
    intro a2 a3 H locs ls hM hl h hk
    rw [L_X0_rightIn_4] at h
    refine lv_iload_n hx hb dX0_rightIn_4 rfl (lv_at hl 3 rfl) ?_
    refine lv_aload_n hx hb dX0_rightIn_5 rfl (lv_at hl 0 rfl) ?_
    obtain ⟨ok1, h⟩ := k_gd h
    refine gs_X0_17 E hM ok1 dX0_rightIn_6 ?_
    refine lv_icmp_ge (tgt := 34) hx hb dX0_rightIn_9 (by decide) (fun c2 => ?_) (fun c2 => ?_)
    · replace h := (k_if h).1 c2
      exact hk a2 a3 H locs ls hM (lv_sub hl [0, 1, 2, 3] rfl) h
    · replace h := (k_if h).2 c2
      refine lv_aload_n hx hb dX0_rightIn_12 rfl (lv_at hl 0 rfl) ?_
      refine gs_X0_11 E hM ok1 dX0_rightIn_13 (fun x3 hxx3 => ?_)
      replace h := k_bb h x3 hxx3.symm
      refine lv_iload_n hx hb dX0_rightIn_16 rfl (lv_at hl 3 rfl) ?_
      rcases x3 with _ | k4
      · cases h
      rw [cs_s] at h
      obtain ⟨ok5, h⟩ := k_gd h
      refine m_aald (sh := 12) (tp := 3) (by decide) rfl rfl E hM ok5 dX0_rightIn_17 (fun x6 hxx6 => ?_)
      replace h := k_bb h x6 hxx6.symm
      rcases x6 with _ | k7
      · cases h
      rw [cs_s] at h
      obtain ⟨ok8, h⟩ := k_gd h
      refine gs_X0_31 E hM ok8 dX0_rightIn_18 (fun x9 hxx9 => ?_)
      replace h := k_bb h x9 hxx9.symm
      refine m_aload_n hx hb dX0_rightIn_21 rfl (lv_at hl 1 rfl) ?_
      refine m_acmp_ne (x := x9) (y := b1) (sz := sz) (tgt := 28) hx hb dX0_rightIn_22 (by decide) (fun c10 => ?_) (fun c10 => ?_)
      · replace h := (k_if h).2 c10
        obtain ⟨v11, hvv11⟩ : ∃ y : Int32, y = a3 + (1) := ⟨_, rfl⟩
        replace h := k_bb h v11 hvv11
        refine lv_iinc (v := v11) (lv' := [(3, .int v11), (0, .ref (sz + b0)), (1, rv sz b1), (2, .int a2)]) hx hb dX0_rightIn_28 hl (k := 3) rfl (by rw [hvv11]; rfl) (by decide) (by first | rfl | simp [rv_cat, cat_i, cat_l, cat_r, cat_n]) (fun ls hl => ?_)
        refine lv_goto (tgt := 4) hx hb dX0_rightIn_31 (by decide) ?_
        exact ih a2 v11 H locs ls hM (lv_sub hl [1, 2, 3, 0] rfl) h hk
      · replace h := (k_if h).1 c10
        obtain ⟨v12, hvv12⟩ : ∃ y : Int32, y = a2 + (1) := ⟨_, rfl⟩
        replace h := k_bb h v12 hvv12
        refine lv_iinc (v := v12) (lv' := [(2, .int v12), (0, .ref (sz + b0)), (1, rv sz b1), (3, .int a3)]) hx hb dX0_rightIn_25 hl (k := 2) rfl (by rw [hvv12]; rfl) (by decide) (by first | rfl | simp [rv_cat, cat_i, cat_l, cat_r, cat_n]) (fun ls hl => ?_)
        obtain ⟨v13, hvv13⟩ : ∃ y : Int32, y = a3 + (1) := ⟨_, rfl⟩
        replace h := k_bb h v13 hvv13
        refine lv_iinc (v := v13) (lv' := [(3, .int v13), (2, .int v12), (0, .ref (sz + b0)), (1, rv sz b1)]) hx hb dX0_rightIn_28 hl (k := 3) rfl (by rw [hvv13]; rfl) (by decide) (by first | rfl | simp [rv_cat, cat_i, cat_l, cat_r, cat_n]) (fun ls hl => ?_)
        refine lv_goto (tgt := 4) hx hb dX0_rightIn_31 (by decide) ?_
        exact ih v12 v13 H locs ls hM (lv_sub hl [2, 3, 1, 0] rfl) h hk

def f_X0_rightIn (r : Nat) (p1 : Option Nat) (u : Mm) : Option (Int32) := L_X0_rightIn_4 r p1 u (fun a14 a15 => some a14) 1000 (0 : Int32) (0 : Int32) 
set_option maxHeartbeats 4000000 in
set_option maxRecDepth 100000 in
theorem c_X0_rightIn (l : Launch) (D : va_G) (cy : Nat → ClassId) (sz : Nat) (H0 : Heap) (u : Mm) (r : Nat) (p1 : Option Nat) {res : Int32} (h : f_X0_rightIn r p1 u = some res) : Ctr l yX0_rightIn cX0_rightIn 4 (some .int) rm_X0_rightIn 0 0 D cy sz H0 u [.ref (sz + r), rv sz p1] (some (.int res)) u := by
  refine m_start (lv := [(0, .ref (sz + r)), (1, rv sz p1)]) (by decide) (by first | exact Nat.le_of_ble_eq_true rfl | simp [lg_sl, rv_cat, cat_i, cat_l, cat_r, cat_n]) (by first | rfl | simp [lv_args, rv_cat, cat_i, cat_l, cat_r, cat_n]) ?_
  intro p e s m below meth c ls E hr hlk hinit hM hl
  obtain ⟨hx, hb, hml, hown, hts, hKK⟩ := id E
  obtain ⟨H, hH⟩ : ∃ H, H = s.heap := ⟨_, rfl⟩
  obtain ⟨locs, hlocs⟩ : ∃ L : List Loc, L = [] := ⟨_, rfl⟩
  rw [← hH, ← hlocs] at hM ⊢
  unfold f_X0_rightIn at h
  refine lv_iconst (v := 0) hx hb dX0_rightIn_0 (by decide) ?_
  refine lv_istore_n (i := 2) (lv' := [(2, .int (0 : Int32)), (0, .ref (sz + r)), (1, rv sz p1)]) hx hb dX0_rightIn_1 rfl hl (by decide) (by first | rfl | simp [rv_cat, cat_i, cat_l, cat_r, cat_n]) (fun ls hl => ?_)
  refine lv_iconst (v := 0) hx hb dX0_rightIn_2 (by decide) ?_
  refine lv_istore_n (i := 3) (lv' := [(3, .int (0 : Int32)), (2, .int (0 : Int32)), (0, .ref (sz + r)), (1, rv sz p1)]) hx hb dX0_rightIn_3 rfl hl (by decide) (by first | rfl | simp [rv_cat, cat_i, cat_l, cat_r, cat_n]) (fun ls hl => ?_)
  refine lp_X0_rightIn_4 hr hlk  E 1000 (0 : Int32) (0 : Int32) H locs ls hM (lv_sub hl [2, 3, 1, 0] rfl) h (fun a14 a15 H locs ls hM hl h => ?_)
  refine lv_iload_n hx hb dX0_rightIn_34 rfl (lv_at hl 2 rfl) ?_
  cases h
  exact m_iret hx hb hr hlk hM rfl rfl dX0_rightIn_35

abbrev rm_X5_hasSpan : Room := { frames := 0, cells := 0, slots := 0, locals := 0 }
def f_X5_hasSpan (r : Nat) (u : Mm) : Option (Int32) := gd (okO u r 5) ((if (gI u r 4) = (-1 : Int32) then some (0 : Int32) else some (1 : Int32)))
set_option maxHeartbeats 4000000 in
set_option maxRecDepth 100000 in
theorem c_X5_hasSpan (l : Launch) (D : va_G) (cy : Nat → ClassId) (sz : Nat) (H0 : Heap) (u : Mm) (r : Nat) {res : Int32} (h : f_X5_hasSpan r u = some res) : Ctr l yX5_hasSpan cX5_hasSpan 1 (some .boolean) rm_X5_hasSpan 0 0 D cy sz H0 u [.ref (sz + r)] (some (.int res)) u := by
  refine m_start (lv := [(0, .ref (sz + r))]) (by decide) (by first | exact Nat.le_of_ble_eq_true rfl | simp [lg_sl, rv_cat, cat_i, cat_l, cat_r, cat_n]) (by first | rfl | simp [lv_args, rv_cat, cat_i, cat_l, cat_r, cat_n]) ?_
  intro p e s m below meth c ls E hr hlk hinit hM hl
  obtain ⟨hx, hb, hml, hown, hts, hKK⟩ := id E
  obtain ⟨H, hH⟩ : ∃ H, H = s.heap := ⟨_, rfl⟩
  obtain ⟨locs, hlocs⟩ : ∃ L : List Loc, L = [] := ⟨_, rfl⟩
  rw [← hH, ← hlocs] at hM ⊢
  unfold f_X5_hasSpan at h
  refine lv_aload_n hx hb dX5_hasSpan_0 rfl (lv_at hl 0 rfl) ?_
  obtain ⟨ok1, h⟩ := k_gd h
  refine gs_X5_15 E hM ok1 dX5_hasSpan_1 ?_
  refine lv_iconst (v := (-1)) hx hb dX5_hasSpan_4 (by decide) ?_
  refine lv_icmp_eq (tgt := 12) hx hb dX5_hasSpan_5 (by decide) (fun c2 => ?_) (fun c2 => ?_)
  · replace h := (k_if h).1 c2
    refine lv_iconst (v := 0) hx hb dX5_hasSpan_12 (by decide) ?_
    cases h
    exact m_zret hx hb hr hlk hM (by decide) rfl rfl dX5_hasSpan_13
  · replace h := (k_if h).2 c2
    refine lv_iconst (v := 1) hx hb dX5_hasSpan_8 (by decide) ?_
    refine lv_goto (tgt := 13) hx hb dX5_hasSpan_9 (by decide) ?_
    cases h
    exact m_zret hx hb hr hlk hM (by decide) rfl rfl dX5_hasSpan_13

abbrev rm_X5_showsSpanTo : Room := { frames := 1, cells := 0, slots := 0, locals := 36 }
def L_X5_showsSpanTo_5 (b0 : Nat) (b1 : Option Nat) (u : Mm) (k : Option Nat → Option (Int32)) : Nat → Option Nat → Option (Int32)
  | 0, _ => none
  | n + 1, a2 => cs a2 (k (none : Option Nat)) (fun k3 => (if (some k3) = b1 then k (some k3) else gd (okO u k3 5) (bd (f_X5_hasSpan k3 u) (fun w6 => (if w6 = 0 then bb (gR u k3 2) (fun x8 => L_X5_showsSpanTo_5 b0 b1 u k n x8) else k (some k3))))))
set_option maxHeartbeats 4000000 in
set_option maxRecDepth 100000 in
theorem lp_X5_showsSpanTo_5 {p : Program} {l : Launch} {e : Env} {s : State} {m : MethodId} {args : Array Value} {below : List Frame} {meth : Method} {c : Code} {D : va_G} {cy : Nat → ClassId} {sz : Nat} {H0 : Heap} {b0 : Nat} {b1 : Option Nat} {u : Mm} {k : Option Nat → Option (Int32)} {res : Int32} (hr : meth.sig.returnType = (some .boolean)) (hlk : meth.locks = false) (E : EE p s m args c cX5_showsSpanTo 3 RX5 D cy) : ∀ (n : Nat) (a2 : Option Nat) (H : Heap) (locs : List Loc) (ls : Array Slot), MM D cy sz H0 u H locs → lv_has ls 3 [(0, .ref (sz + b0)), (1, rv sz b1), (2, rv sz a2)] → L_X5_showsSpanTo_5 b0 b1 u k n a2 = some res → (∀ (a2 : Option Nat) (H : Heap) (locs : List Loc) (ls : Array Slot), MM D cy sz H0 u H locs → lv_has ls 3 [(0, .ref (sz + b0)), (1, rv sz b1), (2, rv sz a2)] → k a2 = some res → W p l e rm_X5_showsSpanTo s m args below meth c H locs 0 0 (MQ below (Post D cy sz H0 (some (.int res)) u) args s 0 0 (fun q => sz ≤ q)) (F0 m 29 ls [])) → W p l e rm_X5_showsSpanTo s m args below meth c H locs 0 0 (MQ below (Post D cy sz H0 (some (.int res)) u) args s 0 0 (fun q => sz ≤ q)) (F0 m 5 ls []) := by
  obtain ⟨hx, hb, hml, hown, hts, hKK⟩ := id E
  intro n
  induction n with
  | zero => intros; rename_i h _; cases h
  | succ n ih =>
    intro a2 H locs ls hM hl h hk
    rw [L_X5_showsSpanTo_5] at h
    refine m_aload_n hx hb dX5_showsSpanTo_5 rfl (lv_at hl 2 rfl) ?_
    rcases a2 with _ | k3
    · rw [cs_n] at h
      refine lv_ifnullN (tgt := 29) hx hb dX5_showsSpanTo_6 (by decide) ?_
      exact hk (none : Option Nat) H locs ls hM (lv_sub hl [0, 1, 2] rfl) h
    · rw [cs_s] at h
      refine lv_ifnull hx hb dX5_showsSpanTo_6 ?_
      refine lv_aload_n hx hb dX5_showsSpanTo_9 rfl (lv_at hl 2 rfl) ?_
      refine m_aload_n hx hb dX5_showsSpanTo_10 rfl (lv_at hl 1 rfl) ?_
      refine m_acmp_eq (x := (some k3)) (y := b1) (sz := sz) (tgt := 29) hx hb dX5_showsSpanTo_11 (by decide) (fun c4 => ?_) (fun c4 => ?_)
      · replace h := (k_if h).1 c4
        exact hk (some k3) H locs ls hM (lv_sub hl [0, 1, 2] rfl) h
      · replace h := (k_if h).2 c4
        refine lv_aload_n hx hb dX5_showsSpanTo_14 rfl (lv_at hl 2 rfl) ?_
        obtain ⟨ok5, h⟩ := k_gd h
        obtain ⟨w6, hzw6, h⟩ := k_bd h
        refine m_callV (C := RX5) (T := TX5) (N := 11) (ci := 5) (n := 0) (As := []) (rest := []) (st1 := (.int w6 :: [])) E hM hl.1 ok5 (by decide) rfl rfl (c_X5_hasSpan l D cy sz H0 u k3 hzw6) wl_X5_53 wm_X5_hasSpan ws_X5_hasSpan wi_X5 wd_X5_hasSpan rfl rfl (by decide +kernel) ⟨by decide, by decide⟩ rfl rfl (by first | exact Nat.le_of_ble_eq_true rfl | simp [rv_cat, cat_i, cat_l, cat_r, cat_n]) dX5_showsSpanTo_15 ⟨by decide, by decide⟩ rfl (fun H locs hM => ?_)
        refine lv_if_ne (tgt := 29) hx hb dX5_showsSpanTo_18 (by decide) (fun c7 => ?_) (fun c7 => ?_)
        · replace h := (k_if h).2 c7
          exact hk (some k3) H locs ls hM (lv_sub hl [0, 1, 2] rfl) h
        · replace h := (k_if h).1 c7
          refine lv_aload_n hx hb dX5_showsSpanTo_21 rfl (lv_at hl 2 rfl) ?_
          refine gs_X5_40 E hM ok5 dX5_showsSpanTo_22 (fun x8 hxx8 => ?_)
          replace h := k_bb h x8 hxx8.symm
          refine m_astore_n (i := 2) (lv' := [(2, rv sz x8), (0, .ref (sz + b0)), (1, rv sz b1)]) hx hb dX5_showsSpanTo_25 rfl hl (by decide) (by first | rfl | simp [rv_cat, cat_i, cat_l, cat_r, cat_n]) (fun ls hl => ?_)
          refine lv_goto (tgt := 5) hx hb dX5_showsSpanTo_26 (by decide) ?_
          exact ih x8 H locs ls hM (lv_sub hl [1, 2, 0] rfl) h hk

def f_X5_showsSpanTo (r : Nat) (p1 : Option Nat) (u : Mm) : Option (Int32) := gd (okO u r 5) (bb (gR u r 2) (fun x2 => L_X5_showsSpanTo_5 r p1 u (fun a9 => bd (f_X5_hasSpan r u) (fun w10 => (if w10 = 0 then some (0 : Int32) else (if a9 = p1 then some (1 : Int32) else some (0 : Int32))))) 1000 x2 ))
set_option maxHeartbeats 4000000 in
set_option maxRecDepth 100000 in
theorem c_X5_showsSpanTo (l : Launch) (D : va_G) (cy : Nat → ClassId) (sz : Nat) (H0 : Heap) (u : Mm) (r : Nat) (p1 : Option Nat) {res : Int32} (h : f_X5_showsSpanTo r p1 u = some res) : Ctr l yX5_showsSpanTo cX5_showsSpanTo 3 (some .boolean) rm_X5_showsSpanTo 0 0 D cy sz H0 u [.ref (sz + r), rv sz p1] (some (.int res)) u := by
  refine m_start (lv := [(0, .ref (sz + r)), (1, rv sz p1)]) (by decide) (by first | exact Nat.le_of_ble_eq_true rfl | simp [lg_sl, rv_cat, cat_i, cat_l, cat_r, cat_n]) (by first | rfl | simp [lv_args, rv_cat, cat_i, cat_l, cat_r, cat_n]) ?_
  intro p e s m below meth c ls E hr hlk hinit hM hl
  obtain ⟨hx, hb, hml, hown, hts, hKK⟩ := id E
  obtain ⟨H, hH⟩ : ∃ H, H = s.heap := ⟨_, rfl⟩
  obtain ⟨locs, hlocs⟩ : ∃ L : List Loc, L = [] := ⟨_, rfl⟩
  rw [← hH, ← hlocs] at hM ⊢
  unfold f_X5_showsSpanTo at h
  refine lv_aload_n hx hb dX5_showsSpanTo_0 rfl (lv_at hl 0 rfl) ?_
  obtain ⟨ok1, h⟩ := k_gd h
  refine gs_X5_40 E hM ok1 dX5_showsSpanTo_1 (fun x2 hxx2 => ?_)
  replace h := k_bb h x2 hxx2.symm
  refine m_astore_n (i := 2) (lv' := [(2, rv sz x2), (0, .ref (sz + r)), (1, rv sz p1)]) hx hb dX5_showsSpanTo_4 rfl hl (by decide) (by first | rfl | simp [rv_cat, cat_i, cat_l, cat_r, cat_n]) (fun ls hl => ?_)
  refine lp_X5_showsSpanTo_5 hr hlk  E 1000 x2 H locs ls hM (lv_sub hl [1, 2, 0] rfl) h (fun a9 H locs ls hM hl h => ?_)
  refine lv_aload_n hx hb dX5_showsSpanTo_29 rfl (lv_at hl 0 rfl) ?_
  obtain ⟨w10, hzw10, h⟩ := k_bd h
  refine m_callV (C := RX5) (T := TX5) (N := 11) (ci := 5) (n := 0) (As := []) (rest := []) (st1 := (.int w10 :: [])) E hM hl.1 ok1 (by decide) rfl rfl (c_X5_hasSpan l D cy sz H0 u r hzw10) wl_X5_53 wm_X5_hasSpan ws_X5_hasSpan wi_X5 wd_X5_hasSpan rfl rfl (by decide +kernel) ⟨by decide, by decide⟩ rfl rfl (by first | exact Nat.le_of_ble_eq_true rfl | simp [rv_cat, cat_i, cat_l, cat_r, cat_n]) dX5_showsSpanTo_30 ⟨by decide, by decide⟩ rfl (fun H locs hM => ?_)
  refine lv_if_eq (tgt := 45) hx hb dX5_showsSpanTo_33 (by decide) (fun c11 => ?_) (fun c11 => ?_)
  · replace h := (k_if h).1 c11
    refine lv_iconst (v := 0) hx hb dX5_showsSpanTo_45 (by decide) ?_
    cases h
    exact m_zret hx hb hr hlk hM (by decide) rfl rfl dX5_showsSpanTo_46
  · replace h := (k_if h).2 c11
    refine m_aload_n hx hb dX5_showsSpanTo_36 rfl (lv_at hl 2 rfl) ?_
    refine m_aload_n hx hb dX5_showsSpanTo_37 rfl (lv_at hl 1 rfl) ?_
    refine m_acmp_ne (x := a9) (y := p1) (sz := sz) (tgt := 45) hx hb dX5_showsSpanTo_38 (by decide) (fun c12 => ?_) (fun c12 => ?_)
    · replace h := (k_if h).2 c12
      refine lv_iconst (v := 0) hx hb dX5_showsSpanTo_45 (by decide) ?_
      cases h
      exact m_zret hx hb hr hlk hM (by decide) rfl rfl dX5_showsSpanTo_46
    · replace h := (k_if h).1 c12
      refine lv_iconst (v := 1) hx hb dX5_showsSpanTo_41 (by decide) ?_
      refine lv_goto (tgt := 46) hx hb dX5_showsSpanTo_42 (by decide) ?_
      cases h
      exact m_zret hx hb hr hlk hM (by decide) rfl rfl dX5_showsSpanTo_46

abbrev rm_X0_earlier : Room := { frames := 1, cells := 0, slots := 0, locals := 36 }
def f_X0_earlier (p1 : Int32) (p2 : Int32) (u : Mm) : Option (Int32) := (if p1 = (-1 : Int32) then some p2 else some (if p2 < p1 then p2 else p1))
set_option maxHeartbeats 4000000 in
set_option maxRecDepth 100000 in
theorem c_X0_earlier (l : Launch) (D : va_G) (cy : Nat → ClassId) (sz : Nat) (H0 : Heap) (u : Mm) (p1 : Int32) (p2 : Int32) {res : Int32} (h : f_X0_earlier p1 p2 u = some res) : Ctr l yX0_earlier cX0_earlier 2 (some .int) rm_X0_earlier 0 0 D cy sz H0 u [.int p1, .int p2] (some (.int res)) u := by
  refine m_start (lv := [(0, .int p1), (1, .int p2)]) (by decide) (by first | exact Nat.le_of_ble_eq_true rfl | simp [lg_sl, rv_cat, cat_i, cat_l, cat_r, cat_n]) (by first | rfl | simp [lv_args, rv_cat, cat_i, cat_l, cat_r, cat_n]) ?_
  intro p e s m below meth c ls E hr hlk hinit hM hl
  obtain ⟨hx, hb, hml, hown, hts, hKK⟩ := id E
  obtain ⟨H, hH⟩ : ∃ H, H = s.heap := ⟨_, rfl⟩
  obtain ⟨locs, hlocs⟩ : ∃ L : List Loc, L = [] := ⟨_, rfl⟩
  rw [← hH, ← hlocs] at hM ⊢
  unfold f_X0_earlier at h
  refine lv_iload_n hx hb dX0_earlier_0 rfl (lv_at hl 0 rfl) ?_
  refine lv_iconst (v := (-1)) hx hb dX0_earlier_1 (by decide) ?_
  refine lv_icmp_ne (tgt := 9) hx hb dX0_earlier_2 (by decide) (fun c1 => ?_) (fun c1 => ?_)
  · replace h := (k_if h).2 c1
    refine lv_iload_n hx hb dX0_earlier_9 rfl (lv_at hl 0 rfl) ?_
    refine lv_iload_n hx hb dX0_earlier_10 rfl (lv_at hl 1 rfl) ?_
    refine va_mmin hx hb (hml.trans hl.1.symm) hown (hts _ wl_X0_58) (hts _ wst_J9_min_7cf53) (hts _ wi_J9) (hts _ wd_J9_min_7cf53) (by decide) (by first | exact Nat.le_of_ble_eq_true rfl | simp [rv_cat, cat_i, cat_l, cat_r, cat_n]) (by decide) (by decide) dX0_earlier_11 ?_
    cases h
    exact m_iret hx hb hr hlk hM rfl rfl dX0_earlier_14
  · replace h := (k_if h).1 c1
    refine lv_iload_n hx hb dX0_earlier_5 rfl (lv_at hl 1 rfl) ?_
    refine lv_goto (tgt := 14) hx hb dX0_earlier_6 (by decide) ?_
    cases h
    exact m_iret hx hb hr hlk hM rfl rfl dX0_earlier_14

abbrev rm_X0_heldDay : Room := { frames := 2, cells := 0, slots := 0, locals := 72 }
def L_X0_heldDay_28 (b0 : Nat) (b1 : Nat) (b2 : Int32) (u : Mm) (k : Int32 → Int32 → Option (Int32)) : Nat → Int32 → Int32 → Option (Int32)
  | 0, _, _ => none
  | n + 1, a3, a4 => gd (okO u b0 0) ((if (gI u b0 1) ≤ a4 then k a3 a4 else bb (gR u b0 0) (fun x7 => cs x7 none (fun k8 => gd (okA u k8 12 a4) (bb (gR u k8 (Int32.toNatClampNeg a4)) (fun x10 => cs x10 none (fun k11 => gd (okO u k11 5) (bd (f_X5_showsSpanTo k11 (some b1) u) (fun w13 => (if w13 = 0 then bb (a4 + (1)) (fun v15 => L_X0_heldDay_28 b0 b1 b2 u k n a3 v15) else (if b2 = 0 then bd (f_X0_earlier a3 (gI u k11 4) u) (fun w17 => bb (a4 + (1)) (fun v18 => L_X0_heldDay_28 b0 b1 b2 u k n w17 v18)) else bb ((if a3 < (gI u k11 5) then (gI u k11 5) else a3)) (fun v19 => bb (a4 + (1)) (fun v20 => L_X0_heldDay_28 b0 b1 b2 u k n v19 v20)))))))))))))
set_option maxHeartbeats 4000000 in
set_option maxRecDepth 100000 in
theorem lp_X0_heldDay_28 {p : Program} {l : Launch} {e : Env} {s : State} {m : MethodId} {args : Array Value} {below : List Frame} {meth : Method} {c : Code} {D : va_G} {cy : Nat → ClassId} {sz : Nat} {H0 : Heap} {b0 : Nat} {b1 : Nat} {b2 : Int32} {u : Mm} {k : Int32 → Int32 → Option (Int32)} {res : Int32} (hr : meth.sig.returnType = (some .int)) (hlk : meth.locks = false) (E : EE p s m args c cX0_heldDay 6 RX0 D cy) : ∀ (n : Nat) (a3 : Int32) (a4 : Int32) (H : Heap) (locs : List Loc) (ls : Array Slot), MM D cy sz H0 u H locs → lv_has ls 6 [(0, .ref (sz + b0)), (1, .ref (sz + b1)), (2, .int b2), (3, .int a3), (4, .int a4)] → L_X0_heldDay_28 b0 b1 b2 u k n a3 a4 = some res → (∀ (a3 : Int32) (a4 : Int32) (H : Heap) (locs : List Loc) (ls : Array Slot), MM D cy sz H0 u H locs → lv_has ls 6 [(0, .ref (sz + b0)), (1, .ref (sz + b1)), (2, .int b2), (3, .int a3), (4, .int a4)] → k a3 a4 = some res → W p l e rm_X0_heldDay s m args below meth c H locs 0 0 (MQ below (Post D cy sz H0 (some (.int res)) u) args s 0 0 (fun q => sz ≤ q)) (F0 m 87 ls [])) → W p l e rm_X0_heldDay s m args below meth c H locs 0 0 (MQ below (Post D cy sz H0 (some (.int res)) u) args s 0 0 (fun q => sz ≤ q)) (F0 m 28 ls []) := by
  obtain ⟨hx, hb, hml, hown, hts, hKK⟩ := id E
  intro n
  induction n with
  | zero => intros; rename_i h _; cases h
  | succ n ih =>
    intro a3 a4 H locs ls hM hl h hk
    rw [L_X0_heldDay_28] at h
    refine lv_iload hx hb dX0_heldDay_28 (lv_at hl 4 rfl) ?_
    refine lv_aload_n hx hb dX0_heldDay_30 rfl (lv_at hl 0 rfl) ?_
    obtain ⟨ok5, h⟩ := k_gd h
    refine gs_X0_17 E hM ok5 dX0_heldDay_31 ?_
    refine lv_icmp_ge (tgt := 87) hx hb dX0_heldDay_34 (by decide) (fun c6 => ?_) (fun c6 => ?_)
    · replace h := (k_if h).1 c6
      exact hk a3 a4 H locs ls hM (lv_sub hl [0, 1, 2, 3, 4] rfl) h
    · replace h := (k_if h).2 c6
      refine lv_aload_n hx hb dX0_heldDay_37 rfl (lv_at hl 0 rfl) ?_
      refine gs_X0_11 E hM ok5 dX0_heldDay_38 (fun x7 hxx7 => ?_)
      replace h := k_bb h x7 hxx7.symm
      refine lv_iload hx hb dX0_heldDay_41 (lv_at hl 4 rfl) ?_
      rcases x7 with _ | k8
      · cases h
      rw [cs_s] at h
      obtain ⟨ok9, h⟩ := k_gd h
      refine m_aald (sh := 12) (tp := 3) (by decide) rfl rfl E hM ok9 dX0_heldDay_43 (fun x10 hxx10 => ?_)
      replace h := k_bb h x10 hxx10.symm
      refine m_astore (i := 5) (lv' := [(5, rv sz x10), (0, .ref (sz + b0)), (1, .ref (sz + b1)), (2, .int b2), (3, .int a3), (4, .int a4)]) hx hb dX0_heldDay_44 hl (by decide) (by first | rfl | simp [rv_cat, cat_i, cat_l, cat_r, cat_n]) (fun ls hl => ?_)
      refine m_aload hx hb dX0_heldDay_46 (lv_at hl 0 rfl) ?_
      refine lv_aload_n hx hb dX0_heldDay_48 rfl (lv_at hl 2 rfl) ?_
      rcases x10 with _ | k11
      · cases h
      rw [cs_s] at h
      obtain ⟨ok12, h⟩ := k_gd h
      obtain ⟨w13, hzw13, h⟩ := k_bd h
      refine m_callV (C := RX5) (T := TX5) (N := 11) (ci := 5) (n := 1) (As := [.ref (sz + b1)]) (rest := []) (st1 := (.int w13 :: [])) E hM hl.1 ok12 (by decide) rfl rfl (c_X5_showsSpanTo l D cy sz H0 u k11 (some b1) hzw13) wl_X0_45 wm_X5_showsSpanTo ws_X5_showsSpanTo wi_X5 wd_X5_showsSpanTo rfl rfl (by decide +kernel) ⟨by decide, by decide⟩ rfl rfl (by first | exact Nat.le_of_ble_eq_true rfl | simp [rv_cat, cat_i, cat_l, cat_r, cat_n]) dX0_heldDay_49 ⟨by decide, by decide⟩ rfl (fun H locs hM => ?_)
      refine lv_if_eq (tgt := 81) hx hb dX0_heldDay_52 (by decide) (fun c14 => ?_) (fun c14 => ?_)
      · replace h := (k_if h).1 c14
        obtain ⟨v15, hvv15⟩ : ∃ y : Int32, y = a4 + (1) := ⟨_, rfl⟩
        replace h := k_bb h v15 hvv15
        refine lv_iinc (v := v15) (lv' := [(4, .int v15), (5, .ref (sz + k11)), (0, .ref (sz + b0)), (1, .ref (sz + b1)), (2, .int b2), (3, .int a3)]) hx hb dX0_heldDay_81 hl (k := 5) rfl (by rw [hvv15]; rfl) (by decide) (by first | rfl | simp [rv_cat, cat_i, cat_l, cat_r, cat_n]) (fun ls hl => ?_)
        refine lv_goto (tgt := 28) hx hb dX0_heldDay_84 (by decide) ?_
        exact ih a3 v15 H locs ls hM (lv_sub hl [2, 3, 4, 5, 0] rfl) h hk
      · replace h := (k_if h).2 c14
        refine lv_iload_n hx hb dX0_heldDay_55 rfl (lv_at hl 3 rfl) ?_
        refine lv_if_eq (tgt := 71) hx hb dX0_heldDay_56 (by decide) (fun c16 => ?_) (fun c16 => ?_)
        · replace h := (k_if h).1 c16
          refine lv_iload_n hx hb dX0_heldDay_71 rfl (lv_at hl 4 rfl) ?_
          refine lv_aload hx hb dX0_heldDay_72 (lv_at hl 0 rfl) ?_
          refine gs_X0_42 E hM ok12 dX0_heldDay_74 ?_
          obtain ⟨w17, hzw17, h⟩ := k_bd h
          refine m_callS (n := 2) (As := [.int a3, .int (gI u k11 4)]) (rest := []) (st1 := (.int w17 :: [])) E hM hl.1 (c_X0_earlier l D cy sz H0 u a3 (gI u k11 4) hzw17) wl_X0_55 wst_X0_earlier wi_X0 wd_X0_earlier rfl rfl (by decide +kernel) ⟨by decide, by decide⟩ rfl rfl (by first | exact Nat.le_of_ble_eq_true rfl | simp [rv_cat, cat_i, cat_l, cat_r, cat_n]) dX0_heldDay_77 ⟨by decide, by decide⟩ rfl (fun H locs hM => ?_)
          refine lv_istore_n (i := 3) (lv' := [(3, .int w17), (5, .ref (sz + k11)), (0, .ref (sz + b0)), (1, .ref (sz + b1)), (2, .int b2), (4, .int a4)]) hx hb dX0_heldDay_80 rfl hl (by decide) (by first | rfl | simp [rv_cat, cat_i, cat_l, cat_r, cat_n]) (fun ls hl => ?_)
          obtain ⟨v18, hvv18⟩ : ∃ y : Int32, y = a4 + (1) := ⟨_, rfl⟩
          replace h := k_bb h v18 hvv18
          refine lv_iinc (v := v18) (lv' := [(4, .int v18), (3, .int w17), (5, .ref (sz + k11)), (0, .ref (sz + b0)), (1, .ref (sz + b1)), (2, .int b2)]) hx hb dX0_heldDay_81 hl (k := 5) rfl (by rw [hvv18]; rfl) (by decide) (by first | rfl | simp [rv_cat, cat_i, cat_l, cat_r, cat_n]) (fun ls hl => ?_)
          refine lv_goto (tgt := 28) hx hb dX0_heldDay_84 (by decide) ?_
          exact ih w17 v18 H locs ls hM (lv_sub hl [3, 4, 5, 1, 0] rfl) h hk
        · replace h := (k_if h).2 c16
          refine lv_iload_n hx hb dX0_heldDay_59 rfl (lv_at hl 4 rfl) ?_
          refine lv_aload hx hb dX0_heldDay_60 (lv_at hl 0 rfl) ?_
          refine gs_X0_39 E hM ok12 dX0_heldDay_62 ?_
          refine va_mmax hx hb (hml.trans hl.1.symm) hown (hts _ wl_X0_49) (hts _ wst_J9_max_7cf53) (hts _ wi_J9) (hts _ wd_J9_max_7cf53) (by decide) (by first | exact Nat.le_of_ble_eq_true rfl | simp [rv_cat, cat_i, cat_l, cat_r, cat_n]) (by decide) (by decide) dX0_heldDay_65 ?_
          refine lv_goto (tgt := 80) hx hb dX0_heldDay_68 (by decide) ?_
          refine lv_topi (fun v19 hvv19 => ?_)
          replace h := k_bb h v19 hvv19
          refine lv_istore_n (i := 3) (lv' := [(3, .int v19), (5, .ref (sz + k11)), (0, .ref (sz + b0)), (1, .ref (sz + b1)), (2, .int b2), (4, .int a4)]) hx hb dX0_heldDay_80 rfl hl (by decide) (by first | rfl | simp [rv_cat, cat_i, cat_l, cat_r, cat_n]) (fun ls hl => ?_)
          obtain ⟨v20, hvv20⟩ : ∃ y : Int32, y = a4 + (1) := ⟨_, rfl⟩
          replace h := k_bb h v20 hvv20
          refine lv_iinc (v := v20) (lv' := [(4, .int v20), (3, .int v19), (5, .ref (sz + k11)), (0, .ref (sz + b0)), (1, .ref (sz + b1)), (2, .int b2)]) hx hb dX0_heldDay_81 hl (k := 5) rfl (by rw [hvv20]; rfl) (by decide) (by first | rfl | simp [rv_cat, cat_i, cat_l, cat_r, cat_n]) (fun ls hl => ?_)
          refine lv_goto (tgt := 28) hx hb dX0_heldDay_84 (by decide) ?_
          exact ih v19 v20 H locs ls hM (lv_sub hl [3, 4, 5, 1, 0] rfl) h hk

def f_X0_heldDay (r : Nat) (p1 : Option Nat) (p2 : Int32) (u : Mm) : Option (Int32) := cs p1 none (fun k1 => gd (okO u k1 5) (bd (f_X5_hasSpan k1 u) (fun w3 => (if w3 = 0 then L_X0_heldDay_28 r k1 p2 u (fun a21 a22 => some a21) 1000 (-1 : Int32) (0 : Int32)  else (if p2 = 0 then some (gI u k1 4) else some (gI u k1 5))))))
set_option maxHeartbeats 4000000 in
set_option maxRecDepth 100000 in
theorem c_X0_heldDay (l : Launch) (D : va_G) (cy : Nat → ClassId) (sz : Nat) (H0 : Heap) (u : Mm) (r : Nat) (p1 : Option Nat) (p2 : Int32) {res : Int32} (h : f_X0_heldDay r p1 p2 u = some res) : Ctr l yX0_heldDay cX0_heldDay 6 (some .int) rm_X0_heldDay 0 0 D cy sz H0 u [.ref (sz + r), rv sz p1, .int p2] (some (.int res)) u := by
  refine m_start (lv := [(0, .ref (sz + r)), (1, rv sz p1), (2, .int p2)]) (by decide) (by first | exact Nat.le_of_ble_eq_true rfl | simp [lg_sl, rv_cat, cat_i, cat_l, cat_r, cat_n]) (by first | rfl | simp [lv_args, rv_cat, cat_i, cat_l, cat_r, cat_n]) ?_
  intro p e s m below meth c ls E hr hlk hinit hM hl
  obtain ⟨hx, hb, hml, hown, hts, hKK⟩ := id E
  obtain ⟨H, hH⟩ : ∃ H, H = s.heap := ⟨_, rfl⟩
  obtain ⟨locs, hlocs⟩ : ∃ L : List Loc, L = [] := ⟨_, rfl⟩
  rw [← hH, ← hlocs] at hM ⊢
  unfold f_X0_heldDay at h
  refine m_aload_n hx hb dX0_heldDay_0 rfl (lv_at hl 1 rfl) ?_
  rcases p1 with _ | k1
  · cases h
  rw [cs_s] at h
  obtain ⟨ok2, h⟩ := k_gd h
  obtain ⟨w3, hzw3, h⟩ := k_bd h
  refine m_callV (C := RX5) (T := TX5) (N := 11) (ci := 5) (n := 0) (As := []) (rest := []) (st1 := (.int w3 :: [])) E hM hl.1 ok2 (by decide) rfl rfl (c_X5_hasSpan l D cy sz H0 u k1 hzw3) wl_X0_35 wm_X5_hasSpan ws_X5_hasSpan wi_X5 wd_X5_hasSpan rfl rfl (by decide +kernel) ⟨by decide, by decide⟩ rfl rfl (by first | exact Nat.le_of_ble_eq_true rfl | simp [rv_cat, cat_i, cat_l, cat_r, cat_n]) dX0_heldDay_1 ⟨by decide, by decide⟩ rfl (fun H locs hM => ?_)
  refine lv_if_eq (tgt := 23) hx hb dX0_heldDay_4 (by decide) (fun c4 => ?_) (fun c4 => ?_)
  · replace h := (k_if h).1 c4
    refine lv_iconst (v := (-1)) hx hb dX0_heldDay_23 (by decide) ?_
    refine lv_istore_n (i := 3) (lv' := [(3, .int (-1 : Int32)), (0, .ref (sz + r)), (1, .ref (sz + k1)), (2, .int p2)]) hx hb dX0_heldDay_24 rfl hl (by decide) (by first | rfl | simp [rv_cat, cat_i, cat_l, cat_r, cat_n]) (fun ls hl => ?_)
    refine lv_iconst (v := 0) hx hb dX0_heldDay_25 (by decide) ?_
    refine lv_istore (i := 4) (lv' := [(4, .int (0 : Int32)), (3, .int (-1 : Int32)), (0, .ref (sz + r)), (1, .ref (sz + k1)), (2, .int p2)]) hx hb dX0_heldDay_26 hl (by decide) (by first | rfl | simp [rv_cat, cat_i, cat_l, cat_r, cat_n]) (fun ls hl => ?_)
    refine lp_X0_heldDay_28 hr hlk  E 1000 (-1 : Int32) (0 : Int32) H locs ls hM (lv_sub hl [2, 3, 4, 1, 0] rfl) h (fun a21 a22 H locs ls hM hl h => ?_)
    refine lv_iload_n hx hb dX0_heldDay_87 rfl (lv_at hl 3 rfl) ?_
    cases h
    exact m_iret hx hb hr hlk hM rfl rfl dX0_heldDay_88
  · replace h := (k_if h).2 c4
    refine lv_iload_n hx hb dX0_heldDay_7 rfl (lv_at hl 2 rfl) ?_
    refine lv_if_eq (tgt := 18) hx hb dX0_heldDay_8 (by decide) (fun c23 => ?_) (fun c23 => ?_)
    · replace h := (k_if h).1 c23
      refine lv_aload_n hx hb dX0_heldDay_18 rfl (lv_at hl 1 rfl) ?_
      refine gs_X0_42 E hM ok2 dX0_heldDay_19 ?_
      cases h
      exact m_iret hx hb hr hlk hM rfl rfl dX0_heldDay_22
    · replace h := (k_if h).2 c23
      refine lv_aload_n hx hb dX0_heldDay_11 rfl (lv_at hl 1 rfl) ?_
      refine gs_X0_39 E hM ok2 dX0_heldDay_12 ?_
      refine lv_goto (tgt := 22) hx hb dX0_heldDay_15 (by decide) ?_
      cases h
      exact m_iret hx hb hr hlk hM rfl rfl dX0_heldDay_22

abbrev rm_X5_hasQuarrel : Room := { frames := 1, cells := 0, slots := 0, locals := 36 }
def L_X5_hasQuarrel_5 (b0 : Nat) (u : Mm) (k : Option Nat → Option (Int32)) : Nat → Option Nat → Option (Int32)
  | 0, _ => none
  | n + 1, a1 => cs a1 (k (none : Option Nat)) (fun k3 => gd (okO u k3 5) (bd (f_X5_hasSpan k3 u) (fun w5 => (if w5 = 0 then bb (gR u k3 2) (fun x7 => L_X5_hasQuarrel_5 b0 u k n x7) else k (some k3)))))
set_option maxHeartbeats 4000000 in
set_option maxRecDepth 100000 in
theorem lp_X5_hasQuarrel_5 {p : Program} {l : Launch} {e : Env} {s : State} {m : MethodId} {args : Array Value} {below : List Frame} {meth : Method} {c : Code} {D : va_G} {cy : Nat → ClassId} {sz : Nat} {H0 : Heap} {b0 : Nat} {u : Mm} {k : Option Nat → Option (Int32)} {res : Int32} (hr : meth.sig.returnType = (some .boolean)) (hlk : meth.locks = false) (E : EE p s m args c cX5_hasQuarrel 2 RX5 D cy) : ∀ (n : Nat) (a1 : Option Nat) (H : Heap) (locs : List Loc) (ls : Array Slot), MM D cy sz H0 u H locs → lv_has ls 2 [(0, .ref (sz + b0)), (1, rv sz a1)] → L_X5_hasQuarrel_5 b0 u k n a1 = some res → (∀ (a1 : Option Nat) (H : Heap) (locs : List Loc) (ls : Array Slot), MM D cy sz H0 u H locs → lv_has ls 2 [(0, .ref (sz + b0)), (1, rv sz a1)] → k a1 = some res → W p l e rm_X5_hasQuarrel s m args below meth c H locs 0 0 (MQ below (Post D cy sz H0 (some (.int res)) u) args s 0 0 (fun q => sz ≤ q)) (F0 m 24 ls [])) → W p l e rm_X5_hasQuarrel s m args below meth c H locs 0 0 (MQ below (Post D cy sz H0 (some (.int res)) u) args s 0 0 (fun q => sz ≤ q)) (F0 m 5 ls []) := by
  obtain ⟨hx, hb, hml, hown, hts, hKK⟩ := id E
  intro n
  induction n with
  | zero => intros; rename_i h _; cases h
  | succ n ih =>
    intro a1 H locs ls hM hl h hk
    rw [L_X5_hasQuarrel_5] at h
    refine m_aload_n hx hb dX5_hasQuarrel_5 rfl (lv_at hl 1 rfl) ?_
    rcases a1 with _ | k3
    · rw [cs_n] at h
      refine lv_ifnullN (tgt := 24) hx hb dX5_hasQuarrel_6 (by decide) ?_
      exact hk (none : Option Nat) H locs ls hM (lv_sub hl [0, 1] rfl) h
    · rw [cs_s] at h
      refine lv_ifnull hx hb dX5_hasQuarrel_6 ?_
      refine lv_aload_n hx hb dX5_hasQuarrel_9 rfl (lv_at hl 1 rfl) ?_
      obtain ⟨ok4, h⟩ := k_gd h
      obtain ⟨w5, hzw5, h⟩ := k_bd h
      refine m_callV (C := RX5) (T := TX5) (N := 11) (ci := 5) (n := 0) (As := []) (rest := []) (st1 := (.int w5 :: [])) E hM hl.1 ok4 (by decide) rfl rfl (c_X5_hasSpan l D cy sz H0 u k3 hzw5) wl_X5_53 wm_X5_hasSpan ws_X5_hasSpan wi_X5 wd_X5_hasSpan rfl rfl (by decide +kernel) ⟨by decide, by decide⟩ rfl rfl (by first | exact Nat.le_of_ble_eq_true rfl | simp [rv_cat, cat_i, cat_l, cat_r, cat_n]) dX5_hasQuarrel_10 ⟨by decide, by decide⟩ rfl (fun H locs hM => ?_)
      refine lv_if_ne (tgt := 24) hx hb dX5_hasQuarrel_13 (by decide) (fun c6 => ?_) (fun c6 => ?_)
      · replace h := (k_if h).2 c6
        exact hk (some k3) H locs ls hM (lv_sub hl [0, 1] rfl) h
      · replace h := (k_if h).1 c6
        refine lv_aload_n hx hb dX5_hasQuarrel_16 rfl (lv_at hl 1 rfl) ?_
        refine gs_X5_40 E hM ok4 dX5_hasQuarrel_17 (fun x7 hxx7 => ?_)
        replace h := k_bb h x7 hxx7.symm
        refine m_astore_n (i := 1) (lv' := [(1, rv sz x7), (0, .ref (sz + b0))]) hx hb dX5_hasQuarrel_20 rfl hl (by decide) (by first | rfl | simp [rv_cat, cat_i, cat_l, cat_r, cat_n]) (fun ls hl => ?_)
        refine lv_goto (tgt := 5) hx hb dX5_hasQuarrel_21 (by decide) ?_
        exact ih x7 H locs ls hM (lv_sub hl [1, 0] rfl) h hk

def f_X5_hasQuarrel (r : Nat) (u : Mm) : Option (Int32) := gd (okO u r 5) (bb (gR u r 2) (fun x2 => L_X5_hasQuarrel_5 r u (fun a8 => bd (f_X5_hasSpan r u) (fun w9 => (if w9 = 0 then some (0 : Int32) else cs a8 (some (0 : Int32)) (fun k11 => gd (okO u k11 5) ((if (gI u r 4) < (gI u k11 4) then some (1 : Int32) else (if (gI u r 5) ≤ (gI u k11 5) then some (0 : Int32) else some (1 : Int32)))))))) 1000 x2 ))
set_option maxHeartbeats 4000000 in
set_option maxRecDepth 100000 in
theorem c_X5_hasQuarrel (l : Launch) (D : va_G) (cy : Nat → ClassId) (sz : Nat) (H0 : Heap) (u : Mm) (r : Nat) {res : Int32} (h : f_X5_hasQuarrel r u = some res) : Ctr l yX5_hasQuarrel cX5_hasQuarrel 2 (some .boolean) rm_X5_hasQuarrel 0 0 D cy sz H0 u [.ref (sz + r)] (some (.int res)) u := by
  refine m_start (lv := [(0, .ref (sz + r))]) (by decide) (by first | exact Nat.le_of_ble_eq_true rfl | simp [lg_sl, rv_cat, cat_i, cat_l, cat_r, cat_n]) (by first | rfl | simp [lv_args, rv_cat, cat_i, cat_l, cat_r, cat_n]) ?_
  intro p e s m below meth c ls E hr hlk hinit hM hl
  obtain ⟨hx, hb, hml, hown, hts, hKK⟩ := id E
  obtain ⟨H, hH⟩ : ∃ H, H = s.heap := ⟨_, rfl⟩
  obtain ⟨locs, hlocs⟩ : ∃ L : List Loc, L = [] := ⟨_, rfl⟩
  rw [← hH, ← hlocs] at hM ⊢
  unfold f_X5_hasQuarrel at h
  refine lv_aload_n hx hb dX5_hasQuarrel_0 rfl (lv_at hl 0 rfl) ?_
  obtain ⟨ok1, h⟩ := k_gd h
  refine gs_X5_40 E hM ok1 dX5_hasQuarrel_1 (fun x2 hxx2 => ?_)
  replace h := k_bb h x2 hxx2.symm
  refine m_astore_n (i := 1) (lv' := [(1, rv sz x2), (0, .ref (sz + r))]) hx hb dX5_hasQuarrel_4 rfl hl (by decide) (by first | rfl | simp [rv_cat, cat_i, cat_l, cat_r, cat_n]) (fun ls hl => ?_)
  refine lp_X5_hasQuarrel_5 hr hlk  E 1000 x2 H locs ls hM (lv_sub hl [1, 0] rfl) h (fun a8 H locs ls hM hl h => ?_)
  refine lv_aload_n hx hb dX5_hasQuarrel_24 rfl (lv_at hl 0 rfl) ?_
  obtain ⟨w9, hzw9, h⟩ := k_bd h
  refine m_callV (C := RX5) (T := TX5) (N := 11) (ci := 5) (n := 0) (As := []) (rest := []) (st1 := (.int w9 :: [])) E hM hl.1 ok1 (by decide) rfl rfl (c_X5_hasSpan l D cy sz H0 u r hzw9) wl_X5_53 wm_X5_hasSpan ws_X5_hasSpan wi_X5 wd_X5_hasSpan rfl rfl (by decide +kernel) ⟨by decide, by decide⟩ rfl rfl (by first | exact Nat.le_of_ble_eq_true rfl | simp [rv_cat, cat_i, cat_l, cat_r, cat_n]) dX5_hasQuarrel_25 ⟨by decide, by decide⟩ rfl (fun H locs hM => ?_)
  refine lv_if_eq (tgt := 61) hx hb dX5_hasQuarrel_28 (by decide) (fun c10 => ?_) (fun c10 => ?_)
  · replace h := (k_if h).1 c10
    refine lv_iconst (v := 0) hx hb dX5_hasQuarrel_61 (by decide) ?_
    cases h
    exact m_zret hx hb hr hlk hM (by decide) rfl rfl dX5_hasQuarrel_62
  · replace h := (k_if h).2 c10
    refine m_aload_n hx hb dX5_hasQuarrel_31 rfl (lv_at hl 1 rfl) ?_
    rcases a8 with _ | k11
    · rw [cs_n] at h
      refine lv_ifnullN (tgt := 61) hx hb dX5_hasQuarrel_32 (by decide) ?_
      refine lv_iconst (v := 0) hx hb dX5_hasQuarrel_61 (by decide) ?_
      cases h
      exact m_zret hx hb hr hlk hM (by decide) rfl rfl dX5_hasQuarrel_62
    · rw [cs_s] at h
      refine lv_ifnull hx hb dX5_hasQuarrel_32 ?_
      refine lv_aload_n hx hb dX5_hasQuarrel_35 rfl (lv_at hl 0 rfl) ?_
      refine gs_X5_15 E hM ok1 dX5_hasQuarrel_36 ?_
      refine lv_aload_n hx hb dX5_hasQuarrel_39 rfl (lv_at hl 1 rfl) ?_
      obtain ⟨ok12, h⟩ := k_gd h
      refine gs_X5_15 E hM ok12 dX5_hasQuarrel_40 ?_
      refine lv_icmp_lt (tgt := 57) hx hb dX5_hasQuarrel_43 (by decide) (fun c13 => ?_) (fun c13 => ?_)
      · replace h := (k_if h).1 c13
        refine lv_iconst (v := 1) hx hb dX5_hasQuarrel_57 (by decide) ?_
        refine lv_goto (tgt := 62) hx hb dX5_hasQuarrel_58 (by decide) ?_
        cases h
        exact m_zret hx hb hr hlk hM (by decide) rfl rfl dX5_hasQuarrel_62
      · replace h := (k_if h).2 c13
        refine lv_aload_n hx hb dX5_hasQuarrel_46 rfl (lv_at hl 0 rfl) ?_
        refine gs_X5_19 E hM ok1 dX5_hasQuarrel_47 ?_
        refine lv_aload_n hx hb dX5_hasQuarrel_50 rfl (lv_at hl 1 rfl) ?_
        refine gs_X5_19 E hM ok12 dX5_hasQuarrel_51 ?_
        refine lv_icmp_le (tgt := 61) hx hb dX5_hasQuarrel_54 (by decide) (fun c14 => ?_) (fun c14 => ?_)
        · replace h := (k_if h).1 c14
          refine lv_iconst (v := 0) hx hb dX5_hasQuarrel_61 (by decide) ?_
          cases h
          exact m_zret hx hb hr hlk hM (by decide) rfl rfl dX5_hasQuarrel_62
        · replace h := (k_if h).2 c14
          refine lv_iconst (v := 1) hx hb dX5_hasQuarrel_57 (by decide) ?_
          refine lv_goto (tgt := 62) hx hb dX5_hasQuarrel_58 (by decide) ?_
          cases h
          exact m_zret hx hb hr hlk hM (by decide) rfl rfl dX5_hasQuarrel_62

abbrev rm_X0_quarrelling : Room := { frames := 2, cells := 0, slots := 0, locals := 72 }
def L_X0_quarrelling_4 (b0 : Nat) (b1 : Int32) (u : Mm) (k : Int32 → Int32 → Option (Int32)) : Nat → Int32 → Int32 → Option (Int32)
  | 0, _, _ => none
  | n + 1, a2, a3 => gd (okO u b0 0) ((if (gI u b0 1) ≤ a3 then k a2 a3 else bb (gR u b0 0) (fun x3 => cs x3 none (fun k4 => gd (okA u k4 12 a3) (bb (gR u k4 (Int32.toNatClampNeg a3)) (fun x6 => cs x6 none (fun k7 => gd (okO u k7 5) (bd (f_X5_hasQuarrel k7 u) (fun w9 => (if w9 = 0 then bb (a3 + (1)) (fun v11 => L_X0_quarrelling_4 b0 b1 u k n a2 v11) else (if a2 = 0 then some a3 else bb (a2 + (-1)) (fun v13 => bb (a3 + (1)) (fun v14 => L_X0_quarrelling_4 b0 b1 u k n v13 v14)))))))))))))
set_option maxHeartbeats 4000000 in
set_option maxRecDepth 100000 in
theorem lp_X0_quarrelling_4 {p : Program} {l : Launch} {e : Env} {s : State} {m : MethodId} {args : Array Value} {below : List Frame} {meth : Method} {c : Code} {D : va_G} {cy : Nat → ClassId} {sz : Nat} {H0 : Heap} {b0 : Nat} {b1 : Int32} {u : Mm} {k : Int32 → Int32 → Option (Int32)} {res : Int32} (hr : meth.sig.returnType = (some .int)) (hlk : meth.locks = false) (E : EE p s m args c cX0_quarrelling 4 RX0 D cy) : ∀ (n : Nat) (a2 : Int32) (a3 : Int32) (H : Heap) (locs : List Loc) (ls : Array Slot), MM D cy sz H0 u H locs → lv_has ls 4 [(0, .ref (sz + b0)), (1, .int b1), (2, .int a2), (3, .int a3)] → L_X0_quarrelling_4 b0 b1 u k n a2 a3 = some res → (∀ (a2 : Int32) (a3 : Int32) (H : Heap) (locs : List Loc) (ls : Array Slot), MM D cy sz H0 u H locs → lv_has ls 4 [(0, .ref (sz + b0)), (1, .int b1), (2, .int a2), (3, .int a3)] → k a2 a3 = some res → W p l e rm_X0_quarrelling s m args below meth c H locs 0 0 (MQ below (Post D cy sz H0 (some (.int res)) u) args s 0 0 (fun q => sz ≤ q)) (F0 m 39 ls [])) → W p l e rm_X0_quarrelling s m args below meth c H locs 0 0 (MQ below (Post D cy sz H0 (some (.int res)) u) args s 0 0 (fun q => sz ≤ q)) (F0 m 4 ls []) := by
  obtain ⟨hx, hb, hml, hown, hts, hKK⟩ := id E
  intro n
  induction n with
  | zero => intros; rename_i h _; cases h
  | succ n ih =>
    intro a2 a3 H locs ls hM hl h hk
    rw [L_X0_quarrelling_4] at h
    refine lv_iload_n hx hb dX0_quarrelling_4 rfl (lv_at hl 3 rfl) ?_
    refine lv_aload_n hx hb dX0_quarrelling_5 rfl (lv_at hl 0 rfl) ?_
    obtain ⟨ok1, h⟩ := k_gd h
    refine gs_X0_17 E hM ok1 dX0_quarrelling_6 ?_
    refine lv_icmp_ge (tgt := 39) hx hb dX0_quarrelling_9 (by decide) (fun c2 => ?_) (fun c2 => ?_)
    · replace h := (k_if h).1 c2
      exact hk a2 a3 H locs ls hM (lv_sub hl [0, 1, 2, 3] rfl) h
    · replace h := (k_if h).2 c2
      refine lv_aload_n hx hb dX0_quarrelling_12 rfl (lv_at hl 0 rfl) ?_
      refine gs_X0_11 E hM ok1 dX0_quarrelling_13 (fun x3 hxx3 => ?_)
      replace h := k_bb h x3 hxx3.symm
      refine lv_iload_n hx hb dX0_quarrelling_16 rfl (lv_at hl 3 rfl) ?_
      rcases x3 with _ | k4
      · cases h
      rw [cs_s] at h
      obtain ⟨ok5, h⟩ := k_gd h
      refine m_aald (sh := 12) (tp := 3) (by decide) rfl rfl E hM ok5 dX0_quarrelling_17 (fun x6 hxx6 => ?_)
      replace h := k_bb h x6 hxx6.symm
      rcases x6 with _ | k7
      · cases h
      rw [cs_s] at h
      obtain ⟨ok8, h⟩ := k_gd h
      obtain ⟨w9, hzw9, h⟩ := k_bd h
      refine m_callV (C := RX5) (T := TX5) (N := 11) (ci := 5) (n := 0) (As := []) (rest := []) (st1 := (.int w9 :: [])) E hM hl.1 ok8 (by decide) rfl rfl (c_X5_hasQuarrel l D cy sz H0 u k7 hzw9) wl_X0_61 wm_X5_hasQuarrel ws_X5_hasQuarrel wi_X5 wd_X5_hasQuarrel rfl rfl (by decide +kernel) ⟨by decide, by decide⟩ rfl rfl (by first | exact Nat.le_of_ble_eq_true rfl | simp [rv_cat, cat_i, cat_l, cat_r, cat_n]) dX0_quarrelling_18 ⟨by decide, by decide⟩ rfl (fun H locs hM => ?_)
      refine lv_if_eq (tgt := 33) hx hb dX0_quarrelling_21 (by decide) (fun c10 => ?_) (fun c10 => ?_)
      · replace h := (k_if h).1 c10
        obtain ⟨v11, hvv11⟩ : ∃ y : Int32, y = a3 + (1) := ⟨_, rfl⟩
        replace h := k_bb h v11 hvv11
        refine lv_iinc (v := v11) (lv' := [(3, .int v11), (0, .ref (sz + b0)), (1, .int b1), (2, .int a2)]) hx hb dX0_quarrelling_33 hl (k := 3) rfl (by rw [hvv11]; rfl) (by decide) (by first | rfl | simp [rv_cat, cat_i, cat_l, cat_r, cat_n]) (fun ls hl => ?_)
        refine lv_goto (tgt := 4) hx hb dX0_quarrelling_36 (by decide) ?_
        exact ih a2 v11 H locs ls hM (lv_sub hl [1, 2, 3, 0] rfl) h hk
      · replace h := (k_if h).2 c10
        refine lv_iload_n hx hb dX0_quarrelling_24 rfl (lv_at hl 2 rfl) ?_
        refine lv_if_ne (tgt := 30) hx hb dX0_quarrelling_25 (by decide) (fun c12 => ?_) (fun c12 => ?_)
        · replace h := (k_if h).2 c12
          obtain ⟨v13, hvv13⟩ : ∃ y : Int32, y = a2 + (-1) := ⟨_, rfl⟩
          replace h := k_bb h v13 hvv13
          refine lv_iinc (v := v13) (lv' := [(2, .int v13), (0, .ref (sz + b0)), (1, .int b1), (3, .int a3)]) hx hb dX0_quarrelling_30 hl (k := 2) rfl (by rw [hvv13]; rfl) (by decide) (by first | rfl | simp [rv_cat, cat_i, cat_l, cat_r, cat_n]) (fun ls hl => ?_)
          obtain ⟨v14, hvv14⟩ : ∃ y : Int32, y = a3 + (1) := ⟨_, rfl⟩
          replace h := k_bb h v14 hvv14
          refine lv_iinc (v := v14) (lv' := [(3, .int v14), (2, .int v13), (0, .ref (sz + b0)), (1, .int b1)]) hx hb dX0_quarrelling_33 hl (k := 3) rfl (by rw [hvv14]; rfl) (by decide) (by first | rfl | simp [rv_cat, cat_i, cat_l, cat_r, cat_n]) (fun ls hl => ?_)
          refine lv_goto (tgt := 4) hx hb dX0_quarrelling_36 (by decide) ?_
          exact ih v13 v14 H locs ls hM (lv_sub hl [2, 3, 1, 0] rfl) h hk
        · replace h := (k_if h).1 c12
          refine lv_iload_n hx hb dX0_quarrelling_28 rfl (lv_at hl 3 rfl) ?_
          cases h
          exact m_iret hx hb hr hlk hM rfl rfl dX0_quarrelling_29

def f_X0_quarrelling (r : Nat) (p1 : Int32) (u : Mm) : Option (Int32) := L_X0_quarrelling_4 r p1 u (fun a15 a16 => some (-1 : Int32)) 1000 p1 (0 : Int32) 
set_option maxHeartbeats 4000000 in
set_option maxRecDepth 100000 in
theorem c_X0_quarrelling (l : Launch) (D : va_G) (cy : Nat → ClassId) (sz : Nat) (H0 : Heap) (u : Mm) (r : Nat) (p1 : Int32) {res : Int32} (h : f_X0_quarrelling r p1 u = some res) : Ctr l yX0_quarrelling cX0_quarrelling 4 (some .int) rm_X0_quarrelling 0 0 D cy sz H0 u [.ref (sz + r), .int p1] (some (.int res)) u := by
  refine m_start (lv := [(0, .ref (sz + r)), (1, .int p1)]) (by decide) (by first | exact Nat.le_of_ble_eq_true rfl | simp [lg_sl, rv_cat, cat_i, cat_l, cat_r, cat_n]) (by first | rfl | simp [lv_args, rv_cat, cat_i, cat_l, cat_r, cat_n]) ?_
  intro p e s m below meth c ls E hr hlk hinit hM hl
  obtain ⟨hx, hb, hml, hown, hts, hKK⟩ := id E
  obtain ⟨H, hH⟩ : ∃ H, H = s.heap := ⟨_, rfl⟩
  obtain ⟨locs, hlocs⟩ : ∃ L : List Loc, L = [] := ⟨_, rfl⟩
  rw [← hH, ← hlocs] at hM ⊢
  unfold f_X0_quarrelling at h
  refine lv_iload_n hx hb dX0_quarrelling_0 rfl (lv_at hl 1 rfl) ?_
  refine lv_istore_n (i := 2) (lv' := [(2, .int p1), (0, .ref (sz + r)), (1, .int p1)]) hx hb dX0_quarrelling_1 rfl hl (by decide) (by first | rfl | simp [rv_cat, cat_i, cat_l, cat_r, cat_n]) (fun ls hl => ?_)
  refine lv_iconst (v := 0) hx hb dX0_quarrelling_2 (by decide) ?_
  refine lv_istore_n (i := 3) (lv' := [(3, .int (0 : Int32)), (2, .int p1), (0, .ref (sz + r)), (1, .int p1)]) hx hb dX0_quarrelling_3 rfl hl (by decide) (by first | rfl | simp [rv_cat, cat_i, cat_l, cat_r, cat_n]) (fun ls hl => ?_)
  refine lp_X0_quarrelling_4 hr hlk  E 1000 p1 (0 : Int32) H locs ls hM (lv_sub hl [2, 3, 1, 0] rfl) h (fun a15 a16 H locs ls hM hl h => ?_)
  refine lv_iconst (v := (-1)) hx hb dX0_quarrelling_39 (by decide) ?_
  cases h
  exact m_iret hx hb hr hlk hM rfl rfl dX0_quarrelling_40

abbrev rm_X0_unite : Room := { frames := 0, cells := 0, slots := 0, locals := 0 }
def L_X0_unite_2 (b0 : Nat) (b1 : Int32) (b2 : Int32) (k : Int32 → Mm → Option (Mm)) : Nat → Int32 → Mm → Option (Mm)
  | 0, _, _ => none
  | n + 1, a3, u => gd (okO u b0 0) ((if (gI u b0 1) ≤ a3 then k a3 u else bb (gR u b0 0) (fun x3 => cs x3 none (fun k4 => gd (okA u k4 12 a3) (bb (gR u k4 (Int32.toNatClampNeg a3)) (fun x6 => cs x6 none (fun k7 => gd (okO u k7 5) ((if (gI u k7 10) = b2 then bb (gR u b0 0) (fun x11 => cs x11 none (fun k12 => gd (okA u k12 12 a3) (bb (gR u k12 (Int32.toNatClampNeg a3)) (fun x14 => cs x14 none (fun k15 => gd (okO u k15 5) (bb (a3 + (1)) (fun v17 => L_X0_unite_2 b0 b1 b2 k n v17 (sI u k15 10 b1)))))))) else bb (a3 + (1)) (fun v10 => L_X0_unite_2 b0 b1 b2 k n v10 u))))))))))
set_option maxHeartbeats 4000000 in
set_option maxRecDepth 100000 in
theorem lp_X0_unite_2 {p : Program} {l : Launch} {e : Env} {s : State} {m : MethodId} {args : Array Value} {below : List Frame} {meth : Method} {c : Code} {D : va_G} {cy : Nat → ClassId} {sz : Nat} {H0 : Heap} {b0 : Nat} {b1 : Int32} {b2 : Int32} {k : Int32 → Mm → Option (Mm)} {res : Mm} (hr : meth.sig.returnType = none) (hlk : meth.locks = false) (E : EE p s m args c cX0_unite 4 RX0 D cy) : ∀ (n : Nat) (a3 : Int32) (u : Mm) (H : Heap) (locs : List Loc) (ls : Array Slot), MM D cy sz H0 u H locs → lv_has ls 4 [(0, .ref (sz + b0)), (1, .int b1), (2, .int b2), (3, .int a3)] → L_X0_unite_2 b0 b1 b2 k n a3 u = some res → (∀ (a3 : Int32) (u : Mm) (H : Heap) (locs : List Loc) (ls : Array Slot), MM D cy sz H0 u H locs → lv_has ls 4 [(0, .ref (sz + b0)), (1, .int b1), (2, .int b2), (3, .int a3)] → k a3 u = some res → W p l e rm_X0_unite s m args below meth c H locs 0 0 (MQ below (Post D cy sz H0 none res) args s 0 0 (fun q => sz ≤ q)) (F0 m 39 ls [])) → W p l e rm_X0_unite s m args below meth c H locs 0 0 (MQ below (Post D cy sz H0 none res) args s 0 0 (fun q => sz ≤ q)) (F0 m 2 ls []) := by
  obtain ⟨hx, hb, hml, hown, hts, hKK⟩ := id E
  intro n
  induction n with
  | zero => intros; rename_i h _; cases h
  | succ n ih =>
    intro a3 u H locs ls hM hl h hk
    rw [L_X0_unite_2] at h
    refine lv_iload_n hx hb dX0_unite_2 rfl (lv_at hl 3 rfl) ?_
    refine lv_aload_n hx hb dX0_unite_3 rfl (lv_at hl 0 rfl) ?_
    obtain ⟨ok1, h⟩ := k_gd h
    refine gs_X0_17 E hM ok1 dX0_unite_4 ?_
    refine lv_icmp_ge (tgt := 39) hx hb dX0_unite_7 (by decide) (fun c2 => ?_) (fun c2 => ?_)
    · replace h := (k_if h).1 c2
      exact hk a3 u H locs ls hM (lv_sub hl [0, 1, 2, 3] rfl) h
    · replace h := (k_if h).2 c2
      refine lv_aload_n hx hb dX0_unite_10 rfl (lv_at hl 0 rfl) ?_
      refine gs_X0_11 E hM ok1 dX0_unite_11 (fun x3 hxx3 => ?_)
      replace h := k_bb h x3 hxx3.symm
      refine lv_iload_n hx hb dX0_unite_14 rfl (lv_at hl 3 rfl) ?_
      rcases x3 with _ | k4
      · cases h
      rw [cs_s] at h
      obtain ⟨ok5, h⟩ := k_gd h
      refine m_aald (sh := 12) (tp := 3) (by decide) rfl rfl E hM ok5 dX0_unite_15 (fun x6 hxx6 => ?_)
      replace h := k_bb h x6 hxx6.symm
      rcases x6 with _ | k7
      · cases h
      rw [cs_s] at h
      obtain ⟨ok8, h⟩ := k_gd h
      refine gs_X0_64 E hM ok8 dX0_unite_16 ?_
      refine lv_iload_n hx hb dX0_unite_19 rfl (lv_at hl 2 rfl) ?_
      refine lv_icmp_ne (tgt := 33) hx hb dX0_unite_20 (by decide) (fun c9 => ?_) (fun c9 => ?_)
      · replace h := (k_if h).2 c9
        obtain ⟨v10, hvv10⟩ : ∃ y : Int32, y = a3 + (1) := ⟨_, rfl⟩
        replace h := k_bb h v10 hvv10
        refine lv_iinc (v := v10) (lv' := [(3, .int v10), (0, .ref (sz + b0)), (1, .int b1), (2, .int b2)]) hx hb dX0_unite_33 hl (k := 3) rfl (by rw [hvv10]; rfl) (by decide) (by first | rfl | simp [rv_cat, cat_i, cat_l, cat_r, cat_n]) (fun ls hl => ?_)
        refine lv_goto (tgt := 2) hx hb dX0_unite_36 (by decide) ?_
        exact ih v10 u H locs ls hM (lv_sub hl [1, 2, 3, 0] rfl) h hk
      · replace h := (k_if h).1 c9
        refine lv_aload_n hx hb dX0_unite_23 rfl (lv_at hl 0 rfl) ?_
        refine gs_X0_11 E hM ok1 dX0_unite_24 (fun x11 hxx11 => ?_)
        replace h := k_bb h x11 hxx11.symm
        refine lv_iload_n hx hb dX0_unite_27 rfl (lv_at hl 3 rfl) ?_
        rcases x11 with _ | k12
        · cases h
        rw [cs_s] at h
        obtain ⟨ok13, h⟩ := k_gd h
        refine m_aald (sh := 12) (tp := 3) (by decide) rfl rfl E hM ok13 dX0_unite_28 (fun x14 hxx14 => ?_)
        replace h := k_bb h x14 hxx14.symm
        refine lv_iload_n hx hb dX0_unite_29 rfl (lv_at hl 1 rfl) ?_
        rcases x14 with _ | k15
        · cases h
        rw [cs_s] at h
        obtain ⟨ok16, h⟩ := k_gd h
        refine ps_X0_64 (v := b1) E hM ok16 dX0_unite_30 (fun H locs hM => ?_)
        obtain ⟨v17, hvv17⟩ : ∃ y : Int32, y = a3 + (1) := ⟨_, rfl⟩
        replace h := k_bb h v17 hvv17
        refine lv_iinc (v := v17) (lv' := [(3, .int v17), (0, .ref (sz + b0)), (1, .int b1), (2, .int b2)]) hx hb dX0_unite_33 hl (k := 3) rfl (by rw [hvv17]; rfl) (by decide) (by first | rfl | simp [rv_cat, cat_i, cat_l, cat_r, cat_n]) (fun ls hl => ?_)
        refine lv_goto (tgt := 2) hx hb dX0_unite_36 (by decide) ?_
        exact ih v17 (sI u k15 10 b1) H locs ls hM (lv_sub hl [1, 2, 3, 0] rfl) h hk

def f_X0_unite (r : Nat) (p1 : Int32) (p2 : Int32) (u : Mm) : Option (Mm) := L_X0_unite_2 r p1 p2  (fun a18 u19 => some u19) 1000 (0 : Int32) u
set_option maxHeartbeats 4000000 in
set_option maxRecDepth 100000 in
theorem c_X0_unite (l : Launch) (D : va_G) (cy : Nat → ClassId) (sz : Nat) (H0 : Heap) (u : Mm) (r : Nat) (p1 : Int32) (p2 : Int32) {res : Mm} (h : f_X0_unite r p1 p2 u = some res) : Ctr l yX0_unite cX0_unite 4 none rm_X0_unite 0 0 D cy sz H0 u [.ref (sz + r), .int p1, .int p2] none res := by
  refine m_start (lv := [(0, .ref (sz + r)), (1, .int p1), (2, .int p2)]) (by decide) (by first | exact Nat.le_of_ble_eq_true rfl | simp [lg_sl, rv_cat, cat_i, cat_l, cat_r, cat_n]) (by first | rfl | simp [lv_args, rv_cat, cat_i, cat_l, cat_r, cat_n]) ?_
  intro p e s m below meth c ls E hr hlk hinit hM hl
  obtain ⟨hx, hb, hml, hown, hts, hKK⟩ := id E
  obtain ⟨H, hH⟩ : ∃ H, H = s.heap := ⟨_, rfl⟩
  obtain ⟨locs, hlocs⟩ : ∃ L : List Loc, L = [] := ⟨_, rfl⟩
  rw [← hH, ← hlocs] at hM ⊢
  unfold f_X0_unite at h
  refine lv_iconst (v := 0) hx hb dX0_unite_0 (by decide) ?_
  refine lv_istore_n (i := 3) (lv' := [(3, .int (0 : Int32)), (0, .ref (sz + r)), (1, .int p1), (2, .int p2)]) hx hb dX0_unite_1 rfl hl (by decide) (by first | rfl | simp [rv_cat, cat_i, cat_l, cat_r, cat_n]) (fun ls hl => ?_)
  refine lp_X0_unite_2 hr hlk  E 1000 (0 : Int32) u H locs ls hM (lv_sub hl [1, 2, 3, 0] rfl) h (fun a18 u19 H locs ls hM hl h => ?_)
  cases h
  exact m_vret hx hb hr hlk hM rfl dX0_unite_39

abbrev rm_X5_isPartOf : Room := { frames := 0, cells := 0, slots := 0, locals := 0 }
def L_X5_isPartOf_2 (b0 : Nat) (b1 : Option Nat) (u : Mm) (k : Option Nat → Option (Int32)) : Nat → Option Nat → Option (Int32)
  | 0, _ => none
  | n + 1, a2 => cs a2 (k (none : Option Nat)) (fun k1 => (if (some k1) = b1 then k (some k1) else gd (okO u k1 5) (bb (gR u k1 2) (fun x4 => L_X5_isPartOf_2 b0 b1 u k n x4))))
set_option maxHeartbeats 4000000 in
set_option maxRecDepth 100000 in
theorem lp_X5_isPartOf_2 {p : Program} {l : Launch} {e : Env} {s : State} {m : MethodId} {args : Array Value} {below : List Frame} {meth : Method} {c : Code} {D : va_G} {cy : Nat → ClassId} {sz : Nat} {H0 : Heap} {b0 : Nat} {b1 : Option Nat} {u : Mm} {k : Option Nat → Option (Int32)} {res : Int32} (hr : meth.sig.returnType = (some .boolean)) (hlk : meth.locks = false) (E : EE p s m args c cX5_isPartOf 3 RX5 D cy) : ∀ (n : Nat) (a2 : Option Nat) (H : Heap) (locs : List Loc) (ls : Array Slot), MM D cy sz H0 u H locs → lv_has ls 3 [(0, .ref (sz + b0)), (1, rv sz b1), (2, rv sz a2)] → L_X5_isPartOf_2 b0 b1 u k n a2 = some res → (∀ (a2 : Option Nat) (H : Heap) (locs : List Loc) (ls : Array Slot), MM D cy sz H0 u H locs → lv_has ls 3 [(0, .ref (sz + b0)), (1, rv sz b1), (2, rv sz a2)] → k a2 = some res → W p l e rm_X5_isPartOf s m args below meth c H locs 0 0 (MQ below (Post D cy sz H0 (some (.int res)) u) args s 0 0 (fun q => sz ≤ q)) (F0 m 19 ls [])) → W p l e rm_X5_isPartOf s m args below meth c H locs 0 0 (MQ below (Post D cy sz H0 (some (.int res)) u) args s 0 0 (fun q => sz ≤ q)) (F0 m 2 ls []) := by
  obtain ⟨hx, hb, hml, hown, hts, hKK⟩ := id E
  intro n
  induction n with
  | zero => intros; rename_i h _; cases h
  | succ n ih =>
    intro a2 H locs ls hM hl h hk
    rw [L_X5_isPartOf_2] at h
    refine m_aload_n hx hb dX5_isPartOf_2 rfl (lv_at hl 2 rfl) ?_
    rcases a2 with _ | k1
    · rw [cs_n] at h
      refine lv_ifnullN (tgt := 19) hx hb dX5_isPartOf_3 (by decide) ?_
      exact hk (none : Option Nat) H locs ls hM (lv_sub hl [0, 1, 2] rfl) h
    · rw [cs_s] at h
      refine lv_ifnull hx hb dX5_isPartOf_3 ?_
      refine lv_aload_n hx hb dX5_isPartOf_6 rfl (lv_at hl 2 rfl) ?_
      refine m_aload_n hx hb dX5_isPartOf_7 rfl (lv_at hl 1 rfl) ?_
      refine m_acmp_eq (x := (some k1)) (y := b1) (sz := sz) (tgt := 19) hx hb dX5_isPartOf_8 (by decide) (fun c2 => ?_) (fun c2 => ?_)
      · replace h := (k_if h).1 c2
        exact hk (some k1) H locs ls hM (lv_sub hl [0, 1, 2] rfl) h
      · replace h := (k_if h).2 c2
        refine lv_aload_n hx hb dX5_isPartOf_11 rfl (lv_at hl 2 rfl) ?_
        obtain ⟨ok3, h⟩ := k_gd h
        refine gs_X5_40 E hM ok3 dX5_isPartOf_12 (fun x4 hxx4 => ?_)
        replace h := k_bb h x4 hxx4.symm
        refine m_astore_n (i := 2) (lv' := [(2, rv sz x4), (0, .ref (sz + b0)), (1, rv sz b1)]) hx hb dX5_isPartOf_15 rfl hl (by decide) (by first | rfl | simp [rv_cat, cat_i, cat_l, cat_r, cat_n]) (fun ls hl => ?_)
        refine lv_goto (tgt := 2) hx hb dX5_isPartOf_16 (by decide) ?_
        exact ih x4 H locs ls hM (lv_sub hl [1, 2, 0] rfl) h hk

def f_X5_isPartOf (r : Nat) (p1 : Option Nat) (u : Mm) : Option (Int32) := L_X5_isPartOf_2 r p1 u (fun a5 => cs a5 (some (0 : Int32)) (fun k6 => some (1 : Int32))) 1000 (some r) 
set_option maxHeartbeats 4000000 in
set_option maxRecDepth 100000 in
theorem c_X5_isPartOf (l : Launch) (D : va_G) (cy : Nat → ClassId) (sz : Nat) (H0 : Heap) (u : Mm) (r : Nat) (p1 : Option Nat) {res : Int32} (h : f_X5_isPartOf r p1 u = some res) : Ctr l yX5_isPartOf cX5_isPartOf 3 (some .boolean) rm_X5_isPartOf 0 0 D cy sz H0 u [.ref (sz + r), rv sz p1] (some (.int res)) u := by
  refine m_start (lv := [(0, .ref (sz + r)), (1, rv sz p1)]) (by decide) (by first | exact Nat.le_of_ble_eq_true rfl | simp [lg_sl, rv_cat, cat_i, cat_l, cat_r, cat_n]) (by first | rfl | simp [lv_args, rv_cat, cat_i, cat_l, cat_r, cat_n]) ?_
  intro p e s m below meth c ls E hr hlk hinit hM hl
  obtain ⟨hx, hb, hml, hown, hts, hKK⟩ := id E
  obtain ⟨H, hH⟩ : ∃ H, H = s.heap := ⟨_, rfl⟩
  obtain ⟨locs, hlocs⟩ : ∃ L : List Loc, L = [] := ⟨_, rfl⟩
  rw [← hH, ← hlocs] at hM ⊢
  unfold f_X5_isPartOf at h
  refine lv_aload_n hx hb dX5_isPartOf_0 rfl (lv_at hl 0 rfl) ?_
  refine lv_astore_n (i := 2) (lv' := [(2, .ref (sz + r)), (0, .ref (sz + r)), (1, rv sz p1)]) hx hb dX5_isPartOf_1 rfl hl (by decide) (by first | rfl | simp [rv_cat, cat_i, cat_l, cat_r, cat_n]) (fun ls hl => ?_)
  refine lp_X5_isPartOf_2 hr hlk  E 1000 (some r) H locs ls hM (lv_sub hl [1, 2, 0] rfl) h (fun a5 H locs ls hM hl h => ?_)
  refine m_aload_n hx hb dX5_isPartOf_19 rfl (lv_at hl 2 rfl) ?_
  rcases a5 with _ | k6
  · rw [cs_n] at h
    refine lv_ifnullN (tgt := 27) hx hb dX5_isPartOf_20 (by decide) ?_
    refine lv_iconst (v := 0) hx hb dX5_isPartOf_27 (by decide) ?_
    cases h
    exact m_zret hx hb hr hlk hM (by decide) rfl rfl dX5_isPartOf_28
  · rw [cs_s] at h
    refine lv_ifnull hx hb dX5_isPartOf_20 ?_
    refine lv_iconst (v := 1) hx hb dX5_isPartOf_23 (by decide) ?_
    refine lv_goto (tgt := 28) hx hb dX5_isPartOf_24 (by decide) ?_
    cases h
    exact m_zret hx hb hr hlk hM (by decide) rfl rfl dX5_isPartOf_28

abbrev rm_X5_isClosedTo : Room := { frames := 0, cells := 0, slots := 0, locals := 0 }
def f_X5_isClosedTo (r : Nat) (p1 : Int32) (p2 : Int32) (u : Mm) : Option (Int32) := gd (okO u r 5) ((if (gI u r 7) ≤ p2 then some (0 : Int32) else (if (((gI u r 8) >>> (p1 &&& 31)) &&& (1 : Int32)) = 0 then some (1 : Int32) else some (0 : Int32))))
set_option maxHeartbeats 4000000 in
set_option maxRecDepth 100000 in
theorem c_X5_isClosedTo (l : Launch) (D : va_G) (cy : Nat → ClassId) (sz : Nat) (H0 : Heap) (u : Mm) (r : Nat) (p1 : Int32) (p2 : Int32) {res : Int32} (h : f_X5_isClosedTo r p1 p2 u = some res) : Ctr l yX5_isClosedTo cX5_isClosedTo 3 (some .boolean) rm_X5_isClosedTo 0 0 D cy sz H0 u [.ref (sz + r), .int p1, .int p2] (some (.int res)) u := by
  refine m_start (lv := [(0, .ref (sz + r)), (1, .int p1), (2, .int p2)]) (by decide) (by first | exact Nat.le_of_ble_eq_true rfl | simp [lg_sl, rv_cat, cat_i, cat_l, cat_r, cat_n]) (by first | rfl | simp [lv_args, rv_cat, cat_i, cat_l, cat_r, cat_n]) ?_
  intro p e s m below meth c ls E hr hlk hinit hM hl
  obtain ⟨hx, hb, hml, hown, hts, hKK⟩ := id E
  obtain ⟨H, hH⟩ : ∃ H, H = s.heap := ⟨_, rfl⟩
  obtain ⟨locs, hlocs⟩ : ∃ L : List Loc, L = [] := ⟨_, rfl⟩
  rw [← hH, ← hlocs] at hM ⊢
  unfold f_X5_isClosedTo at h
  refine lv_iload_n hx hb dX5_isClosedTo_0 rfl (lv_at hl 2 rfl) ?_
  refine lv_aload_n hx hb dX5_isClosedTo_1 rfl (lv_at hl 0 rfl) ?_
  obtain ⟨ok1, h⟩ := k_gd h
  refine gs_X5_25 E hM ok1 dX5_isClosedTo_2 ?_
  refine lv_icmp_ge (tgt := 23) hx hb dX5_isClosedTo_5 (by decide) (fun c2 => ?_) (fun c2 => ?_)
  · replace h := (k_if h).1 c2
    refine lv_iconst (v := 0) hx hb dX5_isClosedTo_23 (by decide) ?_
    cases h
    exact m_zret hx hb hr hlk hM (by decide) rfl rfl dX5_isClosedTo_24
  · replace h := (k_if h).2 c2
    refine lv_aload_n hx hb dX5_isClosedTo_8 rfl (lv_at hl 0 rfl) ?_
    refine gs_X5_28 E hM ok1 dX5_isClosedTo_9 ?_
    refine lv_iload_n hx hb dX5_isClosedTo_12 rfl (lv_at hl 1 rfl) ?_
    refine lv_ishr hx hb dX5_isClosedTo_13 ?_
    refine lv_iconst (v := 1) hx hb dX5_isClosedTo_14 (by decide) ?_
    refine lv_iand hx hb dX5_isClosedTo_15 ?_
    refine lv_if_ne (tgt := 23) hx hb dX5_isClosedTo_16 (by decide) (fun c3 => ?_) (fun c3 => ?_)
    · replace h := (k_if h).2 c3
      refine lv_iconst (v := 0) hx hb dX5_isClosedTo_23 (by decide) ?_
      cases h
      exact m_zret hx hb hr hlk hM (by decide) rfl rfl dX5_isClosedTo_24
    · replace h := (k_if h).1 c3
      refine lv_iconst (v := 1) hx hb dX5_isClosedTo_19 (by decide) ?_
      refine lv_goto (tgt := 24) hx hb dX5_isClosedTo_20 (by decide) ?_
      cases h
      exact m_zret hx hb hr hlk hM (by decide) rfl rfl dX5_isClosedTo_24

abbrev rm_X5_isSeen : Room := { frames := 1, cells := 0, slots := 0, locals := 36 }
def L_X5_isSeen_2 (b0 : Nat) (b1 : Int32) (b2 : Int32) (u : Mm) (k : Option Nat → Option (Int32)) : Nat → Option Nat → Option (Int32)
  | 0, _ => none
  | n + 1, a3 => cs a3 (k (none : Option Nat)) (fun k1 => gd (okO u k1 5) (bd (f_X5_isClosedTo k1 b1 b2 u) (fun w3 => (if w3 = 0 then bb (gR u k1 2) (fun x5 => L_X5_isSeen_2 b0 b1 b2 u k n x5) else k (some k1)))))
set_option maxHeartbeats 4000000 in
set_option maxRecDepth 100000 in
theorem lp_X5_isSeen_2 {p : Program} {l : Launch} {e : Env} {s : State} {m : MethodId} {args : Array Value} {below : List Frame} {meth : Method} {c : Code} {D : va_G} {cy : Nat → ClassId} {sz : Nat} {H0 : Heap} {b0 : Nat} {b1 : Int32} {b2 : Int32} {u : Mm} {k : Option Nat → Option (Int32)} {res : Int32} (hr : meth.sig.returnType = (some .boolean)) (hlk : meth.locks = false) (E : EE p s m args c cX5_isSeen 4 RX5 D cy) : ∀ (n : Nat) (a3 : Option Nat) (H : Heap) (locs : List Loc) (ls : Array Slot), MM D cy sz H0 u H locs → lv_has ls 4 [(0, .ref (sz + b0)), (1, .int b1), (2, .int b2), (3, rv sz a3)] → L_X5_isSeen_2 b0 b1 b2 u k n a3 = some res → (∀ (a3 : Option Nat) (H : Heap) (locs : List Loc) (ls : Array Slot), MM D cy sz H0 u H locs → lv_has ls 4 [(0, .ref (sz + b0)), (1, .int b1), (2, .int b2), (3, rv sz a3)] → k a3 = some res → W p l e rm_X5_isSeen s m args below meth c H locs 0 0 (MQ below (Post D cy sz H0 (some (.int res)) u) args s 0 0 (fun q => sz ≤ q)) (F0 m 23 ls [])) → W p l e rm_X5_isSeen s m args below meth c H locs 0 0 (MQ below (Post D cy sz H0 (some (.int res)) u) args s 0 0 (fun q => sz ≤ q)) (F0 m 2 ls []) := by
  obtain ⟨hx, hb, hml, hown, hts, hKK⟩ := id E
  intro n
  induction n with
  | zero => intros; rename_i h _; cases h
  | succ n ih =>
    intro a3 H locs ls hM hl h hk
    rw [L_X5_isSeen_2] at h
    refine m_aload_n hx hb dX5_isSeen_2 rfl (lv_at hl 3 rfl) ?_
    rcases a3 with _ | k1
    · rw [cs_n] at h
      refine lv_ifnullN (tgt := 23) hx hb dX5_isSeen_3 (by decide) ?_
      exact hk (none : Option Nat) H locs ls hM (lv_sub hl [0, 1, 2, 3] rfl) h
    · rw [cs_s] at h
      refine lv_ifnull hx hb dX5_isSeen_3 ?_
      refine lv_aload_n hx hb dX5_isSeen_6 rfl (lv_at hl 3 rfl) ?_
      refine lv_iload_n hx hb dX5_isSeen_7 rfl (lv_at hl 1 rfl) ?_
      refine lv_iload_n hx hb dX5_isSeen_8 rfl (lv_at hl 2 rfl) ?_
      obtain ⟨ok2, h⟩ := k_gd h
      obtain ⟨w3, hzw3, h⟩ := k_bd h
      refine m_callV (C := RX5) (T := TX5) (N := 11) (ci := 5) (n := 2) (As := [.int b1, .int b2]) (rest := []) (st1 := (.int w3 :: [])) E hM hl.1 ok2 (by decide) rfl rfl (c_X5_isClosedTo l D cy sz H0 u k1 b1 b2 hzw3) wl_X5_57 wm_X5_isClosedTo ws_X5_isClosedTo wi_X5 wd_X5_isClosedTo rfl rfl (by decide +kernel) ⟨by decide, by decide⟩ rfl rfl (by first | exact Nat.le_of_ble_eq_true rfl | simp [rv_cat, cat_i, cat_l, cat_r, cat_n]) dX5_isSeen_9 ⟨by decide, by decide⟩ rfl (fun H locs hM => ?_)
      refine lv_if_ne (tgt := 23) hx hb dX5_isSeen_12 (by decide) (fun c4 => ?_) (fun c4 => ?_)
      · replace h := (k_if h).2 c4
        exact hk (some k1) H locs ls hM (lv_sub hl [0, 1, 2, 3] rfl) h
      · replace h := (k_if h).1 c4
        refine lv_aload_n hx hb dX5_isSeen_15 rfl (lv_at hl 3 rfl) ?_
        refine gs_X5_40 E hM ok2 dX5_isSeen_16 (fun x5 hxx5 => ?_)
        replace h := k_bb h x5 hxx5.symm
        refine m_astore_n (i := 3) (lv' := [(3, rv sz x5), (0, .ref (sz + b0)), (1, .int b1), (2, .int b2)]) hx hb dX5_isSeen_19 rfl hl (by decide) (by first | rfl | simp [rv_cat, cat_i, cat_l, cat_r, cat_n]) (fun ls hl => ?_)
        refine lv_goto (tgt := 2) hx hb dX5_isSeen_20 (by decide) ?_
        exact ih x5 H locs ls hM (lv_sub hl [1, 2, 3, 0] rfl) h hk

def f_X5_isSeen (r : Nat) (p1 : Int32) (p2 : Int32) (u : Mm) : Option (Int32) := L_X5_isSeen_2 r p1 p2 u (fun a6 => cs a6 (some (1 : Int32)) (fun k7 => some (0 : Int32))) 1000 (some r) 
set_option maxHeartbeats 4000000 in
set_option maxRecDepth 100000 in
theorem c_X5_isSeen (l : Launch) (D : va_G) (cy : Nat → ClassId) (sz : Nat) (H0 : Heap) (u : Mm) (r : Nat) (p1 : Int32) (p2 : Int32) {res : Int32} (h : f_X5_isSeen r p1 p2 u = some res) : Ctr l yX5_isSeen cX5_isSeen 4 (some .boolean) rm_X5_isSeen 0 0 D cy sz H0 u [.ref (sz + r), .int p1, .int p2] (some (.int res)) u := by
  refine m_start (lv := [(0, .ref (sz + r)), (1, .int p1), (2, .int p2)]) (by decide) (by first | exact Nat.le_of_ble_eq_true rfl | simp [lg_sl, rv_cat, cat_i, cat_l, cat_r, cat_n]) (by first | rfl | simp [lv_args, rv_cat, cat_i, cat_l, cat_r, cat_n]) ?_
  intro p e s m below meth c ls E hr hlk hinit hM hl
  obtain ⟨hx, hb, hml, hown, hts, hKK⟩ := id E
  obtain ⟨H, hH⟩ : ∃ H, H = s.heap := ⟨_, rfl⟩
  obtain ⟨locs, hlocs⟩ : ∃ L : List Loc, L = [] := ⟨_, rfl⟩
  rw [← hH, ← hlocs] at hM ⊢
  unfold f_X5_isSeen at h
  refine lv_aload_n hx hb dX5_isSeen_0 rfl (lv_at hl 0 rfl) ?_
  refine lv_astore_n (i := 3) (lv' := [(3, .ref (sz + r)), (0, .ref (sz + r)), (1, .int p1), (2, .int p2)]) hx hb dX5_isSeen_1 rfl hl (by decide) (by first | rfl | simp [rv_cat, cat_i, cat_l, cat_r, cat_n]) (fun ls hl => ?_)
  refine lp_X5_isSeen_2 hr hlk  E 1000 (some r) H locs ls hM (lv_sub hl [1, 2, 3, 0] rfl) h (fun a6 H locs ls hM hl h => ?_)
  refine m_aload_n hx hb dX5_isSeen_23 rfl (lv_at hl 3 rfl) ?_
  rcases a6 with _ | k7
  · rw [cs_n] at h
    refine lv_ifnonnullN hx hb dX5_isSeen_24 ?_
    refine lv_iconst (v := 1) hx hb dX5_isSeen_27 (by decide) ?_
    refine lv_goto (tgt := 32) hx hb dX5_isSeen_28 (by decide) ?_
    cases h
    exact m_zret hx hb hr hlk hM (by decide) rfl rfl dX5_isSeen_32
  · rw [cs_s] at h
    refine lv_ifnonnull (tgt := 31) hx hb dX5_isSeen_24 (by decide) ?_
    refine lv_iconst (v := 0) hx hb dX5_isSeen_31 (by decide) ?_
    cases h
    exact m_zret hx hb hr hlk hM (by decide) rfl rfl dX5_isSeen_32

abbrev rm_X0_isPartSeen : Room := { frames := 2, cells := 0, slots := 0, locals := 72 }
def f_X0_isPartSeen (p1 : Option Nat) (p2 : Option Nat) (p3 : Int32) (p4 : Int32) (p5 : Int32) (u : Mm) : Option (Int32) := cs p1 none (fun k1 => gd (okO u k1 5) ((if (gI u k1 1) = p3 then bd (f_X5_isPartOf k1 p2 u) (fun w4 => (if w4 = 0 then some (0 : Int32) else bd (f_X5_isSeen k1 p4 p5 u) (fun w6 => (if w6 = 0 then some (0 : Int32) else some (1 : Int32))))) else some (0 : Int32))))
set_option maxHeartbeats 4000000 in
set_option maxRecDepth 100000 in
theorem c_X0_isPartSeen (l : Launch) (D : va_G) (cy : Nat → ClassId) (sz : Nat) (H0 : Heap) (u : Mm) (p1 : Option Nat) (p2 : Option Nat) (p3 : Int32) (p4 : Int32) (p5 : Int32) {res : Int32} (h : f_X0_isPartSeen p1 p2 p3 p4 p5 u = some res) : Ctr l yX0_isPartSeen cX0_isPartSeen 5 (some .boolean) rm_X0_isPartSeen 0 0 D cy sz H0 u [rv sz p1, rv sz p2, .int p3, .int p4, .int p5] (some (.int res)) u := by
  refine m_start (lv := [(0, rv sz p1), (1, rv sz p2), (2, .int p3), (3, .int p4), (4, .int p5)]) (by decide) (by first | exact Nat.le_of_ble_eq_true rfl | simp [lg_sl, rv_cat, cat_i, cat_l, cat_r, cat_n]) (by first | rfl | simp [lv_args, rv_cat, cat_i, cat_l, cat_r, cat_n]) ?_
  intro p e s m below meth c ls E hr hlk hinit hM hl
  obtain ⟨hx, hb, hml, hown, hts, hKK⟩ := id E
  obtain ⟨H, hH⟩ : ∃ H, H = s.heap := ⟨_, rfl⟩
  obtain ⟨locs, hlocs⟩ : ∃ L : List Loc, L = [] := ⟨_, rfl⟩
  rw [← hH, ← hlocs] at hM ⊢
  unfold f_X0_isPartSeen at h
  refine m_aload_n hx hb dX0_isPartSeen_0 rfl (lv_at hl 0 rfl) ?_
  rcases p1 with _ | k1
  · cases h
  rw [cs_s] at h
  obtain ⟨ok2, h⟩ := k_gd h
  refine gs_X0_74 E hM ok2 dX0_isPartSeen_1 ?_
  refine lv_iload_n hx hb dX0_isPartSeen_4 rfl (lv_at hl 2 rfl) ?_
  refine lv_icmp_ne (tgt := 30) hx hb dX0_isPartSeen_5 (by decide) (fun c3 => ?_) (fun c3 => ?_)
  · replace h := (k_if h).2 c3
    refine lv_iconst (v := 0) hx hb dX0_isPartSeen_30 (by decide) ?_
    cases h
    exact m_zret hx hb hr hlk hM (by decide) rfl rfl dX0_isPartSeen_31
  · replace h := (k_if h).1 c3
    refine lv_aload_n hx hb dX0_isPartSeen_8 rfl (lv_at hl 0 rfl) ?_
    refine m_aload_n hx hb dX0_isPartSeen_9 rfl (lv_at hl 1 rfl) ?_
    obtain ⟨w4, hzw4, h⟩ := k_bd h
    refine m_callV (C := RX5) (T := TX5) (N := 11) (ci := 5) (n := 1) (As := [rv sz p2]) (rest := []) (st1 := (.int w4 :: [])) E hM hl.1 ok2 (by decide) rfl rfl (c_X5_isPartOf l D cy sz H0 u k1 p2 hzw4) wl_X0_77 wm_X5_isPartOf ws_X5_isPartOf wi_X5 wd_X5_isPartOf rfl rfl (by decide +kernel) ⟨by decide, by decide⟩ rfl rfl (by first | exact Nat.le_of_ble_eq_true rfl | simp [rv_cat, cat_i, cat_l, cat_r, cat_n]) dX0_isPartSeen_10 ⟨by decide, by decide⟩ rfl (fun H locs hM => ?_)
    refine lv_if_eq (tgt := 30) hx hb dX0_isPartSeen_13 (by decide) (fun c5 => ?_) (fun c5 => ?_)
    · replace h := (k_if h).1 c5
      refine lv_iconst (v := 0) hx hb dX0_isPartSeen_30 (by decide) ?_
      cases h
      exact m_zret hx hb hr hlk hM (by decide) rfl rfl dX0_isPartSeen_31
    · replace h := (k_if h).2 c5
      refine lv_aload_n hx hb dX0_isPartSeen_16 rfl (lv_at hl 0 rfl) ?_
      refine lv_iload_n hx hb dX0_isPartSeen_17 rfl (lv_at hl 3 rfl) ?_
      refine lv_iload hx hb dX0_isPartSeen_18 (lv_at hl 4 rfl) ?_
      obtain ⟨w6, hzw6, h⟩ := k_bd h
      refine m_callV (C := RX5) (T := TX5) (N := 11) (ci := 5) (n := 2) (As := [.int p4, .int p5]) (rest := []) (st1 := (.int w6 :: [])) E hM hl.1 ok2 (by decide) rfl rfl (c_X5_isSeen l D cy sz H0 u k1 p4 p5 hzw6) wl_X0_80 wm_X5_isSeen ws_X5_isSeen wi_X5 wd_X5_isSeen rfl rfl (by decide +kernel) ⟨by decide, by decide⟩ rfl rfl (by first | exact Nat.le_of_ble_eq_true rfl | simp [rv_cat, cat_i, cat_l, cat_r, cat_n]) dX0_isPartSeen_20 ⟨by decide, by decide⟩ rfl (fun H locs hM => ?_)
      refine lv_if_eq (tgt := 30) hx hb dX0_isPartSeen_23 (by decide) (fun c7 => ?_) (fun c7 => ?_)
      · replace h := (k_if h).1 c7
        refine lv_iconst (v := 0) hx hb dX0_isPartSeen_30 (by decide) ?_
        cases h
        exact m_zret hx hb hr hlk hM (by decide) rfl rfl dX0_isPartSeen_31
      · replace h := (k_if h).2 c7
        refine lv_iconst (v := 1) hx hb dX0_isPartSeen_26 (by decide) ?_
        refine lv_goto (tgt := 31) hx hb dX0_isPartSeen_27 (by decide) ?_
        cases h
        exact m_zret hx hb hr hlk hM (by decide) rfl rfl dX0_isPartSeen_31

