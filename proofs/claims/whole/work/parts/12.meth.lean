abbrev rm_X2_append : Room := { frames := 0, cells := 0, slots := 0, locals := 0 }
def f_X2_append (r : Nat) (p1 : Int32) (p2 : Int32) (p3 : Int32) (u : Mm) : Option (Mm) := gd (okO u r 2) ((if (200 : Int32) ≤ (gI u r 3) then some u else bb (gR u r 0) (fun x3 => cs x3 none (fun k4 => gd (okA u k4 9 (gI u r 3)) (bb (gR (sI u k4 (Int32.toNatClampNeg (gI u r 3)) p1) r 1) (fun x6 => cs x6 none (fun k7 => gd (okA (sI u k4 (Int32.toNatClampNeg (gI u r 3)) p1) k7 9 (gI (sI u k4 (Int32.toNatClampNeg (gI u r 3)) p1) r 3)) (bb (gR (sI (sI u k4 (Int32.toNatClampNeg (gI u r 3)) p1) k7 (Int32.toNatClampNeg (gI (sI u k4 (Int32.toNatClampNeg (gI u r 3)) p1) r 3)) p2) r 2) (fun x9 => cs x9 none (fun k10 => gd (okA (sI (sI u k4 (Int32.toNatClampNeg (gI u r 3)) p1) k7 (Int32.toNatClampNeg (gI (sI u k4 (Int32.toNatClampNeg (gI u r 3)) p1) r 3)) p2) k10 9 (gI (sI (sI u k4 (Int32.toNatClampNeg (gI u r 3)) p1) k7 (Int32.toNatClampNeg (gI (sI u k4 (Int32.toNatClampNeg (gI u r 3)) p1) r 3)) p2) r 3)) (some (sI (sI (sI (sI u k4 (Int32.toNatClampNeg (gI u r 3)) p1) k7 (Int32.toNatClampNeg (gI (sI u k4 (Int32.toNatClampNeg (gI u r 3)) p1) r 3)) p2) k10 (Int32.toNatClampNeg (gI (sI (sI u k4 (Int32.toNatClampNeg (gI u r 3)) p1) k7 (Int32.toNatClampNeg (gI (sI u k4 (Int32.toNatClampNeg (gI u r 3)) p1) r 3)) p2) r 3)) p3) r 3 ((gI (sI (sI (sI u k4 (Int32.toNatClampNeg (gI u r 3)) p1) k7 (Int32.toNatClampNeg (gI (sI u k4 (Int32.toNatClampNeg (gI u r 3)) p1) r 3)) p2) k10 (Int32.toNatClampNeg (gI (sI (sI u k4 (Int32.toNatClampNeg (gI u r 3)) p1) k7 (Int32.toNatClampNeg (gI (sI u k4 (Int32.toNatClampNeg (gI u r 3)) p1) r 3)) p2) r 3)) p3) r 3) + (1 : Int32))))))))))))))
set_option maxHeartbeats 4000000 in
set_option maxRecDepth 100000 in
theorem c_X2_append (l : Launch) (D : va_G) (cy : Nat → ClassId) (sz : Nat) (H0 : Heap) (u : Mm) (r : Nat) (p1 : Int32) (p2 : Int32) (p3 : Int32) {res : Mm} (h : f_X2_append r p1 p2 p3 u = some res) : Ctr l yX2_append cX2_append 4 none rm_X2_append 0 0 D cy sz H0 u [.ref (sz + r), .int p1, .int p2, .int p3] none res := by
  refine m_start (lv := [(0, .ref (sz + r)), (1, .int p1), (2, .int p2), (3, .int p3)]) (by decide) (by first | exact Nat.le_of_ble_eq_true rfl | simp [lg_sl, rv_cat, cat_i, cat_l, cat_r, cat_n]) (by first | rfl | simp [lv_args, rv_cat, cat_i, cat_l, cat_r, cat_n]) ?_
  intro p e s m below meth c ls E hr hlk hinit hM hl
  obtain ⟨hx, hb, hml, hown, hts, hKK⟩ := id E
  obtain ⟨H, hH⟩ : ∃ H, H = s.heap := ⟨_, rfl⟩
  obtain ⟨locs, hlocs⟩ : ∃ L : List Loc, L = [] := ⟨_, rfl⟩
  rw [← hH, ← hlocs] at hM ⊢
  unfold f_X2_append at h
  refine lv_aload_n hx hb dX2_append_0 rfl (lv_at hl 0 rfl) ?_
  obtain ⟨ok1, h⟩ := k_gd h
  refine gs_X2_21 E hM ok1 dX2_append_1 ?_
  refine lv_sipush (v := 200) hx hb dX2_append_4 (by decide) ?_
  refine lv_icmp_ge (tgt := 50) hx hb dX2_append_7 (by decide) (fun c2 => ?_) (fun c2 => ?_)
  · replace h := (k_if h).1 c2
    cases h
    exact m_vret hx hb hr hlk hM rfl dX2_append_50
  · replace h := (k_if h).2 c2
    refine lv_aload_n hx hb dX2_append_10 rfl (lv_at hl 0 rfl) ?_
    refine gs_X2_9 E hM ok1 dX2_append_11 (fun x3 hxx3 => ?_)
    replace h := k_bb h x3 hxx3.symm
    refine lv_aload_n hx hb dX2_append_14 rfl (lv_at hl 0 rfl) ?_
    refine gs_X2_21 E hM ok1 dX2_append_15 ?_
    refine lv_iload_n hx hb dX2_append_18 rfl (lv_at hl 1 rfl) ?_
    rcases x3 with _ | k4
    · cases h
    rw [cs_s] at h
    obtain ⟨ok5, h⟩ := k_gd h
    refine m_iast E hM ok5 dX2_append_19 (fun H locs hM => ?_)
    refine lv_aload_n hx hb dX2_append_20 rfl (lv_at hl 0 rfl) ?_
    refine gs_X2_15 E hM ok1 dX2_append_21 (fun x6 hxx6 => ?_)
    replace h := k_bb h x6 hxx6.symm
    refine lv_aload_n hx hb dX2_append_24 rfl (lv_at hl 0 rfl) ?_
    refine gs_X2_21 E hM ok1 dX2_append_25 ?_
    refine lv_iload_n hx hb dX2_append_28 rfl (lv_at hl 2 rfl) ?_
    rcases x6 with _ | k7
    · cases h
    rw [cs_s] at h
    obtain ⟨ok8, h⟩ := k_gd h
    refine m_iast E hM ok8 dX2_append_29 (fun H locs hM => ?_)
    refine lv_aload_n hx hb dX2_append_30 rfl (lv_at hl 0 rfl) ?_
    refine gs_X2_18 E hM ok1 dX2_append_31 (fun x9 hxx9 => ?_)
    replace h := k_bb h x9 hxx9.symm
    refine lv_aload_n hx hb dX2_append_34 rfl (lv_at hl 0 rfl) ?_
    refine gs_X2_21 E hM ok1 dX2_append_35 ?_
    refine lv_iload_n hx hb dX2_append_38 rfl (lv_at hl 3 rfl) ?_
    rcases x9 with _ | k10
    · cases h
    rw [cs_s] at h
    obtain ⟨ok11, h⟩ := k_gd h
    refine m_iast E hM ok11 dX2_append_39 (fun H locs hM => ?_)
    refine lv_aload_n hx hb dX2_append_40 rfl (lv_at hl 0 rfl) ?_
    refine lv_dup hx hb dX2_append_41 rfl ?_
    refine gs_X2_21 E hM ok1 dX2_append_42 ?_
    refine lv_iconst (v := 1) hx hb dX2_append_45 (by decide) ?_
    refine lv_iadd hx hb dX2_append_46 ?_
    refine ps_X2_21 (v := ((gI (sI (sI (sI u k4 (Int32.toNatClampNeg (gI u r 3)) p1) k7 (Int32.toNatClampNeg (gI (sI u k4 (Int32.toNatClampNeg (gI u r 3)) p1) r 3)) p2) k10 (Int32.toNatClampNeg (gI (sI (sI u k4 (Int32.toNatClampNeg (gI u r 3)) p1) k7 (Int32.toNatClampNeg (gI (sI u k4 (Int32.toNatClampNeg (gI u r 3)) p1) r 3)) p2) r 3)) p3) r 3) + (1 : Int32))) E hM ok1 dX2_append_47 (fun H locs hM => ?_)
    cases h
    exact m_vret hx hb hr hlk hM rfl dX2_append_50

abbrev rm_X2_holder : Room := { frames := 0, cells := 0, slots := 0, locals := 0 }
def L_X2_holder_7 (b0 : Nat) (b1 : Int32) (b2 : Int32) (u : Mm) (k : Int32 → Option (Int32)) : Nat → Int32 → Option (Int32)
  | 0, _ => none
  | n + 1, a3 => (if a3 < 0 then k a3 else gd (okO u b0 2) (bb (gR u b0 0) (fun x5 => cs x5 none (fun k6 => gd (okA u k6 9 a3) ((if (gI u k6 (Int32.toNatClampNeg a3)) = b1 then bb (gR u b0 2) (fun x10 => cs x10 none (fun k11 => gd (okA u k11 9 a3) ((if b2 < (gI u k11 (Int32.toNatClampNeg a3)) then bb (a3 + (-1)) (fun v14 => L_X2_holder_7 b0 b1 b2 u k n v14) else bb (gR u b0 1) (fun x15 => cs x15 none (fun k16 => gd (okA u k16 9 a3) (some (gI u k16 (Int32.toNatClampNeg a3))))))))) else bb (a3 + (-1)) (fun v9 => L_X2_holder_7 b0 b1 b2 u k n v9)))))))
set_option maxHeartbeats 4000000 in
set_option maxRecDepth 100000 in
theorem lp_X2_holder_7 {p : Program} {l : Launch} {e : Env} {s : State} {m : MethodId} {args : Array Value} {below : List Frame} {meth : Method} {c : Code} {D : va_G} {cy : Nat → ClassId} {sz : Nat} {H0 : Heap} {b0 : Nat} {b1 : Int32} {b2 : Int32} {u : Mm} {k : Int32 → Option (Int32)} {res : Int32} (hr : meth.sig.returnType = (some .int)) (hlk : meth.locks = false) (E : EE p s m args c cX2_holder 4 RX2 D cy) : ∀ (n : Nat) (a3 : Int32) (H : Heap) (locs : List Loc) (ls : Array Slot), MM D cy sz H0 u H locs → lv_has ls 4 [(0, .ref (sz + b0)), (1, .int b1), (2, .int b2), (3, .int a3)] → L_X2_holder_7 b0 b1 b2 u k n a3 = some res → (∀ (a3 : Int32) (H : Heap) (locs : List Loc) (ls : Array Slot), MM D cy sz H0 u H locs → lv_has ls 4 [(0, .ref (sz + b0)), (1, .int b1), (2, .int b2), (3, .int a3)] → k a3 = some res → W p l e rm_X2_holder s m args below meth c H locs 0 0 (MQ below (Post D cy sz H0 (some (.int res)) u) args s 0 0 (fun q => sz ≤ q)) (F0 m 44 ls [])) → W p l e rm_X2_holder s m args below meth c H locs 0 0 (MQ below (Post D cy sz H0 (some (.int res)) u) args s 0 0 (fun q => sz ≤ q)) (F0 m 7 ls []) := by
  obtain ⟨hx, hb, hml, hown, hts, hKK⟩ := id E
  intro n
  induction n with
  | zero => intros; rename_i h _; cases h
  | succ n ih =>
    intro a3 H locs ls hM hl h hk
    rw [L_X2_holder_7] at h
    refine lv_iload_n hx hb dX2_holder_7 rfl (lv_at hl 3 rfl) ?_
    refine lv_if_lt (tgt := 44) hx hb dX2_holder_8 (by decide) (fun c3 => ?_) (fun c3 => ?_)
    · replace h := (k_if h).1 c3
      exact hk a3 H locs ls hM (lv_sub hl [0, 1, 2, 3] rfl) h
    · replace h := (k_if h).2 c3
      refine lv_aload_n hx hb dX2_holder_11 rfl (lv_at hl 0 rfl) ?_
      obtain ⟨ok4, h⟩ := k_gd h
      refine gs_X2_9 E hM ok4 dX2_holder_12 (fun x5 hxx5 => ?_)
      replace h := k_bb h x5 hxx5.symm
      refine lv_iload_n hx hb dX2_holder_15 rfl (lv_at hl 3 rfl) ?_
      rcases x5 with _ | k6
      · cases h
      rw [cs_s] at h
      obtain ⟨ok7, h⟩ := k_gd h
      refine m_iald E hM ok7 dX2_holder_16 ?_
      refine lv_iload_n hx hb dX2_holder_17 rfl (lv_at hl 1 rfl) ?_
      refine lv_icmp_ne (tgt := 38) hx hb dX2_holder_18 (by decide) (fun c8 => ?_) (fun c8 => ?_)
      · replace h := (k_if h).2 c8
        obtain ⟨v9, hvv9⟩ : ∃ y : Int32, y = a3 + (-1) := ⟨_, rfl⟩
        replace h := k_bb h v9 hvv9
        refine lv_iinc (v := v9) (lv' := [(3, .int v9), (0, .ref (sz + b0)), (1, .int b1), (2, .int b2)]) hx hb dX2_holder_38 hl (k := 3) rfl (by rw [hvv9]; rfl) (by decide) (by first | rfl | simp [rv_cat, cat_i, cat_l, cat_r, cat_n]) (fun ls hl => ?_)
        refine lv_goto (tgt := 7) hx hb dX2_holder_41 (by decide) ?_
        exact ih v9 H locs ls hM (lv_sub hl [1, 2, 3, 0] rfl) h hk
      · replace h := (k_if h).1 c8
        refine lv_aload_n hx hb dX2_holder_21 rfl (lv_at hl 0 rfl) ?_
        refine gs_X2_18 E hM ok4 dX2_holder_22 (fun x10 hxx10 => ?_)
        replace h := k_bb h x10 hxx10.symm
        refine lv_iload_n hx hb dX2_holder_25 rfl (lv_at hl 3 rfl) ?_
        rcases x10 with _ | k11
        · cases h
        rw [cs_s] at h
        obtain ⟨ok12, h⟩ := k_gd h
        refine m_iald E hM ok12 dX2_holder_26 ?_
        refine lv_iload_n hx hb dX2_holder_27 rfl (lv_at hl 2 rfl) ?_
        refine lv_icmp_gt (tgt := 38) hx hb dX2_holder_28 (by decide) (fun c13 => ?_) (fun c13 => ?_)
        · replace h := (k_if h).1 c13
          obtain ⟨v14, hvv14⟩ : ∃ y : Int32, y = a3 + (-1) := ⟨_, rfl⟩
          replace h := k_bb h v14 hvv14
          refine lv_iinc (v := v14) (lv' := [(3, .int v14), (0, .ref (sz + b0)), (1, .int b1), (2, .int b2)]) hx hb dX2_holder_38 hl (k := 3) rfl (by rw [hvv14]; rfl) (by decide) (by first | rfl | simp [rv_cat, cat_i, cat_l, cat_r, cat_n]) (fun ls hl => ?_)
          refine lv_goto (tgt := 7) hx hb dX2_holder_41 (by decide) ?_
          exact ih v14 H locs ls hM (lv_sub hl [1, 2, 3, 0] rfl) h hk
        · replace h := (k_if h).2 c13
          refine lv_aload_n hx hb dX2_holder_31 rfl (lv_at hl 0 rfl) ?_
          refine gs_X2_15 E hM ok4 dX2_holder_32 (fun x15 hxx15 => ?_)
          replace h := k_bb h x15 hxx15.symm
          refine lv_iload_n hx hb dX2_holder_35 rfl (lv_at hl 3 rfl) ?_
          rcases x15 with _ | k16
          · cases h
          rw [cs_s] at h
          obtain ⟨ok17, h⟩ := k_gd h
          refine m_iald E hM ok17 dX2_holder_36 ?_
          cases h
          exact m_iret hx hb hr hlk hM rfl rfl dX2_holder_37

def f_X2_holder (r : Nat) (p1 : Int32) (p2 : Int32) (u : Mm) : Option (Int32) := gd (okO u r 2) (bb (((gI u r 3) - (1 : Int32))) (fun v2 => L_X2_holder_7 r p1 p2 u (fun a18 => some (-1 : Int32)) 1000 v2 ))
set_option maxHeartbeats 4000000 in
set_option maxRecDepth 100000 in
theorem c_X2_holder (l : Launch) (D : va_G) (cy : Nat → ClassId) (sz : Nat) (H0 : Heap) (u : Mm) (r : Nat) (p1 : Int32) (p2 : Int32) {res : Int32} (h : f_X2_holder r p1 p2 u = some res) : Ctr l yX2_holder cX2_holder 4 (some .int) rm_X2_holder 0 0 D cy sz H0 u [.ref (sz + r), .int p1, .int p2] (some (.int res)) u := by
  refine m_start (lv := [(0, .ref (sz + r)), (1, .int p1), (2, .int p2)]) (by decide) (by first | exact Nat.le_of_ble_eq_true rfl | simp [lg_sl, rv_cat, cat_i, cat_l, cat_r, cat_n]) (by first | rfl | simp [lv_args, rv_cat, cat_i, cat_l, cat_r, cat_n]) ?_
  intro p e s m below meth c ls E hr hlk hinit hM hl
  obtain ⟨hx, hb, hml, hown, hts, hKK⟩ := id E
  obtain ⟨H, hH⟩ : ∃ H, H = s.heap := ⟨_, rfl⟩
  obtain ⟨locs, hlocs⟩ : ∃ L : List Loc, L = [] := ⟨_, rfl⟩
  rw [← hH, ← hlocs] at hM ⊢
  unfold f_X2_holder at h
  refine lv_aload_n hx hb dX2_holder_0 rfl (lv_at hl 0 rfl) ?_
  obtain ⟨ok1, h⟩ := k_gd h
  refine gs_X2_21 E hM ok1 dX2_holder_1 ?_
  refine lv_iconst (v := 1) hx hb dX2_holder_4 (by decide) ?_
  refine lv_isub hx hb dX2_holder_5 ?_
  refine lv_topi (fun v2 hvv2 => ?_)
  replace h := k_bb h v2 hvv2
  refine lv_istore_n (i := 3) (lv' := [(3, .int v2), (0, .ref (sz + r)), (1, .int p1), (2, .int p2)]) hx hb dX2_holder_6 rfl hl (by decide) (by first | rfl | simp [rv_cat, cat_i, cat_l, cat_r, cat_n]) (fun ls hl => ?_)
  refine lp_X2_holder_7 hr hlk  E 1000 v2 H locs ls hM (lv_sub hl [1, 2, 3, 0] rfl) h (fun a18 H locs ls hM hl h => ?_)
  refine lv_iconst (v := (-1)) hx hb dX2_holder_44 (by decide) ?_
  cases h
  exact m_iret hx hb hr hlk hM rfl rfl dX2_holder_45

abbrev rm_X3_init : Room := { frames := 1, cells := 3, slots := 60, locals := 36 }
def f_X3_init (r : Nat) (u : Mm) : Option (Mm) := gd (okM u 9 20) (bb (u.1) (fun q2 => gd (okO (nw u) r 3) (gd (okM (sR (nw u) r 0 (some q2)) 10 20) (bb ((sR (nw u) r 0 (some q2)).1) (fun q5 => gd (okM (sR (nw (sR (nw u) r 0 (some q2))) r 1 (some q5)) 10 20) (bb ((sR (nw (sR (nw u) r 0 (some q2))) r 1 (some q5)).1) (fun q7 => some (sI (sR (nw (sR (nw (sR (nw u) r 0 (some q2))) r 1 (some q5))) r 2 (some q7)) r 3 (0 : Int32)))))))))
set_option maxHeartbeats 4000000 in
set_option maxRecDepth 100000 in
theorem c_X3_init (l : Launch) (D : va_G) (cy : Nat → ClassId) (sz : Nat) (H0 : Heap) (u : Mm) (r : Nat) {res : Mm} (h : f_X3_init r u = some res) : Ctr l yX3_init cX3_init 1 none rm_X3_init 3 60 D cy sz H0 u [.ref (sz + r)] none res := by
  refine m_start (lv := [(0, .ref (sz + r))]) (by decide) (by first | exact Nat.le_of_ble_eq_true rfl | simp [lg_sl, rv_cat, cat_i, cat_l, cat_r, cat_n]) (by first | rfl | simp [lv_args, rv_cat, cat_i, cat_l, cat_r, cat_n]) ?_
  intro p e s m below meth c ls E hr hlk hinit hM hl
  obtain ⟨hx, hb, hml, hown, hts, hKK⟩ := id E
  obtain ⟨H, hH⟩ : ∃ H, H = s.heap := ⟨_, rfl⟩
  obtain ⟨locs, hlocs⟩ : ∃ L : List Loc, L = [] := ⟨_, rfl⟩
  rw [← hH, ← hlocs] at hM ⊢
  unfold f_X3_init at h
  refine lv_aload_n hx hb dX3_init_0 rfl (lv_at hl 0 rfl) ?_
  refine m_obj E hl.1 wl_X3_3 wm_objectInit wd_objectInit dX3_init_1 (by decide) (Nat.le_of_ble_eq_true rfl) ?_
  refine lv_aload_n hx hb dX3_init_4 rfl (lv_at hl 0 rfl) ?_
  refine lv_bipush (v := 20) hx hb dX3_init_5 (by decide) ?_
  obtain ⟨ok1, h⟩ := k_gd h
  obtain ⟨q2, hq2⟩ : ∃ y : Nat, y = (u).1 := ⟨_, rfl⟩
  replace h := k_bb h q2 hq2
  refine m_newa hq2 (sh := 9) (ty := .int) (N := 20) (by decide) rfl 0 rfl (fun U h => h) wa_int E hM ok1 (by decide) (by decide) (by decide) (nw_i _).symm (fun j => (nw_i j).trans (nw_i 0).symm) (by decide) (by decide) dX3_init_7 (fun H hM => ?_)
  obtain ⟨ok3, h⟩ := k_gd h
  refine ps_X3_9 (v := (some q2)) E hM ok3 hinit dX3_init_9 (fun H locs hM => ?_)
  refine lv_aload_n hx hb dX3_init_12 rfl (lv_at hl 0 rfl) ?_
  refine lv_bipush (v := 20) hx hb dX3_init_13 (by decide) ?_
  obtain ⟨ok4, h⟩ := k_gd h
  obtain ⟨q5, hq5⟩ : ∃ y : Nat, y = ((sR (nw u) r 0 (some q2))).1 := ⟨_, rfl⟩
  replace h := k_bb h q5 hq5
  refine m_newa hq5 (sh := 10) (ty := .long) (N := 20) (by decide) rfl 1 rfl (fun U h => h) wa_long E hM ok4 (by decide) (by decide) (by decide) (nw_l _).symm (fun j => (nw_l j).trans (nw_l 0).symm) (by decide) (by decide) dX3_init_15 (fun H hM => ?_)
  refine ps_X3_15 (v := (some q5)) E hM (okO_nw ok3) hinit dX3_init_17 (fun H locs hM => ?_)
  refine lv_aload_n hx hb dX3_init_20 rfl (lv_at hl 0 rfl) ?_
  refine lv_bipush (v := 20) hx hb dX3_init_21 (by decide) ?_
  obtain ⟨ok6, h⟩ := k_gd h
  obtain ⟨q7, hq7⟩ : ∃ y : Nat, y = ((sR (nw (sR (nw u) r 0 (some q2))) r 1 (some q5))).1 := ⟨_, rfl⟩
  replace h := k_bb h q7 hq7
  refine m_newa hq7 (sh := 10) (ty := .long) (N := 20) (by decide) rfl 1 rfl (fun U h => h) wa_long E hM ok6 (by decide) (by decide) (by decide) (nw_l _).symm (fun j => (nw_l j).trans (nw_l 0).symm) (by decide) (by decide) dX3_init_23 (fun H hM => ?_)
  refine ps_X3_19 (v := (some q7)) E hM (okO_nw (okO_nw ok3)) hinit dX3_init_25 (fun H locs hM => ?_)
  refine lv_aload_n hx hb dX3_init_28 rfl (lv_at hl 0 rfl) ?_
  refine lv_iconst (v := 0) hx hb dX3_init_29 (by decide) ?_
  refine ps_X3_22 (v := (0 : Int32)) E hM (okO_nw (okO_nw ok3)) dX3_init_30 (fun H locs hM => ?_)
  cases h
  exact m_vret hx hb hr hlk hM rfl dX3_init_33

abbrev rm_X3_isFit : Room := { frames := 0, cells := 0, slots := 0, locals := 0 }
def f_X3_isFit (p1 : Int64) (u : Mm) : Option (Int32) := (if (lg_cmp p1 (1 : Int64)) < 0 then some (0 : Int32) else (if 0 < (lg_cmp p1 (999 : Int64)) then some (0 : Int32) else some (1 : Int32)))
set_option maxHeartbeats 4000000 in
set_option maxRecDepth 100000 in
theorem c_X3_isFit (l : Launch) (D : va_G) (cy : Nat → ClassId) (sz : Nat) (H0 : Heap) (u : Mm) (p1 : Int64) {res : Int32} (h : f_X3_isFit p1 u = some res) : Ctr l yX3_isFit cX3_isFit 2 (some .boolean) rm_X3_isFit 0 0 D cy sz H0 u [.long p1] (some (.int res)) u := by
  refine m_start (lv := [(0, .long p1)]) (by decide) (by first | exact Nat.le_of_ble_eq_true rfl | simp [lg_sl, rv_cat, cat_i, cat_l, cat_r, cat_n]) (by first | rfl | simp [lv_args, rv_cat, cat_i, cat_l, cat_r, cat_n]) ?_
  intro p e s m below meth c ls E hr hlk hinit hM hl
  obtain ⟨hx, hb, hml, hown, hts, hKK⟩ := id E
  obtain ⟨H, hH⟩ : ∃ H, H = s.heap := ⟨_, rfl⟩
  obtain ⟨locs, hlocs⟩ : ∃ L : List Loc, L = [] := ⟨_, rfl⟩
  rw [← hH, ← hlocs] at hM ⊢
  unfold f_X3_isFit at h
  refine lv_lload_n hx hb dX3_isFit_0 rfl (lv_at hl 0 rfl) ?_
  refine lv_lconst (v := 1) hx hb dX3_isFit_1 (by decide) ?_
  refine W.lcmp hx hb dX3_isFit_2 ?_
  refine lv_if_lt (tgt := 18) hx hb dX3_isFit_3 (by decide) (fun c1 => ?_) (fun c1 => ?_)
  · replace h := (k_if h).1 c1
    refine lv_iconst (v := 0) hx hb dX3_isFit_18 (by decide) ?_
    cases h
    exact m_zret hx hb hr hlk hM (by decide) rfl rfl dX3_isFit_19
  · replace h := (k_if h).2 c1
    refine lv_lload_n hx hb dX3_isFit_6 rfl (lv_at hl 0 rfl) ?_
    refine lv_ldc2 hx hb hown (hts _ wk_X3_30) dX3_isFit_7 ?_
    refine W.lcmp hx hb dX3_isFit_10 ?_
    refine lv_if_gt (tgt := 18) hx hb dX3_isFit_11 (by decide) (fun c2 => ?_) (fun c2 => ?_)
    · replace h := (k_if h).1 c2
      refine lv_iconst (v := 0) hx hb dX3_isFit_18 (by decide) ?_
      cases h
      exact m_zret hx hb hr hlk hM (by decide) rfl rfl dX3_isFit_19
    · replace h := (k_if h).2 c2
      refine lv_iconst (v := 1) hx hb dX3_isFit_14 (by decide) ?_
      refine lv_goto (tgt := 19) hx hb dX3_isFit_15 (by decide) ?_
      cases h
      exact m_zret hx hb hr hlk hM (by decide) rfl rfl dX3_isFit_19

abbrev rm_X3_takes : Room := { frames := 1, cells := 0, slots := 0, locals := 36 }
def L_X3_takes_7 (b0 : Nat) (b1 : Option Nat) (b2 : Int32) (k : Int32 → Mm → Option ((Int32) × Mm)) : Nat → Int32 → Mm → Option ((Int32) × Mm)
  | 0, _, _ => none
  | n + 1, a3, u => (if b2 ≤ a3 then k a3 u else gd (okO u b0 3) (bb (gR u b0 1) (fun x4 => cs b1 none (fun k5 => gd (okA u k5 10 ((2 : Int32) * a3)) (cs x4 none (fun k7 => gd (okA u k7 10 a3) (bb (gR (sL u k7 (Int32.toNatClampNeg a3) (gL u k5 (Int32.toNatClampNeg ((2 : Int32) * a3)))) b0 2) (fun x9 => gd (okA (sL u k7 (Int32.toNatClampNeg a3) (gL u k5 (Int32.toNatClampNeg ((2 : Int32) * a3)))) k5 10 (((2 : Int32) * a3) + (1 : Int32))) (cs x9 none (fun k11 => gd (okA (sL u k7 (Int32.toNatClampNeg a3) (gL u k5 (Int32.toNatClampNeg ((2 : Int32) * a3)))) k11 10 a3) (bb (gR (sL (sL u k7 (Int32.toNatClampNeg a3) (gL u k5 (Int32.toNatClampNeg ((2 : Int32) * a3)))) k11 (Int32.toNatClampNeg a3) (gL (sL u k7 (Int32.toNatClampNeg a3) (gL u k5 (Int32.toNatClampNeg ((2 : Int32) * a3)))) k5 (Int32.toNatClampNeg (((2 : Int32) * a3) + (1 : Int32))))) b0 1) (fun x13 => cs x13 none (fun k14 => gd (okA (sL (sL u k7 (Int32.toNatClampNeg a3) (gL u k5 (Int32.toNatClampNeg ((2 : Int32) * a3)))) k11 (Int32.toNatClampNeg a3) (gL (sL u k7 (Int32.toNatClampNeg a3) (gL u k5 (Int32.toNatClampNeg ((2 : Int32) * a3)))) k5 (Int32.toNatClampNeg (((2 : Int32) * a3) + (1 : Int32))))) k14 10 a3) (bd (f_X3_isFit (gL (sL (sL u k7 (Int32.toNatClampNeg a3) (gL u k5 (Int32.toNatClampNeg ((2 : Int32) * a3)))) k11 (Int32.toNatClampNeg a3) (gL (sL u k7 (Int32.toNatClampNeg a3) (gL u k5 (Int32.toNatClampNeg ((2 : Int32) * a3)))) k5 (Int32.toNatClampNeg (((2 : Int32) * a3) + (1 : Int32))))) k14 (Int32.toNatClampNeg a3)) (sL (sL u k7 (Int32.toNatClampNeg a3) (gL u k5 (Int32.toNatClampNeg ((2 : Int32) * a3)))) k11 (Int32.toNatClampNeg a3) (gL (sL u k7 (Int32.toNatClampNeg a3) (gL u k5 (Int32.toNatClampNeg ((2 : Int32) * a3)))) k5 (Int32.toNatClampNeg (((2 : Int32) * a3) + (1 : Int32)))))) (fun w16 => (if w16 = 0 then some ((0 : Int32), (sL (sL u k7 (Int32.toNatClampNeg a3) (gL u k5 (Int32.toNatClampNeg ((2 : Int32) * a3)))) k11 (Int32.toNatClampNeg a3) (gL (sL u k7 (Int32.toNatClampNeg a3) (gL u k5 (Int32.toNatClampNeg ((2 : Int32) * a3)))) k5 (Int32.toNatClampNeg (((2 : Int32) * a3) + (1 : Int32)))))) else bb (gR (sL (sL u k7 (Int32.toNatClampNeg a3) (gL u k5 (Int32.toNatClampNeg ((2 : Int32) * a3)))) k11 (Int32.toNatClampNeg a3) (gL (sL u k7 (Int32.toNatClampNeg a3) (gL u k5 (Int32.toNatClampNeg ((2 : Int32) * a3)))) k5 (Int32.toNatClampNeg (((2 : Int32) * a3) + (1 : Int32))))) b0 2) (fun x18 => cs x18 none (fun k19 => gd (okA (sL (sL u k7 (Int32.toNatClampNeg a3) (gL u k5 (Int32.toNatClampNeg ((2 : Int32) * a3)))) k11 (Int32.toNatClampNeg a3) (gL (sL u k7 (Int32.toNatClampNeg a3) (gL u k5 (Int32.toNatClampNeg ((2 : Int32) * a3)))) k5 (Int32.toNatClampNeg (((2 : Int32) * a3) + (1 : Int32))))) k19 10 a3) (bd (f_X3_isFit (gL (sL (sL u k7 (Int32.toNatClampNeg a3) (gL u k5 (Int32.toNatClampNeg ((2 : Int32) * a3)))) k11 (Int32.toNatClampNeg a3) (gL (sL u k7 (Int32.toNatClampNeg a3) (gL u k5 (Int32.toNatClampNeg ((2 : Int32) * a3)))) k5 (Int32.toNatClampNeg (((2 : Int32) * a3) + (1 : Int32))))) k19 (Int32.toNatClampNeg a3)) (sL (sL u k7 (Int32.toNatClampNeg a3) (gL u k5 (Int32.toNatClampNeg ((2 : Int32) * a3)))) k11 (Int32.toNatClampNeg a3) (gL (sL u k7 (Int32.toNatClampNeg a3) (gL u k5 (Int32.toNatClampNeg ((2 : Int32) * a3)))) k5 (Int32.toNatClampNeg (((2 : Int32) * a3) + (1 : Int32)))))) (fun w21 => (if w21 = 0 then some ((0 : Int32), (sL (sL u k7 (Int32.toNatClampNeg a3) (gL u k5 (Int32.toNatClampNeg ((2 : Int32) * a3)))) k11 (Int32.toNatClampNeg a3) (gL (sL u k7 (Int32.toNatClampNeg a3) (gL u k5 (Int32.toNatClampNeg ((2 : Int32) * a3)))) k5 (Int32.toNatClampNeg (((2 : Int32) * a3) + (1 : Int32)))))) else bb (a3 + (1)) (fun v23 => L_X3_takes_7 b0 b1 b2 k n v23 (sL (sL u k7 (Int32.toNatClampNeg a3) (gL u k5 (Int32.toNatClampNeg ((2 : Int32) * a3)))) k11 (Int32.toNatClampNeg a3) (gL (sL u k7 (Int32.toNatClampNeg a3) (gL u k5 (Int32.toNatClampNeg ((2 : Int32) * a3)))) k5 (Int32.toNatClampNeg (((2 : Int32) * a3) + (1 : Int32)))))))))))))))))))))))))))
set_option maxHeartbeats 4000000 in
set_option maxRecDepth 100000 in
theorem lp_X3_takes_7 {p : Program} {l : Launch} {e : Env} {s : State} {m : MethodId} {args : Array Value} {below : List Frame} {meth : Method} {c : Code} {D : va_G} {cy : Nat → ClassId} {sz : Nat} {H0 : Heap} {b0 : Nat} {b1 : Option Nat} {b2 : Int32} {k : Int32 → Mm → Option ((Int32) × Mm)} {res : (Int32) × Mm} (hr : meth.sig.returnType = (some .boolean)) (hlk : meth.locks = false) (E : EE p s m args c cX3_takes 4 RX3 D cy) : ∀ (n : Nat) (a3 : Int32) (u : Mm) (H : Heap) (locs : List Loc) (ls : Array Slot), MM D cy sz H0 u H locs → lv_has ls 4 [(0, .ref (sz + b0)), (1, rv sz b1), (2, .int b2), (3, .int a3)] → L_X3_takes_7 b0 b1 b2 k n a3 u = some res → (∀ (a3 : Int32) (u : Mm) (H : Heap) (locs : List Loc) (ls : Array Slot), MM D cy sz H0 u H locs → lv_has ls 4 [(0, .ref (sz + b0)), (1, rv sz b1), (2, .int b2), (3, .int a3)] → k a3 u = some res → W p l e rm_X3_takes s m args below meth c H locs 0 0 (MQ below (Post D cy sz H0 (some (.int res.1)) res.2) args s 0 0 (fun q => sz ≤ q)) (F0 m 68 ls [])) → W p l e rm_X3_takes s m args below meth c H locs 0 0 (MQ below (Post D cy sz H0 (some (.int res.1)) res.2) args s 0 0 (fun q => sz ≤ q)) (F0 m 7 ls []) := by
  obtain ⟨hx, hb, hml, hown, hts, hKK⟩ := id E
  intro n
  induction n with
  | zero => intros; rename_i h _; cases h
  | succ n ih =>
    intro a3 u H locs ls hM hl h hk
    rw [L_X3_takes_7] at h
    refine lv_iload_n hx hb dX3_takes_7 rfl (lv_at hl 3 rfl) ?_
    refine lv_iload_n hx hb dX3_takes_8 rfl (lv_at hl 2 rfl) ?_
    refine lv_icmp_ge (tgt := 68) hx hb dX3_takes_9 (by decide) (fun c2 => ?_) (fun c2 => ?_)
    · replace h := (k_if h).1 c2
      exact hk a3 u H locs ls hM (lv_sub hl [0, 1, 2, 3] rfl) h
    · replace h := (k_if h).2 c2
      refine lv_aload_n hx hb dX3_takes_12 rfl (lv_at hl 0 rfl) ?_
      obtain ⟨ok3, h⟩ := k_gd h
      refine gs_X3_15 E hM ok3 dX3_takes_13 (fun x4 hxx4 => ?_)
      replace h := k_bb h x4 hxx4.symm
      refine lv_iload_n hx hb dX3_takes_16 rfl (lv_at hl 3 rfl) ?_
      refine m_aload_n hx hb dX3_takes_17 rfl (lv_at hl 1 rfl) ?_
      refine lv_iconst (v := 2) hx hb dX3_takes_18 (by decide) ?_
      refine lv_iload_n hx hb dX3_takes_19 rfl (lv_at hl 3 rfl) ?_
      refine lv_imul hx hb dX3_takes_20 ?_
      rcases b1 with _ | k5
      · cases h
      rw [cs_s] at h
      obtain ⟨ok6, h⟩ := k_gd h
      refine m_lald E hM ok6 dX3_takes_21 ?_
      rcases x4 with _ | k7
      · cases h
      rw [cs_s] at h
      obtain ⟨ok8, h⟩ := k_gd h
      refine m_last E hM ok8 dX3_takes_22 (fun H locs hM => ?_)
      refine lv_aload_n hx hb dX3_takes_23 rfl (lv_at hl 0 rfl) ?_
      refine gs_X3_19 E hM ok3 dX3_takes_24 (fun x9 hxx9 => ?_)
      replace h := k_bb h x9 hxx9.symm
      refine lv_iload_n hx hb dX3_takes_27 rfl (lv_at hl 3 rfl) ?_
      refine lv_aload_n hx hb dX3_takes_28 rfl (lv_at hl 1 rfl) ?_
      refine lv_iconst (v := 2) hx hb dX3_takes_29 (by decide) ?_
      refine lv_iload_n hx hb dX3_takes_30 rfl (lv_at hl 3 rfl) ?_
      refine lv_imul hx hb dX3_takes_31 ?_
      refine lv_iconst (v := 1) hx hb dX3_takes_32 (by decide) ?_
      refine lv_iadd hx hb dX3_takes_33 ?_
      obtain ⟨ok10, h⟩ := k_gd h
      refine m_lald E hM ok10 dX3_takes_34 ?_
      rcases x9 with _ | k11
      · cases h
      rw [cs_s] at h
      obtain ⟨ok12, h⟩ := k_gd h
      refine m_last E hM ok12 dX3_takes_35 (fun H locs hM => ?_)
      refine lv_aload_n hx hb dX3_takes_36 rfl (lv_at hl 0 rfl) ?_
      refine gs_X3_15 E hM ok3 dX3_takes_37 (fun x13 hxx13 => ?_)
      replace h := k_bb h x13 hxx13.symm
      refine lv_iload_n hx hb dX3_takes_40 rfl (lv_at hl 3 rfl) ?_
      rcases x13 with _ | k14
      · cases h
      rw [cs_s] at h
      obtain ⟨ok15, h⟩ := k_gd h
      refine m_lald E hM ok15 dX3_takes_41 ?_
      obtain ⟨w16, hzw16, h⟩ := k_bd h
      refine m_callS (n := 1) (As := [.long (gL (sL (sL u k7 (Int32.toNatClampNeg a3) (gL u k5 (Int32.toNatClampNeg ((2 : Int32) * a3)))) k11 (Int32.toNatClampNeg a3) (gL (sL u k7 (Int32.toNatClampNeg a3) (gL u k5 (Int32.toNatClampNeg ((2 : Int32) * a3)))) k5 (Int32.toNatClampNeg (((2 : Int32) * a3) + (1 : Int32))))) k14 (Int32.toNatClampNeg a3))]) (rest := []) (st1 := (.int w16 :: [])) E hM hl.1 (c_X3_isFit l D cy sz H0 (sL (sL u k7 (Int32.toNatClampNeg a3) (gL u k5 (Int32.toNatClampNeg ((2 : Int32) * a3)))) k11 (Int32.toNatClampNeg a3) (gL (sL u k7 (Int32.toNatClampNeg a3) (gL u k5 (Int32.toNatClampNeg ((2 : Int32) * a3)))) k5 (Int32.toNatClampNeg (((2 : Int32) * a3) + (1 : Int32))))) (gL (sL (sL u k7 (Int32.toNatClampNeg a3) (gL u k5 (Int32.toNatClampNeg ((2 : Int32) * a3)))) k11 (Int32.toNatClampNeg a3) (gL (sL u k7 (Int32.toNatClampNeg a3) (gL u k5 (Int32.toNatClampNeg ((2 : Int32) * a3)))) k5 (Int32.toNatClampNeg (((2 : Int32) * a3) + (1 : Int32))))) k14 (Int32.toNatClampNeg a3)) hzw16) wl_X3_26 wst_X3_isFit wi_X3 wd_X3_isFit rfl rfl (by decide +kernel) ⟨by decide, by decide⟩ rfl rfl (by first | exact Nat.le_of_ble_eq_true rfl | simp [rv_cat, cat_i, cat_l, cat_r, cat_n]) dX3_takes_42 ⟨by decide, by decide⟩ rfl (fun H locs hM => ?_)
      refine lv_if_eq (tgt := 60) hx hb dX3_takes_45 (by decide) (fun c17 => ?_) (fun c17 => ?_)
      · replace h := (k_if h).1 c17
        refine lv_iconst (v := 0) hx hb dX3_takes_60 (by decide) ?_
        cases h
        exact m_zret hx hb hr hlk hM (by decide) rfl rfl dX3_takes_61
      · replace h := (k_if h).2 c17
        refine lv_aload_n hx hb dX3_takes_48 rfl (lv_at hl 0 rfl) ?_
        refine gs_X3_19 E hM ok3 dX3_takes_49 (fun x18 hxx18 => ?_)
        replace h := k_bb h x18 hxx18.symm
        refine lv_iload_n hx hb dX3_takes_52 rfl (lv_at hl 3 rfl) ?_
        rcases x18 with _ | k19
        · cases h
        rw [cs_s] at h
        obtain ⟨ok20, h⟩ := k_gd h
        refine m_lald E hM ok20 dX3_takes_53 ?_
        obtain ⟨w21, hzw21, h⟩ := k_bd h
        refine m_callS (n := 1) (As := [.long (gL (sL (sL u k7 (Int32.toNatClampNeg a3) (gL u k5 (Int32.toNatClampNeg ((2 : Int32) * a3)))) k11 (Int32.toNatClampNeg a3) (gL (sL u k7 (Int32.toNatClampNeg a3) (gL u k5 (Int32.toNatClampNeg ((2 : Int32) * a3)))) k5 (Int32.toNatClampNeg (((2 : Int32) * a3) + (1 : Int32))))) k19 (Int32.toNatClampNeg a3))]) (rest := []) (st1 := (.int w21 :: [])) E hM hl.1 (c_X3_isFit l D cy sz H0 (sL (sL u k7 (Int32.toNatClampNeg a3) (gL u k5 (Int32.toNatClampNeg ((2 : Int32) * a3)))) k11 (Int32.toNatClampNeg a3) (gL (sL u k7 (Int32.toNatClampNeg a3) (gL u k5 (Int32.toNatClampNeg ((2 : Int32) * a3)))) k5 (Int32.toNatClampNeg (((2 : Int32) * a3) + (1 : Int32))))) (gL (sL (sL u k7 (Int32.toNatClampNeg a3) (gL u k5 (Int32.toNatClampNeg ((2 : Int32) * a3)))) k11 (Int32.toNatClampNeg a3) (gL (sL u k7 (Int32.toNatClampNeg a3) (gL u k5 (Int32.toNatClampNeg ((2 : Int32) * a3)))) k5 (Int32.toNatClampNeg (((2 : Int32) * a3) + (1 : Int32))))) k19 (Int32.toNatClampNeg a3)) hzw21) wl_X3_26 wst_X3_isFit wi_X3 wd_X3_isFit rfl rfl (by decide +kernel) ⟨by decide, by decide⟩ rfl rfl (by first | exact Nat.le_of_ble_eq_true rfl | simp [rv_cat, cat_i, cat_l, cat_r, cat_n]) dX3_takes_54 ⟨by decide, by decide⟩ rfl (fun H locs hM => ?_)
        refine lv_if_ne (tgt := 62) hx hb dX3_takes_57 (by decide) (fun c22 => ?_) (fun c22 => ?_)
        · replace h := (k_if h).2 c22
          obtain ⟨v23, hvv23⟩ : ∃ y : Int32, y = a3 + (1) := ⟨_, rfl⟩
          replace h := k_bb h v23 hvv23
          refine lv_iinc (v := v23) (lv' := [(3, .int v23), (0, .ref (sz + b0)), (1, .ref (sz + k5)), (2, .int b2)]) hx hb dX3_takes_62 hl (k := 3) rfl (by rw [hvv23]; rfl) (by decide) (by first | rfl | simp [rv_cat, cat_i, cat_l, cat_r, cat_n]) (fun ls hl => ?_)
          refine lv_goto (tgt := 7) hx hb dX3_takes_65 (by decide) ?_
          exact ih v23 (sL (sL u k7 (Int32.toNatClampNeg a3) (gL u k5 (Int32.toNatClampNeg ((2 : Int32) * a3)))) k11 (Int32.toNatClampNeg a3) (gL (sL u k7 (Int32.toNatClampNeg a3) (gL u k5 (Int32.toNatClampNeg ((2 : Int32) * a3)))) k5 (Int32.toNatClampNeg (((2 : Int32) * a3) + (1 : Int32))))) H locs ls hM (lv_sub hl [1, 2, 3, 0] rfl) h hk
        · replace h := (k_if h).1 c22
          refine lv_iconst (v := 0) hx hb dX3_takes_60 (by decide) ?_
          cases h
          exact m_zret hx hb hr hlk hM (by decide) rfl rfl dX3_takes_61

def f_X3_takes (r : Nat) (p1 : Option Nat) (p2 : Int32) (u : Mm) : Option ((Int32) × Mm) := gd (okO u r 3) (L_X3_takes_7 r p1 p2  (fun a24 u25 => gd (okO u25 r 3) (some ((1 : Int32), (sI u25 r 3 p2)))) 1000 (0 : Int32) (sI u r 3 (0 : Int32)))
set_option maxHeartbeats 4000000 in
set_option maxRecDepth 100000 in
theorem c_X3_takes (l : Launch) (D : va_G) (cy : Nat → ClassId) (sz : Nat) (H0 : Heap) (u : Mm) (r : Nat) (p1 : Option Nat) (p2 : Int32) {res : (Int32) × Mm} (h : f_X3_takes r p1 p2 u = some res) : Ctr l yX3_takes cX3_takes 4 (some .boolean) rm_X3_takes 0 0 D cy sz H0 u [.ref (sz + r), rv sz p1, .int p2] (some (.int res.1)) res.2 := by
  refine m_start (lv := [(0, .ref (sz + r)), (1, rv sz p1), (2, .int p2)]) (by decide) (by first | exact Nat.le_of_ble_eq_true rfl | simp [lg_sl, rv_cat, cat_i, cat_l, cat_r, cat_n]) (by first | rfl | simp [lv_args, rv_cat, cat_i, cat_l, cat_r, cat_n]) ?_
  intro p e s m below meth c ls E hr hlk hinit hM hl
  obtain ⟨hx, hb, hml, hown, hts, hKK⟩ := id E
  obtain ⟨H, hH⟩ : ∃ H, H = s.heap := ⟨_, rfl⟩
  obtain ⟨locs, hlocs⟩ : ∃ L : List Loc, L = [] := ⟨_, rfl⟩
  rw [← hH, ← hlocs] at hM ⊢
  unfold f_X3_takes at h
  refine lv_aload_n hx hb dX3_takes_0 rfl (lv_at hl 0 rfl) ?_
  refine lv_iconst (v := 0) hx hb dX3_takes_1 (by decide) ?_
  obtain ⟨ok1, h⟩ := k_gd h
  refine ps_X3_22 (v := (0 : Int32)) E hM ok1 dX3_takes_2 (fun H locs hM => ?_)
  refine lv_iconst (v := 0) hx hb dX3_takes_5 (by decide) ?_
  refine lv_istore_n (i := 3) (lv' := [(3, .int (0 : Int32)), (0, .ref (sz + r)), (1, rv sz p1), (2, .int p2)]) hx hb dX3_takes_6 rfl hl (by decide) (by first | rfl | simp [rv_cat, cat_i, cat_l, cat_r, cat_n]) (fun ls hl => ?_)
  refine lp_X3_takes_7 hr hlk  E 1000 (0 : Int32) (sI u r 3 (0 : Int32)) H locs ls hM (lv_sub hl [1, 2, 3, 0] rfl) h (fun a24 u25 H locs ls hM hl h => ?_)
  refine lv_aload_n hx hb dX3_takes_68 rfl (lv_at hl 0 rfl) ?_
  refine lv_iload_n hx hb dX3_takes_69 rfl (lv_at hl 2 rfl) ?_
  obtain ⟨ok26, h⟩ := k_gd h
  refine ps_X3_22 (v := p2) E hM ok26 dX3_takes_70 (fun H locs hM => ?_)
  refine lv_iconst (v := 1) hx hb dX3_takes_73 (by decide) ?_
  cases h
  exact m_zret hx hb hr hlk hM (by decide) rfl rfl dX3_takes_74

abbrev rm_X3_isCheaper : Room := { frames := 0, cells := 0, slots := 0, locals := 0 }
def f_X3_isCheaper (r : Nat) (p1 : Int32) (p2 : Int32) (u : Mm) : Option (Int32) := gd (okO u r 3) (bb (gR u r 2) (fun x2 => cs x2 none (fun k3 => gd (okA u k3 10 p1) (bb (gR u r 1) (fun x5 => cs x5 none (fun k6 => gd (okA u k6 10 p2) (bb (gR u r 2) (fun x8 => cs x8 none (fun k9 => gd (okA u k9 10 p2) (bb (gR u r 1) (fun x11 => cs x11 none (fun k12 => gd (okA u k12 10 p1) ((if 0 ≤ (lg_cmp ((gL u k3 (Int32.toNatClampNeg p1)) * (gL u k6 (Int32.toNatClampNeg p2))) ((gL u k9 (Int32.toNatClampNeg p2)) * (gL u k12 (Int32.toNatClampNeg p1)))) then some (0 : Int32) else some (1 : Int32)))))))))))))))
set_option maxHeartbeats 4000000 in
set_option maxRecDepth 100000 in
theorem c_X3_isCheaper (l : Launch) (D : va_G) (cy : Nat → ClassId) (sz : Nat) (H0 : Heap) (u : Mm) (r : Nat) (p1 : Int32) (p2 : Int32) {res : Int32} (h : f_X3_isCheaper r p1 p2 u = some res) : Ctr l yX3_isCheaper cX3_isCheaper 3 (some .boolean) rm_X3_isCheaper 0 0 D cy sz H0 u [.ref (sz + r), .int p1, .int p2] (some (.int res)) u := by
  refine m_start (lv := [(0, .ref (sz + r)), (1, .int p1), (2, .int p2)]) (by decide) (by first | exact Nat.le_of_ble_eq_true rfl | simp [lg_sl, rv_cat, cat_i, cat_l, cat_r, cat_n]) (by first | rfl | simp [lv_args, rv_cat, cat_i, cat_l, cat_r, cat_n]) ?_
  intro p e s m below meth c ls E hr hlk hinit hM hl
  obtain ⟨hx, hb, hml, hown, hts, hKK⟩ := id E
  obtain ⟨H, hH⟩ : ∃ H, H = s.heap := ⟨_, rfl⟩
  obtain ⟨locs, hlocs⟩ : ∃ L : List Loc, L = [] := ⟨_, rfl⟩
  rw [← hH, ← hlocs] at hM ⊢
  unfold f_X3_isCheaper at h
  refine lv_aload_n hx hb dX3_isCheaper_0 rfl (lv_at hl 0 rfl) ?_
  obtain ⟨ok1, h⟩ := k_gd h
  refine gs_X3_19 E hM ok1 dX3_isCheaper_1 (fun x2 hxx2 => ?_)
  replace h := k_bb h x2 hxx2.symm
  refine lv_iload_n hx hb dX3_isCheaper_4 rfl (lv_at hl 1 rfl) ?_
  rcases x2 with _ | k3
  · cases h
  rw [cs_s] at h
  obtain ⟨ok4, h⟩ := k_gd h
  refine m_lald E hM ok4 dX3_isCheaper_5 ?_
  refine lv_aload_n hx hb dX3_isCheaper_6 rfl (lv_at hl 0 rfl) ?_
  refine gs_X3_15 E hM ok1 dX3_isCheaper_7 (fun x5 hxx5 => ?_)
  replace h := k_bb h x5 hxx5.symm
  refine lv_iload_n hx hb dX3_isCheaper_10 rfl (lv_at hl 2 rfl) ?_
  rcases x5 with _ | k6
  · cases h
  rw [cs_s] at h
  obtain ⟨ok7, h⟩ := k_gd h
  refine m_lald E hM ok7 dX3_isCheaper_11 ?_
  refine lv_lmul hx hb dX3_isCheaper_12 ?_
  refine lv_aload_n hx hb dX3_isCheaper_13 rfl (lv_at hl 0 rfl) ?_
  refine gs_X3_19 E hM ok1 dX3_isCheaper_14 (fun x8 hxx8 => ?_)
  replace h := k_bb h x8 hxx8.symm
  refine lv_iload_n hx hb dX3_isCheaper_17 rfl (lv_at hl 2 rfl) ?_
  rcases x8 with _ | k9
  · cases h
  rw [cs_s] at h
  obtain ⟨ok10, h⟩ := k_gd h
  refine m_lald E hM ok10 dX3_isCheaper_18 ?_
  refine lv_aload_n hx hb dX3_isCheaper_19 rfl (lv_at hl 0 rfl) ?_
  refine gs_X3_15 E hM ok1 dX3_isCheaper_20 (fun x11 hxx11 => ?_)
  replace h := k_bb h x11 hxx11.symm
  refine lv_iload_n hx hb dX3_isCheaper_23 rfl (lv_at hl 1 rfl) ?_
  rcases x11 with _ | k12
  · cases h
  rw [cs_s] at h
  obtain ⟨ok13, h⟩ := k_gd h
  refine m_lald E hM ok13 dX3_isCheaper_24 ?_
  refine lv_lmul hx hb dX3_isCheaper_25 ?_
  refine W.lcmp hx hb dX3_isCheaper_26 ?_
  refine lv_if_ge (tgt := 34) hx hb dX3_isCheaper_27 (by decide) (fun c14 => ?_) (fun c14 => ?_)
  · replace h := (k_if h).1 c14
    refine lv_iconst (v := 0) hx hb dX3_isCheaper_34 (by decide) ?_
    cases h
    exact m_zret hx hb hr hlk hM (by decide) rfl rfl dX3_isCheaper_35
  · replace h := (k_if h).2 c14
    refine lv_iconst (v := 1) hx hb dX3_isCheaper_30 (by decide) ?_
    refine lv_goto (tgt := 35) hx hb dX3_isCheaper_31 (by decide) ?_
    cases h
    exact m_zret hx hb hr hlk hM (by decide) rfl rfl dX3_isCheaper_35

abbrev rm_X3_arrange : Room := { frames := 1, cells := 0, slots := 0, locals := 36 }
def L_X3_arrange_12 (b0 : Nat) (b1 : Int32) (k : Int32 → Mm → Option (Mm)) : Nat → Int32 → Mm → Option (Mm)
  | 0, _, _ => none
  | n + 1, a2, u => (if a2 ≤ 0 then k a2 u else gd (okO u b0 3) (bb (gR u b0 0) (fun x5 => cs x5 none (fun k6 => gd (okA u k6 9 (a2 - (1 : Int32))) (bd (f_X3_isCheaper b0 b1 (gI u k6 (Int32.toNatClampNeg (a2 - (1 : Int32)))) u) (fun w8 => (if w8 = 0 then k a2 u else bb (gR u b0 0) (fun x10 => bb (gR u b0 0) (fun x11 => cs x11 none (fun k12 => gd (okA u k12 9 (a2 - (1 : Int32))) (cs x10 none (fun k14 => gd (okA u k14 9 a2) (bb (a2 + (-1)) (fun v16 => L_X3_arrange_12 b0 b1 k n v16 (sI u k14 (Int32.toNatClampNeg a2) (gI u k12 (Int32.toNatClampNeg (a2 - (1 : Int32)))))))))))))))))))
set_option maxHeartbeats 4000000 in
set_option maxRecDepth 100000 in
theorem lp_X3_arrange_12 {p : Program} {l : Launch} {e : Env} {s : State} {m : MethodId} {args : Array Value} {below : List Frame} {meth : Method} {c : Code} {D : va_G} {cy : Nat → ClassId} {sz : Nat} {H0 : Heap} {b0 : Nat} {b1 : Int32} {k : Int32 → Mm → Option (Mm)} {res : Mm} (hr : meth.sig.returnType = none) (hlk : meth.locks = false) (E : EE p s m args c cX3_arrange 3 RX3 D cy) : ∀ (n : Nat) (a2 : Int32) (u : Mm) (H : Heap) (locs : List Loc) (ls : Array Slot), MM D cy sz H0 u H locs → lv_has ls 3 [(0, .ref (sz + b0)), (1, .int b1), (2, .int a2)] → L_X3_arrange_12 b0 b1 k n a2 u = some res → (∀ (a2 : Int32) (u : Mm) (H : Heap) (locs : List Loc) (ls : Array Slot), MM D cy sz H0 u H locs → lv_has ls 3 [(0, .ref (sz + b0)), (1, .int b1), (2, .int a2)] → k a2 u = some res → W p l e rm_X3_arrange s m args below meth c H locs 0 0 (MQ below (Post D cy sz H0 none res) args s 0 0 (fun q => sz ≤ q)) (F0 m 52 ls [])) → W p l e rm_X3_arrange s m args below meth c H locs 0 0 (MQ below (Post D cy sz H0 none res) args s 0 0 (fun q => sz ≤ q)) (F0 m 12 ls []) := by
  obtain ⟨hx, hb, hml, hown, hts, hKK⟩ := id E
  intro n
  induction n with
  | zero => intros; rename_i h _; cases h
  | succ n ih =>
    intro a2 u H locs ls hM hl h hk
    rw [L_X3_arrange_12] at h
    refine lv_iload_n hx hb dX3_arrange_12 rfl (lv_at hl 2 rfl) ?_
    refine lv_if_le (tgt := 52) hx hb dX3_arrange_13 (by decide) (fun c3 => ?_) (fun c3 => ?_)
    · replace h := (k_if h).1 c3
      exact hk a2 u H locs ls hM (lv_sub hl [0, 1, 2] rfl) h
    · replace h := (k_if h).2 c3
      refine lv_aload_n hx hb dX3_arrange_16 rfl (lv_at hl 0 rfl) ?_
      refine lv_iload_n hx hb dX3_arrange_17 rfl (lv_at hl 1 rfl) ?_
      refine lv_aload_n hx hb dX3_arrange_18 rfl (lv_at hl 0 rfl) ?_
      obtain ⟨ok4, h⟩ := k_gd h
      refine gs_X3_9 E hM ok4 dX3_arrange_19 (fun x5 hxx5 => ?_)
      replace h := k_bb h x5 hxx5.symm
      refine lv_iload_n hx hb dX3_arrange_22 rfl (lv_at hl 2 rfl) ?_
      refine lv_iconst (v := 1) hx hb dX3_arrange_23 (by decide) ?_
      refine lv_isub hx hb dX3_arrange_24 ?_
      rcases x5 with _ | k6
      · cases h
      rw [cs_s] at h
      obtain ⟨ok7, h⟩ := k_gd h
      refine m_iald E hM ok7 dX3_arrange_25 ?_
      obtain ⟨w8, hzw8, h⟩ := k_bd h
      refine m_callV (C := RX3) (T := TX3) (N := 4) (ci := 3) (n := 2) (As := [.int b1, .int (gI u k6 (Int32.toNatClampNeg (a2 - (1 : Int32))))]) (rest := []) (st1 := (.int w8 :: [])) E hM hl.1 ok4 (by decide) rfl rfl (c_X3_isCheaper l D cy sz H0 u b0 b1 (gI u k6 (Int32.toNatClampNeg (a2 - (1 : Int32)))) hzw8) wl_X3_32 wm_X3_isCheaper ws_X3_isCheaper wi_X3 wd_X3_isCheaper rfl rfl (by decide +kernel) ⟨by decide, by decide⟩ rfl rfl (by first | exact Nat.le_of_ble_eq_true rfl | simp [rv_cat, cat_i, cat_l, cat_r, cat_n]) dX3_arrange_26 ⟨by decide, by decide⟩ rfl (fun H locs hM => ?_)
      refine lv_if_eq (tgt := 52) hx hb dX3_arrange_29 (by decide) (fun c9 => ?_) (fun c9 => ?_)
      · replace h := (k_if h).1 c9
        exact hk a2 u H locs ls hM (lv_sub hl [0, 1, 2] rfl) h
      · replace h := (k_if h).2 c9
        refine lv_aload_n hx hb dX3_arrange_32 rfl (lv_at hl 0 rfl) ?_
        refine gs_X3_9 E hM ok4 dX3_arrange_33 (fun x10 hxx10 => ?_)
        replace h := k_bb h x10 hxx10.symm
        refine lv_iload_n hx hb dX3_arrange_36 rfl (lv_at hl 2 rfl) ?_
        refine lv_aload_n hx hb dX3_arrange_37 rfl (lv_at hl 0 rfl) ?_
        refine gs_X3_9 E hM ok4 dX3_arrange_38 (fun x11 hxx11 => ?_)
        replace h := k_bb h x11 hxx11.symm
        refine lv_iload_n hx hb dX3_arrange_41 rfl (lv_at hl 2 rfl) ?_
        refine lv_iconst (v := 1) hx hb dX3_arrange_42 (by decide) ?_
        refine lv_isub hx hb dX3_arrange_43 ?_
        rcases x11 with _ | k12
        · cases h
        rw [cs_s] at h
        obtain ⟨ok13, h⟩ := k_gd h
        refine m_iald E hM ok13 dX3_arrange_44 ?_
        rcases x10 with _ | k14
        · cases h
        rw [cs_s] at h
        obtain ⟨ok15, h⟩ := k_gd h
        refine m_iast E hM ok15 dX3_arrange_45 (fun H locs hM => ?_)
        obtain ⟨v16, hvv16⟩ : ∃ y : Int32, y = a2 + (-1) := ⟨_, rfl⟩
        replace h := k_bb h v16 hvv16
        refine lv_iinc (v := v16) (lv' := [(2, .int v16), (0, .ref (sz + b0)), (1, .int b1)]) hx hb dX3_arrange_46 hl (k := 2) rfl (by rw [hvv16]; rfl) (by decide) (by first | rfl | simp [rv_cat, cat_i, cat_l, cat_r, cat_n]) (fun ls hl => ?_)
        refine lv_goto (tgt := 12) hx hb dX3_arrange_49 (by decide) ?_
        exact ih v16 (sI u k14 (Int32.toNatClampNeg a2) (gI u k12 (Int32.toNatClampNeg (a2 - (1 : Int32))))) H locs ls hM (lv_sub hl [1, 2, 0] rfl) h hk

def L_X3_arrange_2 (b0 : Nat) (k : Int32 → Mm → Option (Mm)) : Nat → Int32 → Mm → Option (Mm)
  | 0, _, _ => none
  | n + 1, a1, u => gd (okO u b0 3) ((if (gI u b0 3) ≤ a1 then k a1 u else L_X3_arrange_12 b0 a1  (fun a17 u18 => gd (okO u18 b0 3) (bb (gR u18 b0 0) (fun x20 => cs x20 none (fun k21 => gd (okA u18 k21 9 a17) (bb (a1 + (1)) (fun v23 => L_X3_arrange_2 b0 k n v23 (sI u18 k21 (Int32.toNatClampNeg a17) a1))))))) 1000 a1 u))
set_option maxHeartbeats 4000000 in
set_option maxRecDepth 100000 in
theorem lp_X3_arrange_2 {p : Program} {l : Launch} {e : Env} {s : State} {m : MethodId} {args : Array Value} {below : List Frame} {meth : Method} {c : Code} {D : va_G} {cy : Nat → ClassId} {sz : Nat} {H0 : Heap} {b0 : Nat} {k : Int32 → Mm → Option (Mm)} {res : Mm} (hr : meth.sig.returnType = none) (hlk : meth.locks = false) (E : EE p s m args c cX3_arrange 3 RX3 D cy) : ∀ (n : Nat) (a1 : Int32) (u : Mm) (H : Heap) (locs : List Loc) (ls : Array Slot), MM D cy sz H0 u H locs → lv_has ls 3 [(0, .ref (sz + b0)), (1, .int a1)] → L_X3_arrange_2 b0 k n a1 u = some res → (∀ (a1 : Int32) (u : Mm) (H : Heap) (locs : List Loc) (ls : Array Slot), MM D cy sz H0 u H locs → lv_has ls 3 [(0, .ref (sz + b0)), (1, .int a1)] → k a1 u = some res → W p l e rm_X3_arrange s m args below meth c H locs 0 0 (MQ below (Post D cy sz H0 none res) args s 0 0 (fun q => sz ≤ q)) (F0 m 65 ls [])) → W p l e rm_X3_arrange s m args below meth c H locs 0 0 (MQ below (Post D cy sz H0 none res) args s 0 0 (fun q => sz ≤ q)) (F0 m 2 ls []) := by
  obtain ⟨hx, hb, hml, hown, hts, hKK⟩ := id E
  intro n
  induction n with
  | zero => intros; rename_i h _; cases h
  | succ n ih =>
    intro a1 u H locs ls hM hl h hk
    rw [L_X3_arrange_2] at h
    refine lv_iload_n hx hb dX3_arrange_2 rfl (lv_at hl 1 rfl) ?_
    refine lv_aload_n hx hb dX3_arrange_3 rfl (lv_at hl 0 rfl) ?_
    obtain ⟨ok1, h⟩ := k_gd h
    refine gs_X3_22 E hM ok1 dX3_arrange_4 ?_
    refine lv_icmp_ge (tgt := 65) hx hb dX3_arrange_7 (by decide) (fun c2 => ?_) (fun c2 => ?_)
    · replace h := (k_if h).1 c2
      exact hk a1 u H locs ls hM (lv_sub hl [0, 1] rfl) h
    · replace h := (k_if h).2 c2
      refine lv_iload_n hx hb dX3_arrange_10 rfl (lv_at hl 1 rfl) ?_
      refine lv_istore_n (i := 2) (lv' := [(2, .int a1), (0, .ref (sz + b0)), (1, .int a1)]) hx hb dX3_arrange_11 rfl hl (by decide) (by first | rfl | simp [rv_cat, cat_i, cat_l, cat_r, cat_n]) (fun ls hl => ?_)
      refine lp_X3_arrange_12 hr hlk  E 1000 a1 u H locs ls hM (lv_sub hl [1, 2, 0] rfl) h (fun a17 u18 H locs ls hM hl h => ?_)
      refine lv_aload_n hx hb dX3_arrange_52 rfl (lv_at hl 0 rfl) ?_
      obtain ⟨ok19, h⟩ := k_gd h
      refine gs_X3_9 E hM ok19 dX3_arrange_53 (fun x20 hxx20 => ?_)
      replace h := k_bb h x20 hxx20.symm
      refine lv_iload_n hx hb dX3_arrange_56 rfl (lv_at hl 2 rfl) ?_
      refine lv_iload_n hx hb dX3_arrange_57 rfl (lv_at hl 1 rfl) ?_
      rcases x20 with _ | k21
      · cases h
      rw [cs_s] at h
      obtain ⟨ok22, h⟩ := k_gd h
      refine m_iast E hM ok22 dX3_arrange_58 (fun H locs hM => ?_)
      obtain ⟨v23, hvv23⟩ : ∃ y : Int32, y = a1 + (1) := ⟨_, rfl⟩
      replace h := k_bb h v23 hvv23
      refine lv_iinc (v := v23) (lv' := [(1, .int v23), (0, .ref (sz + b0)), (2, .int a17)]) hx hb dX3_arrange_59 hl (k := 1) rfl (by rw [hvv23]; rfl) (by decide) (by first | rfl | simp [rv_cat, cat_i, cat_l, cat_r, cat_n]) (fun ls hl => ?_)
      refine lv_goto (tgt := 2) hx hb dX3_arrange_62 (by decide) ?_
      exact ih v23 (sI u18 k21 (Int32.toNatClampNeg a17) a1) H locs ls hM (lv_sub hl [1, 0] rfl) h hk

def f_X3_arrange (r : Nat) (u : Mm) : Option (Mm) := L_X3_arrange_2 r  (fun a24 u25 => some u25) 1000 (0 : Int32) u
set_option maxHeartbeats 4000000 in
set_option maxRecDepth 100000 in
theorem c_X3_arrange (l : Launch) (D : va_G) (cy : Nat → ClassId) (sz : Nat) (H0 : Heap) (u : Mm) (r : Nat) {res : Mm} (h : f_X3_arrange r u = some res) : Ctr l yX3_arrange cX3_arrange 3 none rm_X3_arrange 0 0 D cy sz H0 u [.ref (sz + r)] none res := by
  refine m_start (lv := [(0, .ref (sz + r))]) (by decide) (by first | exact Nat.le_of_ble_eq_true rfl | simp [lg_sl, rv_cat, cat_i, cat_l, cat_r, cat_n]) (by first | rfl | simp [lv_args, rv_cat, cat_i, cat_l, cat_r, cat_n]) ?_
  intro p e s m below meth c ls E hr hlk hinit hM hl
  obtain ⟨hx, hb, hml, hown, hts, hKK⟩ := id E
  obtain ⟨H, hH⟩ : ∃ H, H = s.heap := ⟨_, rfl⟩
  obtain ⟨locs, hlocs⟩ : ∃ L : List Loc, L = [] := ⟨_, rfl⟩
  rw [← hH, ← hlocs] at hM ⊢
  unfold f_X3_arrange at h
  refine lv_iconst (v := 0) hx hb dX3_arrange_0 (by decide) ?_
  refine lv_istore_n (i := 1) (lv' := [(1, .int (0 : Int32)), (0, .ref (sz + r))]) hx hb dX3_arrange_1 rfl hl (by decide) (by first | rfl | simp [rv_cat, cat_i, cat_l, cat_r, cat_n]) (fun ls hl => ?_)
  refine lp_X3_arrange_2 hr hlk  E 1000 (0 : Int32) u H locs ls hM (lv_sub hl [1, 0] rfl) h (fun a24 u25 H locs ls hM hl h => ?_)
  cases h
  exact m_vret hx hb hr hlk hM rfl dX3_arrange_65

abbrev rm_X3_weightedCosts : Room := { frames := 0, cells := 0, slots := 0, locals := 0 }
def L_X3_weightedCosts_7 (b0 : Nat) (u : Mm) (k : Int64 → Int64 → Int32 → Option (Int64)) : Nat → Int64 → Int64 → Int32 → Option (Int64)
  | 0, _, _, _ => none
  | n + 1, a1, a3, a5 => gd (okO u b0 3) ((if (gI u b0 3) ≤ a5 then k a1 a3 a5 else bb (gR u b0 2) (fun x3 => bb (gR u b0 0) (fun x4 => cs x4 none (fun k5 => gd (okA u k5 9 a5) (cs x3 none (fun k7 => gd (okA u k7 10 (gI u k5 (Int32.toNatClampNeg a5))) (bb ((a1 + (gL u k7 (Int32.toNatClampNeg (gI u k5 (Int32.toNatClampNeg a5)))))) (fun v9 => bb (gR u b0 1) (fun x10 => bb (gR u b0 0) (fun x11 => cs x11 none (fun k12 => gd (okA u k12 9 a5) (cs x10 none (fun k14 => gd (okA u k14 10 (gI u k12 (Int32.toNatClampNeg a5))) (bb ((a3 + ((gL u k14 (Int32.toNatClampNeg (gI u k12 (Int32.toNatClampNeg a5)))) * v9))) (fun v16 => bb (a5 + (1)) (fun v17 => L_X3_weightedCosts_7 b0 u k n v9 v16 v17)))))))))))))))))
set_option maxHeartbeats 4000000 in
set_option maxRecDepth 100000 in
theorem lp_X3_weightedCosts_7 {p : Program} {l : Launch} {e : Env} {s : State} {m : MethodId} {args : Array Value} {below : List Frame} {meth : Method} {c : Code} {D : va_G} {cy : Nat → ClassId} {sz : Nat} {H0 : Heap} {b0 : Nat} {u : Mm} {k : Int64 → Int64 → Int32 → Option (Int64)} {res : Int64} (hr : meth.sig.returnType = (some .long)) (hlk : meth.locks = false) (E : EE p s m args c cX3_weightedCosts 6 RX3 D cy) : ∀ (n : Nat) (a1 : Int64) (a3 : Int64) (a5 : Int32) (H : Heap) (locs : List Loc) (ls : Array Slot), MM D cy sz H0 u H locs → lv_has ls 6 [(0, .ref (sz + b0)), (1, .long a1), (3, .long a3), (5, .int a5)] → L_X3_weightedCosts_7 b0 u k n a1 a3 a5 = some res → (∀ (a1 : Int64) (a3 : Int64) (a5 : Int32) (H : Heap) (locs : List Loc) (ls : Array Slot), MM D cy sz H0 u H locs → lv_has ls 6 [(0, .ref (sz + b0)), (1, .long a1), (3, .long a3), (5, .int a5)] → k a1 a3 a5 = some res → W p l e rm_X3_weightedCosts s m args below meth c H locs 0 0 (MQ below (Post D cy sz H0 (some (.long res)) u) args s 0 0 (fun q => sz ≤ q)) (F0 m 54 ls [])) → W p l e rm_X3_weightedCosts s m args below meth c H locs 0 0 (MQ below (Post D cy sz H0 (some (.long res)) u) args s 0 0 (fun q => sz ≤ q)) (F0 m 7 ls []) := by
  obtain ⟨hx, hb, hml, hown, hts, hKK⟩ := id E
  intro n
  induction n with
  | zero => intros; rename_i h _; cases h
  | succ n ih =>
    intro a1 a3 a5 H locs ls hM hl h hk
    rw [L_X3_weightedCosts_7] at h
    refine lv_iload hx hb dX3_weightedCosts_7 (lv_at hl 3 rfl) ?_
    refine lv_aload_n hx hb dX3_weightedCosts_9 rfl (lv_at hl 0 rfl) ?_
    obtain ⟨ok1, h⟩ := k_gd h
    refine gs_X3_22 E hM ok1 dX3_weightedCosts_10 ?_
    refine lv_icmp_ge (tgt := 54) hx hb dX3_weightedCosts_13 (by decide) (fun c2 => ?_) (fun c2 => ?_)
    · replace h := (k_if h).1 c2
      exact hk a1 a3 a5 H locs ls hM (lv_sub hl [0, 1, 2, 3] rfl) h
    · replace h := (k_if h).2 c2
      refine lv_lload_n hx hb dX3_weightedCosts_16 rfl (lv_at hl 1 rfl) ?_
      refine lv_aload_n hx hb dX3_weightedCosts_17 rfl (lv_at hl 0 rfl) ?_
      refine gs_X3_19 E hM ok1 dX3_weightedCosts_18 (fun x3 hxx3 => ?_)
      replace h := k_bb h x3 hxx3.symm
      refine lv_aload_n hx hb dX3_weightedCosts_21 rfl (lv_at hl 0 rfl) ?_
      refine gs_X3_9 E hM ok1 dX3_weightedCosts_22 (fun x4 hxx4 => ?_)
      replace h := k_bb h x4 hxx4.symm
      refine lv_iload hx hb dX3_weightedCosts_25 (lv_at hl 3 rfl) ?_
      rcases x4 with _ | k5
      · cases h
      rw [cs_s] at h
      obtain ⟨ok6, h⟩ := k_gd h
      refine m_iald E hM ok6 dX3_weightedCosts_27 ?_
      rcases x3 with _ | k7
      · cases h
      rw [cs_s] at h
      obtain ⟨ok8, h⟩ := k_gd h
      refine m_lald E hM ok8 dX3_weightedCosts_28 ?_
      refine lv_ladd hx hb dX3_weightedCosts_29 ?_
      refine lv_topl (fun v9 hvv9 => ?_)
      replace h := k_bb h v9 hvv9
      refine lv_lstore_n (i := 1) (lv' := [(1, .long v9), (0, .ref (sz + b0)), (3, .long a3), (5, .int a5)]) hx hb dX3_weightedCosts_30 rfl hl (by decide) (by first | rfl | simp [rv_cat, cat_i, cat_l, cat_r, cat_n]) (fun ls hl => ?_)
      refine lv_lload_n hx hb dX3_weightedCosts_31 rfl (lv_at hl 2 rfl) ?_
      refine lv_aload_n hx hb dX3_weightedCosts_32 rfl (lv_at hl 1 rfl) ?_
      refine gs_X3_15 E hM ok1 dX3_weightedCosts_33 (fun x10 hxx10 => ?_)
      replace h := k_bb h x10 hxx10.symm
      refine lv_aload_n hx hb dX3_weightedCosts_36 rfl (lv_at hl 1 rfl) ?_
      refine gs_X3_9 E hM ok1 dX3_weightedCosts_37 (fun x11 hxx11 => ?_)
      replace h := k_bb h x11 hxx11.symm
      refine lv_iload hx hb dX3_weightedCosts_40 (lv_at hl 3 rfl) ?_
      rcases x11 with _ | k12
      · cases h
      rw [cs_s] at h
      obtain ⟨ok13, h⟩ := k_gd h
      refine m_iald E hM ok13 dX3_weightedCosts_42 ?_
      rcases x10 with _ | k14
      · cases h
      rw [cs_s] at h
      obtain ⟨ok15, h⟩ := k_gd h
      refine m_lald E hM ok15 dX3_weightedCosts_43 ?_
      refine lv_lload_n hx hb dX3_weightedCosts_44 rfl (lv_at hl 0 rfl) ?_
      refine lv_lmul hx hb dX3_weightedCosts_45 ?_
      refine lv_ladd hx hb dX3_weightedCosts_46 ?_
      refine lv_topl (fun v16 hvv16 => ?_)
      replace h := k_bb h v16 hvv16
      refine lv_lstore_n (i := 3) (lv' := [(3, .long v16), (1, .long v9), (0, .ref (sz + b0)), (5, .int a5)]) hx hb dX3_weightedCosts_47 rfl hl (by decide) (by first | rfl | simp [rv_cat, cat_i, cat_l, cat_r, cat_n]) (fun ls hl => ?_)
      obtain ⟨v17, hvv17⟩ : ∃ y : Int32, y = a5 + (1) := ⟨_, rfl⟩
      replace h := k_bb h v17 hvv17
      refine lv_iinc (v := v17) (lv' := [(5, .int v17), (3, .long v16), (1, .long v9), (0, .ref (sz + b0))]) hx hb dX3_weightedCosts_48 hl (k := 3) rfl (by rw [hvv17]; rfl) (by decide) (by first | rfl | simp [rv_cat, cat_i, cat_l, cat_r, cat_n]) (fun ls hl => ?_)
      refine lv_goto (tgt := 7) hx hb dX3_weightedCosts_51 (by decide) ?_
      exact ih v9 v16 v17 H locs ls hM (lv_sub hl [3, 2, 1, 0] rfl) h hk

def f_X3_weightedCosts (r : Nat) (u : Mm) : Option (Int64) := L_X3_weightedCosts_7 r u (fun a18 a19 a20 => some a19) 1000 (0 : Int64) (0 : Int64) (0 : Int32) 
set_option maxHeartbeats 4000000 in
set_option maxRecDepth 100000 in
theorem c_X3_weightedCosts (l : Launch) (D : va_G) (cy : Nat → ClassId) (sz : Nat) (H0 : Heap) (u : Mm) (r : Nat) {res : Int64} (h : f_X3_weightedCosts r u = some res) : Ctr l yX3_weightedCosts cX3_weightedCosts 6 (some .long) rm_X3_weightedCosts 0 0 D cy sz H0 u [.ref (sz + r)] (some (.long res)) u := by
  refine m_start (lv := [(0, .ref (sz + r))]) (by decide) (by first | exact Nat.le_of_ble_eq_true rfl | simp [lg_sl, rv_cat, cat_i, cat_l, cat_r, cat_n]) (by first | rfl | simp [lv_args, rv_cat, cat_i, cat_l, cat_r, cat_n]) ?_
  intro p e s m below meth c ls E hr hlk hinit hM hl
  obtain ⟨hx, hb, hml, hown, hts, hKK⟩ := id E
  obtain ⟨H, hH⟩ : ∃ H, H = s.heap := ⟨_, rfl⟩
  obtain ⟨locs, hlocs⟩ : ∃ L : List Loc, L = [] := ⟨_, rfl⟩
  rw [← hH, ← hlocs] at hM ⊢
  unfold f_X3_weightedCosts at h
  refine lv_lconst (v := 0) hx hb dX3_weightedCosts_0 (by decide) ?_
  refine lv_lstore_n (i := 1) (lv' := [(1, .long (0 : Int64)), (0, .ref (sz + r))]) hx hb dX3_weightedCosts_1 rfl hl (by decide) (by first | rfl | simp [rv_cat, cat_i, cat_l, cat_r, cat_n]) (fun ls hl => ?_)
  refine lv_lconst (v := 0) hx hb dX3_weightedCosts_2 (by decide) ?_
  refine lv_lstore_n (i := 3) (lv' := [(3, .long (0 : Int64)), (1, .long (0 : Int64)), (0, .ref (sz + r))]) hx hb dX3_weightedCosts_3 rfl hl (by decide) (by first | rfl | simp [rv_cat, cat_i, cat_l, cat_r, cat_n]) (fun ls hl => ?_)
  refine lv_iconst (v := 0) hx hb dX3_weightedCosts_4 (by decide) ?_
  refine lv_istore (i := 5) (lv' := [(5, .int (0 : Int32)), (3, .long (0 : Int64)), (1, .long (0 : Int64)), (0, .ref (sz + r))]) hx hb dX3_weightedCosts_5 hl (by decide) (by first | rfl | simp [rv_cat, cat_i, cat_l, cat_r, cat_n]) (fun ls hl => ?_)
  refine lp_X3_weightedCosts_7 hr hlk  E 1000 (0 : Int64) (0 : Int64) (0 : Int32) H locs ls hM (lv_sub hl [3, 2, 1, 0] rfl) h (fun a18 a19 a20 H locs ls hM hl h => ?_)
  refine lv_lload_n hx hb dX3_weightedCosts_54 rfl (lv_at hl 2 rfl) ?_
  cases h
  exact m_lret hx hb hr hlk hM rfl rfl dX3_weightedCosts_55

abbrev rm_X3_weights : Room := { frames := 0, cells := 0, slots := 0, locals := 0 }
def L_X3_weights_4 (b0 : Nat) (u : Mm) (k : Int64 → Int32 → Option (Int64)) : Nat → Int64 → Int32 → Option (Int64)
  | 0, _, _ => none
  | n + 1, a1, a3 => gd (okO u b0 3) ((if (gI u b0 3) ≤ a3 then k a1 a3 else bb (gR u b0 1) (fun x3 => cs x3 none (fun k4 => gd (okA u k4 10 a3) (bb ((a1 + (gL u k4 (Int32.toNatClampNeg a3)))) (fun v6 => bb (a3 + (1)) (fun v7 => L_X3_weights_4 b0 u k n v6 v7)))))))
set_option maxHeartbeats 4000000 in
set_option maxRecDepth 100000 in
theorem lp_X3_weights_4 {p : Program} {l : Launch} {e : Env} {s : State} {m : MethodId} {args : Array Value} {below : List Frame} {meth : Method} {c : Code} {D : va_G} {cy : Nat → ClassId} {sz : Nat} {H0 : Heap} {b0 : Nat} {u : Mm} {k : Int64 → Int32 → Option (Int64)} {res : Int64} (hr : meth.sig.returnType = (some .long)) (hlk : meth.locks = false) (E : EE p s m args c cX3_weights 4 RX3 D cy) : ∀ (n : Nat) (a1 : Int64) (a3 : Int32) (H : Heap) (locs : List Loc) (ls : Array Slot), MM D cy sz H0 u H locs → lv_has ls 4 [(0, .ref (sz + b0)), (1, .long a1), (3, .int a3)] → L_X3_weights_4 b0 u k n a1 a3 = some res → (∀ (a1 : Int64) (a3 : Int32) (H : Heap) (locs : List Loc) (ls : Array Slot), MM D cy sz H0 u H locs → lv_has ls 4 [(0, .ref (sz + b0)), (1, .long a1), (3, .int a3)] → k a1 a3 = some res → W p l e rm_X3_weights s m args below meth c H locs 0 0 (MQ below (Post D cy sz H0 (some (.long res)) u) args s 0 0 (fun q => sz ≤ q)) (F0 m 27 ls [])) → W p l e rm_X3_weights s m args below meth c H locs 0 0 (MQ below (Post D cy sz H0 (some (.long res)) u) args s 0 0 (fun q => sz ≤ q)) (F0 m 4 ls []) := by
  obtain ⟨hx, hb, hml, hown, hts, hKK⟩ := id E
  intro n
  induction n with
  | zero => intros; rename_i h _; cases h
  | succ n ih =>
    intro a1 a3 H locs ls hM hl h hk
    rw [L_X3_weights_4] at h
    refine lv_iload_n hx hb dX3_weights_4 rfl (lv_at hl 2 rfl) ?_
    refine lv_aload_n hx hb dX3_weights_5 rfl (lv_at hl 0 rfl) ?_
    obtain ⟨ok1, h⟩ := k_gd h
    refine gs_X3_22 E hM ok1 dX3_weights_6 ?_
    refine lv_icmp_ge (tgt := 27) hx hb dX3_weights_9 (by decide) (fun c2 => ?_) (fun c2 => ?_)
    · replace h := (k_if h).1 c2
      exact hk a1 a3 H locs ls hM (lv_sub hl [0, 1, 2] rfl) h
    · replace h := (k_if h).2 c2
      refine lv_lload_n hx hb dX3_weights_12 rfl (lv_at hl 1 rfl) ?_
      refine lv_aload_n hx hb dX3_weights_13 rfl (lv_at hl 0 rfl) ?_
      refine gs_X3_15 E hM ok1 dX3_weights_14 (fun x3 hxx3 => ?_)
      replace h := k_bb h x3 hxx3.symm
      refine lv_iload_n hx hb dX3_weights_17 rfl (lv_at hl 2 rfl) ?_
      rcases x3 with _ | k4
      · cases h
      rw [cs_s] at h
      obtain ⟨ok5, h⟩ := k_gd h
      refine m_lald E hM ok5 dX3_weights_18 ?_
      refine lv_ladd hx hb dX3_weights_19 ?_
      refine lv_topl (fun v6 hvv6 => ?_)
      replace h := k_bb h v6 hvv6
      refine lv_lstore_n (i := 1) (lv' := [(1, .long v6), (0, .ref (sz + b0)), (3, .int a3)]) hx hb dX3_weights_20 rfl hl (by decide) (by first | rfl | simp [rv_cat, cat_i, cat_l, cat_r, cat_n]) (fun ls hl => ?_)
      obtain ⟨v7, hvv7⟩ : ∃ y : Int32, y = a3 + (1) := ⟨_, rfl⟩
      replace h := k_bb h v7 hvv7
      refine lv_iinc (v := v7) (lv' := [(3, .int v7), (1, .long v6), (0, .ref (sz + b0))]) hx hb dX3_weights_21 hl (k := 2) rfl (by rw [hvv7]; rfl) (by decide) (by first | rfl | simp [rv_cat, cat_i, cat_l, cat_r, cat_n]) (fun ls hl => ?_)
      refine lv_goto (tgt := 4) hx hb dX3_weights_24 (by decide) ?_
      exact ih v6 v7 H locs ls hM (lv_sub hl [2, 1, 0] rfl) h hk

def f_X3_weights (r : Nat) (u : Mm) : Option (Int64) := L_X3_weights_4 r u (fun a8 a9 => some a8) 1000 (0 : Int64) (0 : Int32) 
set_option maxHeartbeats 4000000 in
set_option maxRecDepth 100000 in
theorem c_X3_weights (l : Launch) (D : va_G) (cy : Nat → ClassId) (sz : Nat) (H0 : Heap) (u : Mm) (r : Nat) {res : Int64} (h : f_X3_weights r u = some res) : Ctr l yX3_weights cX3_weights 4 (some .long) rm_X3_weights 0 0 D cy sz H0 u [.ref (sz + r)] (some (.long res)) u := by
  refine m_start (lv := [(0, .ref (sz + r))]) (by decide) (by first | exact Nat.le_of_ble_eq_true rfl | simp [lg_sl, rv_cat, cat_i, cat_l, cat_r, cat_n]) (by first | rfl | simp [lv_args, rv_cat, cat_i, cat_l, cat_r, cat_n]) ?_
  intro p e s m below meth c ls E hr hlk hinit hM hl
  obtain ⟨hx, hb, hml, hown, hts, hKK⟩ := id E
  obtain ⟨H, hH⟩ : ∃ H, H = s.heap := ⟨_, rfl⟩
  obtain ⟨locs, hlocs⟩ : ∃ L : List Loc, L = [] := ⟨_, rfl⟩
  rw [← hH, ← hlocs] at hM ⊢
  unfold f_X3_weights at h
  refine lv_lconst (v := 0) hx hb dX3_weights_0 (by decide) ?_
  refine lv_lstore_n (i := 1) (lv' := [(1, .long (0 : Int64)), (0, .ref (sz + r))]) hx hb dX3_weights_1 rfl hl (by decide) (by first | rfl | simp [rv_cat, cat_i, cat_l, cat_r, cat_n]) (fun ls hl => ?_)
  refine lv_iconst (v := 0) hx hb dX3_weights_2 (by decide) ?_
  refine lv_istore_n (i := 3) (lv' := [(3, .int (0 : Int32)), (1, .long (0 : Int64)), (0, .ref (sz + r))]) hx hb dX3_weights_3 rfl hl (by decide) (by first | rfl | simp [rv_cat, cat_i, cat_l, cat_r, cat_n]) (fun ls hl => ?_)
  refine lp_X3_weights_4 hr hlk  E 1000 (0 : Int64) (0 : Int32) H locs ls hM (lv_sub hl [2, 1, 0] rfl) h (fun a8 a9 H locs ls hM hl h => ?_)
  refine lv_lload_n hx hb dX3_weights_27 rfl (lv_at hl 1 rfl) ?_
  cases h
  exact m_lret hx hb hr hlk hM rfl rfl dX3_weights_28

abbrev rm_X4_init : Room := { frames := 2, cells := 10, slots := 564, locals := 72 }
def f_X4_init (r : Nat) (u : Mm) : Option (Mm) := gd (okN u 1) (bb (u.1) (fun q2 => bd (f_X1_init q2 (nw u)) (fun w3 => gd (okO w3 r 4) (gd (okN (sR w3 r 0 (some q2)) 1) (bb ((sR w3 r 0 (some q2)).1) (fun q6 => bd (f_X1_init q6 (nw (sR w3 r 0 (some q2)))) (fun w7 => gd (okO w7 r 4) (gd (okM (sR w7 r 1 (some q6)) 9 80) (bb ((sR w7 r 1 (some q6)).1) (fun q10 => gd (okM (sR (nw (sR w7 r 1 (some q6))) r 2 (some q10)) 9 80) (bb ((sR (nw (sR w7 r 1 (some q6))) r 2 (some q10)).1) (fun q12 => gd (okM (sR (nw (sR (nw (sR w7 r 1 (some q6))) r 2 (some q10))) r 3 (some q12)) 9 80) (bb ((sR (nw (sR (nw (sR w7 r 1 (some q6))) r 2 (some q10))) r 3 (some q12)).1) (fun q14 => gd (okM (sR (nw (sR (nw (sR (nw (sR w7 r 1 (some q6))) r 2 (some q10))) r 3 (some q12))) r 4 (some q14)) 9 80) (bb ((sR (nw (sR (nw (sR (nw (sR w7 r 1 (some q6))) r 2 (some q10))) r 3 (some q12))) r 4 (some q14)).1) (fun q16 => bb (gR (sI (sR (nw (sR (nw (sR (nw (sR (nw (sR w7 r 1 (some q6))) r 2 (some q10))) r 3 (some q12))) r 4 (some q14))) r 5 (some q16)) r 6 (0 : Int32)) r 2) (fun x17 => bd (f_J7_fill_53178 x17 (-1 : Int32) (sI (sR (nw (sR (nw (sR (nw (sR (nw (sR w7 r 1 (some q6))) r 2 (some q10))) r 3 (some q12))) r 4 (some q14))) r 5 (some q16)) r 6 (0 : Int32))) (fun w18 => some w18))))))))))))))))))
set_option maxHeartbeats 4000000 in
set_option maxRecDepth 100000 in
theorem c_X4_init (l : Launch) (D : va_G) (cy : Nat → ClassId) (sz : Nat) (H0 : Heap) (u : Mm) (r : Nat) {res : Mm} (h : f_X4_init r u = some res) : Ctr l yX4_init cX4_init 1 none rm_X4_init 10 564 D cy sz H0 u [.ref (sz + r)] none res := by
  refine m_start (lv := [(0, .ref (sz + r))]) (by decide) (by first | exact Nat.le_of_ble_eq_true rfl | simp [lg_sl, rv_cat, cat_i, cat_l, cat_r, cat_n]) (by first | rfl | simp [lv_args, rv_cat, cat_i, cat_l, cat_r, cat_n]) ?_
  intro p e s m below meth c ls E hr hlk hinit hM hl
  obtain ⟨hx, hb, hml, hown, hts, hKK⟩ := id E
  obtain ⟨H, hH⟩ : ∃ H, H = s.heap := ⟨_, rfl⟩
  obtain ⟨locs, hlocs⟩ : ∃ L : List Loc, L = [] := ⟨_, rfl⟩
  rw [← hH, ← hlocs] at hM ⊢
  unfold f_X4_init at h
  refine lv_aload_n hx hb dX4_init_0 rfl (lv_at hl 0 rfl) ?_
  refine m_obj E hl.1 wl_X4_3 wm_objectInit wd_objectInit dX4_init_1 (by decide) (Nat.le_of_ble_eq_true rfl) ?_
  refine lv_aload_n hx hb dX4_init_4 rfl (lv_at hl 0 rfl) ?_
  obtain ⟨ok1, h⟩ := k_gd h
  obtain ⟨q2, hq2⟩ : ∃ y : Nat, y = (u).1 := ⟨_, rfl⟩
  replace h := k_bb h q2 hq2
  refine m_new hq2 E hM (ci := 1) (N := 2) (C := RX1) (T := TX1) tyX1 tyX1_ok ok1 (by decide) rfl rfl inX1 wc_X4_9 wn_X1 wi_X1 (fun j hj => by rcases (show j = 0 ∨ j = 1 by omega) with rfl | rfl <;> first | exact (nw_i _).symm | exact (nw_l _).symm | exact (nw_r _).symm) (by decide) (by decide) dX4_init_5 (fun H hM => ?_)
  refine lv_dup hx hb dX4_init_8 rfl ?_
  obtain ⟨w3, hzw3, h⟩ := k_bd h
  refine m_callI (n := 0) (As := []) (rest := [.ref (sz + q2), .ref (sz + r)]) (st1 := [.ref (sz + q2), .ref (sz + r)]) E hM hl.1 (c_X1_init l D cy sz H0 (nw u) q2 hzw3) wl_X4_11 wm_X1_init wi_X1 wd_X1_init rfl rfl rfl (by decide +kernel) ⟨by decide, by decide⟩ rfl rfl (by first | exact Nat.le_of_ble_eq_true rfl | simp [rv_cat, cat_i, cat_l, cat_r, cat_n]) dX4_init_9 ⟨by decide, by decide⟩ rfl (fun H locs hM => ?_)
  obtain ⟨ok4, h⟩ := k_gd h
  refine ps_X4_12 (v := (some q2)) E hM ok4 hinit dX4_init_12 (fun H locs hM => ?_)
  refine lv_aload_n hx hb dX4_init_15 rfl (lv_at hl 0 rfl) ?_
  obtain ⟨ok5, h⟩ := k_gd h
  obtain ⟨q6, hq6⟩ : ∃ y : Nat, y = ((sR w3 r 0 (some q2))).1 := ⟨_, rfl⟩
  replace h := k_bb h q6 hq6
  refine m_new hq6 E hM (ci := 1) (N := 2) (C := RX1) (T := TX1) tyX1 tyX1_ok ok5 (by decide) rfl rfl inX1 wc_X4_9 wn_X1 wi_X1 (fun j hj => by rcases (show j = 0 ∨ j = 1 by omega) with rfl | rfl <;> first | exact (nw_i _).symm | exact (nw_l _).symm | exact (nw_r _).symm) (by decide) (by decide) dX4_init_16 (fun H hM => ?_)
  refine lv_dup hx hb dX4_init_19 rfl ?_
  obtain ⟨w7, hzw7, h⟩ := k_bd h
  refine m_callI (n := 0) (As := []) (rest := [.ref (sz + q6), .ref (sz + r)]) (st1 := [.ref (sz + q6), .ref (sz + r)]) E hM hl.1 (c_X1_init l D cy sz H0 (nw (sR w3 r 0 (some q2))) q6 hzw7) wl_X4_11 wm_X1_init wi_X1 wd_X1_init rfl rfl rfl (by decide +kernel) ⟨by decide, by decide⟩ rfl rfl (by first | exact Nat.le_of_ble_eq_true rfl | simp [rv_cat, cat_i, cat_l, cat_r, cat_n]) dX4_init_20 ⟨by decide, by decide⟩ rfl (fun H locs hM => ?_)
  obtain ⟨ok8, h⟩ := k_gd h
  refine ps_X4_18 (v := (some q6)) E hM ok8 hinit dX4_init_23 (fun H locs hM => ?_)
  refine lv_aload_n hx hb dX4_init_26 rfl (lv_at hl 0 rfl) ?_
  refine lv_bipush (v := 80) hx hb dX4_init_27 (by decide) ?_
  obtain ⟨ok9, h⟩ := k_gd h
  obtain ⟨q10, hq10⟩ : ∃ y : Nat, y = ((sR w7 r 1 (some q6))).1 := ⟨_, rfl⟩
  replace h := k_bb h q10 hq10
  refine m_newa hq10 (sh := 9) (ty := .int) (N := 80) (by decide) rfl 0 rfl (fun U h => h) wa_int E hM ok9 (by decide) (by decide) (by decide) (nw_i _).symm (fun j => (nw_i j).trans (nw_i 0).symm) (by decide) (by decide) dX4_init_29 (fun H hM => ?_)
  refine ps_X4_21 (v := (some q10)) E hM (okO_nw ok8) hinit dX4_init_31 (fun H locs hM => ?_)
  refine lv_aload_n hx hb dX4_init_34 rfl (lv_at hl 0 rfl) ?_
  refine lv_bipush (v := 80) hx hb dX4_init_35 (by decide) ?_
  obtain ⟨ok11, h⟩ := k_gd h
  obtain ⟨q12, hq12⟩ : ∃ y : Nat, y = ((sR (nw (sR w7 r 1 (some q6))) r 2 (some q10))).1 := ⟨_, rfl⟩
  replace h := k_bb h q12 hq12
  refine m_newa hq12 (sh := 9) (ty := .int) (N := 80) (by decide) rfl 0 rfl (fun U h => h) wa_int E hM ok11 (by decide) (by decide) (by decide) (nw_i _).symm (fun j => (nw_i j).trans (nw_i 0).symm) (by decide) (by decide) dX4_init_37 (fun H hM => ?_)
  refine ps_X4_25 (v := (some q12)) E hM (okO_nw (okO_nw ok8)) hinit dX4_init_39 (fun H locs hM => ?_)
  refine lv_aload_n hx hb dX4_init_42 rfl (lv_at hl 0 rfl) ?_
  refine lv_bipush (v := 80) hx hb dX4_init_43 (by decide) ?_
  obtain ⟨ok13, h⟩ := k_gd h
  obtain ⟨q14, hq14⟩ : ∃ y : Nat, y = ((sR (nw (sR (nw (sR w7 r 1 (some q6))) r 2 (some q10))) r 3 (some q12))).1 := ⟨_, rfl⟩
  replace h := k_bb h q14 hq14
  refine m_newa hq14 (sh := 9) (ty := .int) (N := 80) (by decide) rfl 0 rfl (fun U h => h) wa_int E hM ok13 (by decide) (by decide) (by decide) (nw_i _).symm (fun j => (nw_i j).trans (nw_i 0).symm) (by decide) (by decide) dX4_init_45 (fun H hM => ?_)
  refine ps_X4_28 (v := (some q14)) E hM (okO_nw (okO_nw (okO_nw ok8))) hinit dX4_init_47 (fun H locs hM => ?_)
  refine lv_aload_n hx hb dX4_init_50 rfl (lv_at hl 0 rfl) ?_
  refine lv_bipush (v := 80) hx hb dX4_init_51 (by decide) ?_
  obtain ⟨ok15, h⟩ := k_gd h
  obtain ⟨q16, hq16⟩ : ∃ y : Nat, y = ((sR (nw (sR (nw (sR (nw (sR w7 r 1 (some q6))) r 2 (some q10))) r 3 (some q12))) r 4 (some q14))).1 := ⟨_, rfl⟩
  replace h := k_bb h q16 hq16
  refine m_newa hq16 (sh := 9) (ty := .int) (N := 80) (by decide) rfl 0 rfl (fun U h => h) wa_int E hM ok15 (by decide) (by decide) (by decide) (nw_i _).symm (fun j => (nw_i j).trans (nw_i 0).symm) (by decide) (by decide) dX4_init_53 (fun H hM => ?_)
  refine ps_X4_31 (v := (some q16)) E hM (okO_nw (okO_nw (okO_nw (okO_nw ok8)))) hinit dX4_init_55 (fun H locs hM => ?_)
  refine lv_aload_n hx hb dX4_init_58 rfl (lv_at hl 0 rfl) ?_
  refine lv_iconst (v := 0) hx hb dX4_init_59 (by decide) ?_
  refine ps_X4_34 (v := (0 : Int32)) E hM (okO_nw (okO_nw (okO_nw (okO_nw ok8)))) dX4_init_60 (fun H locs hM => ?_)
  refine lv_aload_n hx hb dX4_init_63 rfl (lv_at hl 0 rfl) ?_
  refine gs_X4_21 E hM (okO_nw (okO_nw (okO_nw (okO_nw ok8)))) dX4_init_64 (fun x17 hxx17 => ?_)
  replace h := k_bb h x17 hxx17.symm
  refine lv_iconst (v := (-1)) hx hb dX4_init_67 (by decide) ?_
  obtain ⟨w18, hzw18, h⟩ := k_bd h
  refine m_callS (n := 2) (As := [rv sz x17, .int (-1 : Int32)]) (rest := []) (st1 := []) E hM hl.1 (c_J7_fill_53178 l D cy sz H0 (sI (sR (nw (sR (nw (sR (nw (sR (nw (sR w7 r 1 (some q6))) r 2 (some q10))) r 3 (some q12))) r 4 (some q14))) r 5 (some q16)) r 6 (0 : Int32)) x17 (-1 : Int32) hzw18) wl_X4_38 wst_J7_fill_53178 wi_J7 wd_J7_fill_53178 rfl rfl (by decide +kernel) ⟨by decide, by decide⟩ rfl rfl (by first | exact Nat.le_of_ble_eq_true rfl | simp [rv_cat, cat_i, cat_l, cat_r, cat_n]) dX4_init_68 ⟨by decide, by decide⟩ rfl (fun H locs hM => ?_)
  cases h
  exact m_vret hx hb hr hlk hM rfl dX4_init_71

abbrev rm_X4_isGoalOfAnother : Room := { frames := 0, cells := 0, slots := 0, locals := 0 }
def L_X4_isGoalOfAnother_2 (b0 : Nat) (b1 : Int32) (b2 : Int32) (u : Mm) (k : Int32 → Option (Int32)) : Nat → Int32 → Option (Int32)
  | 0, _ => none
  | n + 1, a3 => (if (80 : Int32) ≤ a3 then k a3 else gd (okO u b0 4) (bb (gR u b0 2) (fun x3 => cs x3 none (fun k4 => gd (okA u k4 9 a3) ((if (gI u k4 (Int32.toNatClampNeg a3)) = b1 then (if a3 = b2 then bb (a3 + (1)) (fun v9 => L_X4_isGoalOfAnother_2 b0 b1 b2 u k n v9) else some (1 : Int32)) else bb (a3 + (1)) (fun v7 => L_X4_isGoalOfAnother_2 b0 b1 b2 u k n v7)))))))
set_option maxHeartbeats 4000000 in
set_option maxRecDepth 100000 in
theorem lp_X4_isGoalOfAnother_2 {p : Program} {l : Launch} {e : Env} {s : State} {m : MethodId} {args : Array Value} {below : List Frame} {meth : Method} {c : Code} {D : va_G} {cy : Nat → ClassId} {sz : Nat} {H0 : Heap} {b0 : Nat} {b1 : Int32} {b2 : Int32} {u : Mm} {k : Int32 → Option (Int32)} {res : Int32} (hr : meth.sig.returnType = (some .boolean)) (hlk : meth.locks = false) (E : EE p s m args c cX4_isGoalOfAnother 4 RX4 D cy) : ∀ (n : Nat) (a3 : Int32) (H : Heap) (locs : List Loc) (ls : Array Slot), MM D cy sz H0 u H locs → lv_has ls 4 [(0, .ref (sz + b0)), (1, .int b1), (2, .int b2), (3, .int a3)] → L_X4_isGoalOfAnother_2 b0 b1 b2 u k n a3 = some res → (∀ (a3 : Int32) (H : Heap) (locs : List Loc) (ls : Array Slot), MM D cy sz H0 u H locs → lv_has ls 4 [(0, .ref (sz + b0)), (1, .int b1), (2, .int b2), (3, .int a3)] → k a3 = some res → W p l e rm_X4_isGoalOfAnother s m args below meth c H locs 0 0 (MQ below (Post D cy sz H0 (some (.int res)) u) args s 0 0 (fun q => sz ≤ q)) (F0 m 31 ls [])) → W p l e rm_X4_isGoalOfAnother s m args below meth c H locs 0 0 (MQ below (Post D cy sz H0 (some (.int res)) u) args s 0 0 (fun q => sz ≤ q)) (F0 m 2 ls []) := by
  obtain ⟨hx, hb, hml, hown, hts, hKK⟩ := id E
  intro n
  induction n with
  | zero => intros; rename_i h _; cases h
  | succ n ih =>
    intro a3 H locs ls hM hl h hk
    rw [L_X4_isGoalOfAnother_2] at h
    refine lv_iload_n hx hb dX4_isGoalOfAnother_2 rfl (lv_at hl 3 rfl) ?_
    refine lv_bipush (v := 80) hx hb dX4_isGoalOfAnother_3 (by decide) ?_
    refine lv_icmp_ge (tgt := 31) hx hb dX4_isGoalOfAnother_5 (by decide) (fun c1 => ?_) (fun c1 => ?_)
    · replace h := (k_if h).1 c1
      exact hk a3 H locs ls hM (lv_sub hl [0, 1, 2, 3] rfl) h
    · replace h := (k_if h).2 c1
      refine lv_aload_n hx hb dX4_isGoalOfAnother_8 rfl (lv_at hl 0 rfl) ?_
      obtain ⟨ok2, h⟩ := k_gd h
      refine gs_X4_21 E hM ok2 dX4_isGoalOfAnother_9 (fun x3 hxx3 => ?_)
      replace h := k_bb h x3 hxx3.symm
      refine lv_iload_n hx hb dX4_isGoalOfAnother_12 rfl (lv_at hl 3 rfl) ?_
      rcases x3 with _ | k4
      · cases h
      rw [cs_s] at h
      obtain ⟨ok5, h⟩ := k_gd h
      refine m_iald E hM ok5 dX4_isGoalOfAnother_13 ?_
      refine lv_iload_n hx hb dX4_isGoalOfAnother_14 rfl (lv_at hl 1 rfl) ?_
      refine lv_icmp_ne (tgt := 25) hx hb dX4_isGoalOfAnother_15 (by decide) (fun c6 => ?_) (fun c6 => ?_)
      · replace h := (k_if h).2 c6
        obtain ⟨v7, hvv7⟩ : ∃ y : Int32, y = a3 + (1) := ⟨_, rfl⟩
        replace h := k_bb h v7 hvv7
        refine lv_iinc (v := v7) (lv' := [(3, .int v7), (0, .ref (sz + b0)), (1, .int b1), (2, .int b2)]) hx hb dX4_isGoalOfAnother_25 hl (k := 3) rfl (by rw [hvv7]; rfl) (by decide) (by first | rfl | simp [rv_cat, cat_i, cat_l, cat_r, cat_n]) (fun ls hl => ?_)
        refine lv_goto (tgt := 2) hx hb dX4_isGoalOfAnother_28 (by decide) ?_
        exact ih v7 H locs ls hM (lv_sub hl [1, 2, 3, 0] rfl) h hk
      · replace h := (k_if h).1 c6
        refine lv_iload_n hx hb dX4_isGoalOfAnother_18 rfl (lv_at hl 3 rfl) ?_
        refine lv_iload_n hx hb dX4_isGoalOfAnother_19 rfl (lv_at hl 2 rfl) ?_
        refine lv_icmp_eq (tgt := 25) hx hb dX4_isGoalOfAnother_20 (by decide) (fun c8 => ?_) (fun c8 => ?_)
        · replace h := (k_if h).1 c8
          obtain ⟨v9, hvv9⟩ : ∃ y : Int32, y = a3 + (1) := ⟨_, rfl⟩
          replace h := k_bb h v9 hvv9
          refine lv_iinc (v := v9) (lv' := [(3, .int v9), (0, .ref (sz + b0)), (1, .int b1), (2, .int b2)]) hx hb dX4_isGoalOfAnother_25 hl (k := 3) rfl (by rw [hvv9]; rfl) (by decide) (by first | rfl | simp [rv_cat, cat_i, cat_l, cat_r, cat_n]) (fun ls hl => ?_)
          refine lv_goto (tgt := 2) hx hb dX4_isGoalOfAnother_28 (by decide) ?_
          exact ih v9 H locs ls hM (lv_sub hl [1, 2, 3, 0] rfl) h hk
        · replace h := (k_if h).2 c8
          refine lv_iconst (v := 1) hx hb dX4_isGoalOfAnother_23 (by decide) ?_
          cases h
          exact m_zret hx hb hr hlk hM (by decide) rfl rfl dX4_isGoalOfAnother_24

def f_X4_isGoalOfAnother (r : Nat) (p1 : Int32) (p2 : Int32) (u : Mm) : Option (Int32) := L_X4_isGoalOfAnother_2 r p1 p2 u (fun a10 => some (0 : Int32)) 1000 (0 : Int32) 
set_option maxHeartbeats 4000000 in
set_option maxRecDepth 100000 in
theorem c_X4_isGoalOfAnother (l : Launch) (D : va_G) (cy : Nat → ClassId) (sz : Nat) (H0 : Heap) (u : Mm) (r : Nat) (p1 : Int32) (p2 : Int32) {res : Int32} (h : f_X4_isGoalOfAnother r p1 p2 u = some res) : Ctr l yX4_isGoalOfAnother cX4_isGoalOfAnother 4 (some .boolean) rm_X4_isGoalOfAnother 0 0 D cy sz H0 u [.ref (sz + r), .int p1, .int p2] (some (.int res)) u := by
  refine m_start (lv := [(0, .ref (sz + r)), (1, .int p1), (2, .int p2)]) (by decide) (by first | exact Nat.le_of_ble_eq_true rfl | simp [lg_sl, rv_cat, cat_i, cat_l, cat_r, cat_n]) (by first | rfl | simp [lv_args, rv_cat, cat_i, cat_l, cat_r, cat_n]) ?_
  intro p e s m below meth c ls E hr hlk hinit hM hl
  obtain ⟨hx, hb, hml, hown, hts, hKK⟩ := id E
  obtain ⟨H, hH⟩ : ∃ H, H = s.heap := ⟨_, rfl⟩
  obtain ⟨locs, hlocs⟩ : ∃ L : List Loc, L = [] := ⟨_, rfl⟩
  rw [← hH, ← hlocs] at hM ⊢
  unfold f_X4_isGoalOfAnother at h
  refine lv_iconst (v := 0) hx hb dX4_isGoalOfAnother_0 (by decide) ?_
  refine lv_istore_n (i := 3) (lv' := [(3, .int (0 : Int32)), (0, .ref (sz + r)), (1, .int p1), (2, .int p2)]) hx hb dX4_isGoalOfAnother_1 rfl hl (by decide) (by first | rfl | simp [rv_cat, cat_i, cat_l, cat_r, cat_n]) (fun ls hl => ?_)
  refine lp_X4_isGoalOfAnother_2 hr hlk  E 1000 (0 : Int32) H locs ls hM (lv_sub hl [1, 2, 3, 0] rfl) h (fun a10 H locs ls hM hl h => ?_)
  refine lv_iconst (v := 0) hx hb dX4_isGoalOfAnother_31 (by decide) ?_
  cases h
  exact m_zret hx hb hr hlk hM (by decide) rfl rfl dX4_isGoalOfAnother_32

abbrev rm_X4_isAstray : Room := { frames := 0, cells := 0, slots := 0, locals := 0 }
def f_X4_isAstray (r : Nat) (p1 : Int32) (u : Mm) : Option (Int32) := gd (okO u r 4) (bb (gR u r 2) (fun x2 => cs x2 none (fun k3 => gd (okA u k3 9 p1) ((if (gI u k3 (Int32.toNatClampNeg p1)) = (-1 : Int32) then some (0 : Int32) else bb (gR u r 1) (fun x6 => cs x6 none (fun k7 => gd (okO u k7 1) (bb (gR u k7 0) (fun x9 => cs x9 none (fun k10 => gd (okA u k10 9 p1) ((if (gI u k10 (Int32.toNatClampNeg p1)) = (-1 : Int32) then some (0 : Int32) else bb (gR u r 1) (fun x13 => cs x13 none (fun k14 => gd (okO u k14 1) (bb (gR u k14 0) (fun x16 => cs x16 none (fun k17 => gd (okA u k17 9 p1) (bb (gR u r 2) (fun x19 => cs x19 none (fun k20 => gd (okA u k20 9 p1) ((if (gI u k17 (Int32.toNatClampNeg p1)) = (gI u k20 (Int32.toNatClampNeg p1)) then some (0 : Int32) else some (1 : Int32)))))))))))))))))))))))
set_option maxHeartbeats 4000000 in
set_option maxRecDepth 100000 in
theorem c_X4_isAstray (l : Launch) (D : va_G) (cy : Nat → ClassId) (sz : Nat) (H0 : Heap) (u : Mm) (r : Nat) (p1 : Int32) {res : Int32} (h : f_X4_isAstray r p1 u = some res) : Ctr l yX4_isAstray cX4_isAstray 2 (some .boolean) rm_X4_isAstray 0 0 D cy sz H0 u [.ref (sz + r), .int p1] (some (.int res)) u := by
  refine m_start (lv := [(0, .ref (sz + r)), (1, .int p1)]) (by decide) (by first | exact Nat.le_of_ble_eq_true rfl | simp [lg_sl, rv_cat, cat_i, cat_l, cat_r, cat_n]) (by first | rfl | simp [lv_args, rv_cat, cat_i, cat_l, cat_r, cat_n]) ?_
  intro p e s m below meth c ls E hr hlk hinit hM hl
  obtain ⟨hx, hb, hml, hown, hts, hKK⟩ := id E
  obtain ⟨H, hH⟩ : ∃ H, H = s.heap := ⟨_, rfl⟩
  obtain ⟨locs, hlocs⟩ : ∃ L : List Loc, L = [] := ⟨_, rfl⟩
  rw [← hH, ← hlocs] at hM ⊢
  unfold f_X4_isAstray at h
  refine lv_aload_n hx hb dX4_isAstray_0 rfl (lv_at hl 0 rfl) ?_
  obtain ⟨ok1, h⟩ := k_gd h
  refine gs_X4_21 E hM ok1 dX4_isAstray_1 (fun x2 hxx2 => ?_)
  replace h := k_bb h x2 hxx2.symm
  refine lv_iload_n hx hb dX4_isAstray_4 rfl (lv_at hl 1 rfl) ?_
  rcases x2 with _ | k3
  · cases h
  rw [cs_s] at h
  obtain ⟨ok4, h⟩ := k_gd h
  refine m_iald E hM ok4 dX4_isAstray_5 ?_
  refine lv_iconst (v := (-1)) hx hb dX4_isAstray_6 (by decide) ?_
  refine lv_icmp_eq (tgt := 45) hx hb dX4_isAstray_7 (by decide) (fun c5 => ?_) (fun c5 => ?_)
  · replace h := (k_if h).1 c5
    refine lv_iconst (v := 0) hx hb dX4_isAstray_45 (by decide) ?_
    cases h
    exact m_zret hx hb hr hlk hM (by decide) rfl rfl dX4_isAstray_46
  · replace h := (k_if h).2 c5
    refine lv_aload_n hx hb dX4_isAstray_10 rfl (lv_at hl 0 rfl) ?_
    refine gs_X4_18 E hM ok1 dX4_isAstray_11 (fun x6 hxx6 => ?_)
    replace h := k_bb h x6 hxx6.symm
    rcases x6 with _ | k7
    · cases h
    rw [cs_s] at h
    obtain ⟨ok8, h⟩ := k_gd h
    refine gs_X4_73 E hM ok8 dX4_isAstray_14 (fun x9 hxx9 => ?_)
    replace h := k_bb h x9 hxx9.symm
    refine lv_iload_n hx hb dX4_isAstray_17 rfl (lv_at hl 1 rfl) ?_
    rcases x9 with _ | k10
    · cases h
    rw [cs_s] at h
    obtain ⟨ok11, h⟩ := k_gd h
    refine m_iald E hM ok11 dX4_isAstray_18 ?_
    refine lv_iconst (v := (-1)) hx hb dX4_isAstray_19 (by decide) ?_
    refine lv_icmp_eq (tgt := 45) hx hb dX4_isAstray_20 (by decide) (fun c12 => ?_) (fun c12 => ?_)
    · replace h := (k_if h).1 c12
      refine lv_iconst (v := 0) hx hb dX4_isAstray_45 (by decide) ?_
      cases h
      exact m_zret hx hb hr hlk hM (by decide) rfl rfl dX4_isAstray_46
    · replace h := (k_if h).2 c12
      refine lv_aload_n hx hb dX4_isAstray_23 rfl (lv_at hl 0 rfl) ?_
      refine gs_X4_18 E hM ok1 dX4_isAstray_24 (fun x13 hxx13 => ?_)
      replace h := k_bb h x13 hxx13.symm
      rcases x13 with _ | k14
      · cases h
      rw [cs_s] at h
      obtain ⟨ok15, h⟩ := k_gd h
      refine gs_X4_73 E hM ok15 dX4_isAstray_27 (fun x16 hxx16 => ?_)
      replace h := k_bb h x16 hxx16.symm
      refine lv_iload_n hx hb dX4_isAstray_30 rfl (lv_at hl 1 rfl) ?_
      rcases x16 with _ | k17
      · cases h
      rw [cs_s] at h
      obtain ⟨ok18, h⟩ := k_gd h
      refine m_iald E hM ok18 dX4_isAstray_31 ?_
      refine lv_aload_n hx hb dX4_isAstray_32 rfl (lv_at hl 0 rfl) ?_
      refine gs_X4_21 E hM ok1 dX4_isAstray_33 (fun x19 hxx19 => ?_)
      replace h := k_bb h x19 hxx19.symm
      refine lv_iload_n hx hb dX4_isAstray_36 rfl (lv_at hl 1 rfl) ?_
      rcases x19 with _ | k20
      · cases h
      rw [cs_s] at h
      obtain ⟨ok21, h⟩ := k_gd h
      refine m_iald E hM ok21 dX4_isAstray_37 ?_
      refine lv_icmp_eq (tgt := 45) hx hb dX4_isAstray_38 (by decide) (fun c22 => ?_) (fun c22 => ?_)
      · replace h := (k_if h).1 c22
        refine lv_iconst (v := 0) hx hb dX4_isAstray_45 (by decide) ?_
        cases h
        exact m_zret hx hb hr hlk hM (by decide) rfl rfl dX4_isAstray_46
      · replace h := (k_if h).2 c22
        refine lv_iconst (v := 1) hx hb dX4_isAstray_41 (by decide) ?_
        refine lv_goto (tgt := 46) hx hb dX4_isAstray_42 (by decide) ?_
        cases h
        exact m_zret hx hb hr hlk hM (by decide) rfl rfl dX4_isAstray_46

abbrev rm_X4_isGoalBlocked : Room := { frames := 1, cells := 0, slots := 0, locals := 36 }
def L_X4_isGoalBlocked_2 (b0 : Nat) (u : Mm) (k : Int32 → Option (Int32)) : Nat → Int32 → Option (Int32)
  | 0, _ => none
  | n + 1, a1 => (if (80 : Int32) ≤ a1 then k a1 else gd (okO u b0 4) (bd (f_X4_isAstray b0 a1 u) (fun w3 => (if w3 = 0 then bb (a1 + (1)) (fun v5 => L_X4_isGoalBlocked_2 b0 u k n v5) else bb (gR u b0 0) (fun x6 => cs x6 none (fun k7 => gd (okO u k7 1) (bb (gR u k7 1) (fun x9 => bb (gR u b0 2) (fun x10 => cs x10 none (fun k11 => gd (okA u k11 9 a1) (cs x9 none (fun k13 => gd (okA u k13 9 (gI u k11 (Int32.toNatClampNeg a1))) (bb ((gI u k13 (Int32.toNatClampNeg (gI u k11 (Int32.toNatClampNeg a1))))) (fun v15 => (if v15 = (-1 : Int32) then bb (a1 + (1)) (fun v17 => L_X4_isGoalBlocked_2 b0 u k n v17) else bb (gR u b0 2) (fun x18 => cs x18 none (fun k19 => gd (okA u k19 9 v15) ((if (gI u k19 (Int32.toNatClampNeg v15)) = (-1 : Int32) then some (1 : Int32) else bb (a1 + (1)) (fun v22 => L_X4_isGoalBlocked_2 b0 u k n v22))))))))))))))))))))
set_option maxHeartbeats 4000000 in
set_option maxRecDepth 100000 in
theorem lp_X4_isGoalBlocked_2 {p : Program} {l : Launch} {e : Env} {s : State} {m : MethodId} {args : Array Value} {below : List Frame} {meth : Method} {c : Code} {D : va_G} {cy : Nat → ClassId} {sz : Nat} {H0 : Heap} {b0 : Nat} {u : Mm} {k : Int32 → Option (Int32)} {res : Int32} (hr : meth.sig.returnType = (some .boolean)) (hlk : meth.locks = false) (E : EE p s m args c cX4_isGoalBlocked 3 RX4 D cy) : ∀ (n : Nat) (a1 : Int32) (H : Heap) (locs : List Loc) (ls : Array Slot), MM D cy sz H0 u H locs → lv_has ls 3 [(0, .ref (sz + b0)), (1, .int a1)] → L_X4_isGoalBlocked_2 b0 u k n a1 = some res → (∀ (a1 : Int32) (H : Heap) (locs : List Loc) (ls : Array Slot), MM D cy sz H0 u H locs → lv_has ls 3 [(0, .ref (sz + b0)), (1, .int a1)] → k a1 = some res → W p l e rm_X4_isGoalBlocked s m args below meth c H locs 0 0 (MQ below (Post D cy sz H0 (some (.int res)) u) args s 0 0 (fun q => sz ≤ q)) (F0 m 54 ls [])) → W p l e rm_X4_isGoalBlocked s m args below meth c H locs 0 0 (MQ below (Post D cy sz H0 (some (.int res)) u) args s 0 0 (fun q => sz ≤ q)) (F0 m 2 ls []) := by
  obtain ⟨hx, hb, hml, hown, hts, hKK⟩ := id E
  intro n
  induction n with
  | zero => intros; rename_i h _; cases h
  | succ n ih =>
    intro a1 H locs ls hM hl h hk
    rw [L_X4_isGoalBlocked_2] at h
    refine lv_iload_n hx hb dX4_isGoalBlocked_2 rfl (lv_at hl 1 rfl) ?_
    refine lv_bipush (v := 80) hx hb dX4_isGoalBlocked_3 (by decide) ?_
    refine lv_icmp_ge (tgt := 54) hx hb dX4_isGoalBlocked_5 (by decide) (fun c1 => ?_) (fun c1 => ?_)
    · replace h := (k_if h).1 c1
      exact hk a1 H locs ls hM (lv_sub hl [0, 1] rfl) h
    · replace h := (k_if h).2 c1
      refine lv_aload_n hx hb dX4_isGoalBlocked_8 rfl (lv_at hl 0 rfl) ?_
      refine lv_iload_n hx hb dX4_isGoalBlocked_9 rfl (lv_at hl 1 rfl) ?_
      obtain ⟨ok2, h⟩ := k_gd h
      obtain ⟨w3, hzw3, h⟩ := k_bd h
      refine m_callV (C := RX4) (T := TX4) (N := 7) (ci := 4) (n := 1) (As := [.int a1]) (rest := []) (st1 := (.int w3 :: [])) E hM hl.1 ok2 (by decide) rfl rfl (c_X4_isAstray l D cy sz H0 u b0 a1 hzw3) wl_X4_67 wm_X4_isAstray ws_X4_isAstray wi_X4 wd_X4_isAstray rfl rfl (by decide +kernel) ⟨by decide, by decide⟩ rfl rfl (by first | exact Nat.le_of_ble_eq_true rfl | simp [rv_cat, cat_i, cat_l, cat_r, cat_n]) dX4_isGoalBlocked_10 ⟨by decide, by decide⟩ rfl (fun H locs hM => ?_)
      refine lv_if_eq (tgt := 48) hx hb dX4_isGoalBlocked_13 (by decide) (fun c4 => ?_) (fun c4 => ?_)
      · replace h := (k_if h).1 c4
        obtain ⟨v5, hvv5⟩ : ∃ y : Int32, y = a1 + (1) := ⟨_, rfl⟩
        replace h := k_bb h v5 hvv5
        refine lv_iinc (v := v5) (lv' := [(1, .int v5), (0, .ref (sz + b0))]) hx hb dX4_isGoalBlocked_48 hl (k := 1) rfl (by rw [hvv5]; rfl) (by decide) (by first | rfl | simp [rv_cat, cat_i, cat_l, cat_r, cat_n]) (fun ls hl => ?_)
        refine lv_goto (tgt := 2) hx hb dX4_isGoalBlocked_51 (by decide) ?_
        exact ih v5 H locs ls hM (lv_sub hl [1, 0] rfl) h hk
      · replace h := (k_if h).2 c4
        refine lv_aload_n hx hb dX4_isGoalBlocked_16 rfl (lv_at hl 0 rfl) ?_
        refine gs_X4_12 E hM ok2 dX4_isGoalBlocked_17 (fun x6 hxx6 => ?_)
        replace h := k_bb h x6 hxx6.symm
        rcases x6 with _ | k7
        · cases h
        rw [cs_s] at h
        obtain ⟨ok8, h⟩ := k_gd h
        refine gs_X4_70 E hM ok8 dX4_isGoalBlocked_20 (fun x9 hxx9 => ?_)
        replace h := k_bb h x9 hxx9.symm
        refine lv_aload_n hx hb dX4_isGoalBlocked_23 rfl (lv_at hl 0 rfl) ?_
        refine gs_X4_21 E hM ok2 dX4_isGoalBlocked_24 (fun x10 hxx10 => ?_)
        replace h := k_bb h x10 hxx10.symm
        refine lv_iload_n hx hb dX4_isGoalBlocked_27 rfl (lv_at hl 1 rfl) ?_
        rcases x10 with _ | k11
        · cases h
        rw [cs_s] at h
        obtain ⟨ok12, h⟩ := k_gd h
        refine m_iald E hM ok12 dX4_isGoalBlocked_28 ?_
        rcases x9 with _ | k13
        · cases h
        rw [cs_s] at h
        obtain ⟨ok14, h⟩ := k_gd h
        refine m_iald E hM ok14 dX4_isGoalBlocked_29 ?_
        refine lv_topi (fun v15 hvv15 => ?_)
        replace h := k_bb h v15 hvv15
        refine lv_istore_n (i := 2) (lv' := [(2, .int v15), (0, .ref (sz + b0)), (1, .int a1)]) hx hb dX4_isGoalBlocked_30 rfl hl (by decide) (by first | rfl | simp [rv_cat, cat_i, cat_l, cat_r, cat_n]) (fun ls hl => ?_)
        refine lv_iload_n hx hb dX4_isGoalBlocked_31 rfl (lv_at hl 0 rfl) ?_
        refine lv_iconst (v := (-1)) hx hb dX4_isGoalBlocked_32 (by decide) ?_
        refine lv_icmp_eq (tgt := 48) hx hb dX4_isGoalBlocked_33 (by decide) (fun c16 => ?_) (fun c16 => ?_)
        · replace h := (k_if h).1 c16
          obtain ⟨v17, hvv17⟩ : ∃ y : Int32, y = a1 + (1) := ⟨_, rfl⟩
          replace h := k_bb h v17 hvv17
          refine lv_iinc (v := v17) (lv' := [(1, .int v17), (2, .int v15), (0, .ref (sz + b0))]) hx hb dX4_isGoalBlocked_48 hl (k := 2) rfl (by rw [hvv17]; rfl) (by decide) (by first | rfl | simp [rv_cat, cat_i, cat_l, cat_r, cat_n]) (fun ls hl => ?_)
          refine lv_goto (tgt := 2) hx hb dX4_isGoalBlocked_51 (by decide) ?_
          exact ih v17 H locs ls hM (lv_sub hl [2, 0] rfl) h hk
        · replace h := (k_if h).2 c16
          refine lv_aload_n hx hb dX4_isGoalBlocked_36 rfl (lv_at hl 1 rfl) ?_
          refine gs_X4_21 E hM ok2 dX4_isGoalBlocked_37 (fun x18 hxx18 => ?_)
          replace h := k_bb h x18 hxx18.symm
          refine lv_iload_n hx hb dX4_isGoalBlocked_40 rfl (lv_at hl 0 rfl) ?_
          rcases x18 with _ | k19
          · cases h
          rw [cs_s] at h
          obtain ⟨ok20, h⟩ := k_gd h
          refine m_iald E hM ok20 dX4_isGoalBlocked_41 ?_
          refine lv_iconst (v := (-1)) hx hb dX4_isGoalBlocked_42 (by decide) ?_
          refine lv_icmp_ne (tgt := 48) hx hb dX4_isGoalBlocked_43 (by decide) (fun c21 => ?_) (fun c21 => ?_)
          · replace h := (k_if h).2 c21
            obtain ⟨v22, hvv22⟩ : ∃ y : Int32, y = a1 + (1) := ⟨_, rfl⟩
            replace h := k_bb h v22 hvv22
            refine lv_iinc (v := v22) (lv' := [(1, .int v22), (2, .int v15), (0, .ref (sz + b0))]) hx hb dX4_isGoalBlocked_48 hl (k := 2) rfl (by rw [hvv22]; rfl) (by decide) (by first | rfl | simp [rv_cat, cat_i, cat_l, cat_r, cat_n]) (fun ls hl => ?_)
            refine lv_goto (tgt := 2) hx hb dX4_isGoalBlocked_51 (by decide) ?_
            exact ih v22 H locs ls hM (lv_sub hl [2, 0] rfl) h hk
          · replace h := (k_if h).1 c21
            refine lv_iconst (v := 1) hx hb dX4_isGoalBlocked_46 (by decide) ?_
            cases h
            exact m_zret hx hb hr hlk hM (by decide) rfl rfl dX4_isGoalBlocked_47

def f_X4_isGoalBlocked (r : Nat) (u : Mm) : Option (Int32) := L_X4_isGoalBlocked_2 r u (fun a23 => some (0 : Int32)) 1000 (0 : Int32) 
set_option maxHeartbeats 4000000 in
set_option maxRecDepth 100000 in
theorem c_X4_isGoalBlocked (l : Launch) (D : va_G) (cy : Nat → ClassId) (sz : Nat) (H0 : Heap) (u : Mm) (r : Nat) {res : Int32} (h : f_X4_isGoalBlocked r u = some res) : Ctr l yX4_isGoalBlocked cX4_isGoalBlocked 3 (some .boolean) rm_X4_isGoalBlocked 0 0 D cy sz H0 u [.ref (sz + r)] (some (.int res)) u := by
  refine m_start (lv := [(0, .ref (sz + r))]) (by decide) (by first | exact Nat.le_of_ble_eq_true rfl | simp [lg_sl, rv_cat, cat_i, cat_l, cat_r, cat_n]) (by first | rfl | simp [lv_args, rv_cat, cat_i, cat_l, cat_r, cat_n]) ?_
  intro p e s m below meth c ls E hr hlk hinit hM hl
  obtain ⟨hx, hb, hml, hown, hts, hKK⟩ := id E
  obtain ⟨H, hH⟩ : ∃ H, H = s.heap := ⟨_, rfl⟩
  obtain ⟨locs, hlocs⟩ : ∃ L : List Loc, L = [] := ⟨_, rfl⟩
  rw [← hH, ← hlocs] at hM ⊢
  unfold f_X4_isGoalBlocked at h
  refine lv_iconst (v := 0) hx hb dX4_isGoalBlocked_0 (by decide) ?_
  refine lv_istore_n (i := 1) (lv' := [(1, .int (0 : Int32)), (0, .ref (sz + r))]) hx hb dX4_isGoalBlocked_1 rfl hl (by decide) (by first | rfl | simp [rv_cat, cat_i, cat_l, cat_r, cat_n]) (fun ls hl => ?_)
  refine lp_X4_isGoalBlocked_2 hr hlk  E 1000 (0 : Int32) H locs ls hM (lv_sub hl [1, 0] rfl) h (fun a23 H locs ls hM hl h => ?_)
  refine lv_iconst (v := 0) hx hb dX4_isGoalBlocked_54 (by decide) ?_
  cases h
  exact m_zret hx hb hr hlk hM (by decide) rfl rfl dX4_isGoalBlocked_55

abbrev rm_X4_isGoalEmpty : Room := { frames := 0, cells := 0, slots := 0, locals := 0 }
def f_X4_isGoalEmpty (r : Nat) (p1 : Int32) (u : Mm) : Option (Int32) := gd (okO u r 4) (bb (gR u r 1) (fun x2 => cs x2 none (fun k3 => gd (okO u k3 1) (bb (gR u k3 1) (fun x5 => bb (gR u r 2) (fun x6 => cs x6 none (fun k7 => gd (okA u k7 9 p1) (cs x5 none (fun k9 => gd (okA u k9 9 (gI u k7 (Int32.toNatClampNeg p1))) ((if (gI u k9 (Int32.toNatClampNeg (gI u k7 (Int32.toNatClampNeg p1)))) = (-1 : Int32) then some (1 : Int32) else some (0 : Int32))))))))))))
set_option maxHeartbeats 4000000 in
set_option maxRecDepth 100000 in
theorem c_X4_isGoalEmpty (l : Launch) (D : va_G) (cy : Nat → ClassId) (sz : Nat) (H0 : Heap) (u : Mm) (r : Nat) (p1 : Int32) {res : Int32} (h : f_X4_isGoalEmpty r p1 u = some res) : Ctr l yX4_isGoalEmpty cX4_isGoalEmpty 2 (some .boolean) rm_X4_isGoalEmpty 0 0 D cy sz H0 u [.ref (sz + r), .int p1] (some (.int res)) u := by
  refine m_start (lv := [(0, .ref (sz + r)), (1, .int p1)]) (by decide) (by first | exact Nat.le_of_ble_eq_true rfl | simp [lg_sl, rv_cat, cat_i, cat_l, cat_r, cat_n]) (by first | rfl | simp [lv_args, rv_cat, cat_i, cat_l, cat_r, cat_n]) ?_
  intro p e s m below meth c ls E hr hlk hinit hM hl
  obtain ⟨hx, hb, hml, hown, hts, hKK⟩ := id E
  obtain ⟨H, hH⟩ : ∃ H, H = s.heap := ⟨_, rfl⟩
  obtain ⟨locs, hlocs⟩ : ∃ L : List Loc, L = [] := ⟨_, rfl⟩
  rw [← hH, ← hlocs] at hM ⊢
  unfold f_X4_isGoalEmpty at h
  refine lv_aload_n hx hb dX4_isGoalEmpty_0 rfl (lv_at hl 0 rfl) ?_
  obtain ⟨ok1, h⟩ := k_gd h
  refine gs_X4_18 E hM ok1 dX4_isGoalEmpty_1 (fun x2 hxx2 => ?_)
  replace h := k_bb h x2 hxx2.symm
  rcases x2 with _ | k3
  · cases h
  rw [cs_s] at h
  obtain ⟨ok4, h⟩ := k_gd h
  refine gs_X4_70 E hM ok4 dX4_isGoalEmpty_4 (fun x5 hxx5 => ?_)
  replace h := k_bb h x5 hxx5.symm
  refine lv_aload_n hx hb dX4_isGoalEmpty_7 rfl (lv_at hl 0 rfl) ?_
  refine gs_X4_21 E hM ok1 dX4_isGoalEmpty_8 (fun x6 hxx6 => ?_)
  replace h := k_bb h x6 hxx6.symm
  refine lv_iload_n hx hb dX4_isGoalEmpty_11 rfl (lv_at hl 1 rfl) ?_
  rcases x6 with _ | k7
  · cases h
  rw [cs_s] at h
  obtain ⟨ok8, h⟩ := k_gd h
  refine m_iald E hM ok8 dX4_isGoalEmpty_12 ?_
  rcases x5 with _ | k9
  · cases h
  rw [cs_s] at h
  obtain ⟨ok10, h⟩ := k_gd h
  refine m_iald E hM ok10 dX4_isGoalEmpty_13 ?_
  refine lv_iconst (v := (-1)) hx hb dX4_isGoalEmpty_14 (by decide) ?_
  refine lv_icmp_ne (tgt := 22) hx hb dX4_isGoalEmpty_15 (by decide) (fun c11 => ?_) (fun c11 => ?_)
  · replace h := (k_if h).2 c11
    refine lv_iconst (v := 0) hx hb dX4_isGoalEmpty_22 (by decide) ?_
    cases h
    exact m_zret hx hb hr hlk hM (by decide) rfl rfl dX4_isGoalEmpty_23
  · replace h := (k_if h).1 c11
    refine lv_iconst (v := 1) hx hb dX4_isGoalEmpty_18 (by decide) ?_
    refine lv_goto (tgt := 23) hx hb dX4_isGoalEmpty_19 (by decide) ?_
    cases h
    exact m_zret hx hb hr hlk hM (by decide) rfl rfl dX4_isGoalEmpty_23

