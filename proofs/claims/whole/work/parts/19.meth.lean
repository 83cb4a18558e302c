abbrev rm_X8_told : Room := { frames := 1, cells := 0, slots := 0, locals := 36 }
def L_X8_told_87 (b0 : Nat) (b1 : Int32) (b2 : Int32) (u : Mm) (k : Int32 → Int32 → Option ((Int32) × Mm)) : Nat → Int32 → Int32 → Option ((Int32) × Mm)
  | 0, _, _ => none
  | n + 1, a3, a4 => gd (okO u b0 8) ((if (gI u b0 7) ≤ a4 then k a3 a4 else bb (gR u b0 9) (fun x15 => cs x15 none (fun k16 => gd (okA u k16 9 a4) ((if (gI u k16 (Int32.toNatClampNeg a4)) = b1 then bb ((a3 + (1 : Int32))) (fun v21 => bb (a4 + (1)) (fun v22 => L_X8_told_87 b0 b1 b2 u k n v21 v22)) else bb ((a3 + (0 : Int32))) (fun v19 => bb (a4 + (1)) (fun v20 => L_X8_told_87 b0 b1 b2 u k n v19 v20))))))))
set_option maxHeartbeats 4000000 in
set_option maxRecDepth 100000 in
theorem lp_X8_told_87 {p : Program} {l : Launch} {e : Env} {s : State} {m : MethodId} {args : Array Value} {below : List Frame} {meth : Method} {c : Code} {D : va_G} {cy : Nat → ClassId} {sz : Nat} {H0 : Heap} {b0 : Nat} {b1 : Int32} {b2 : Int32} {u : Mm} {k : Int32 → Int32 → Option ((Int32) × Mm)} {res : (Int32) × Mm} (hr : meth.sig.returnType = (some .int)) (hlk : meth.locks = false) (E : EE p s m args c cX8_told 5 RX8 D cy) : ∀ (n : Nat) (a3 : Int32) (a4 : Int32) (H : Heap) (locs : List Loc) (ls : Array Slot), MM D cy sz H0 u H locs → lv_has ls 5 [(0, .ref (sz + b0)), (1, .int b1), (2, .int b2), (3, .int a3), (4, .int a4)] → L_X8_told_87 b0 b1 b2 u k n a3 a4 = some res → (∀ (a3 : Int32) (a4 : Int32) (H : Heap) (locs : List Loc) (ls : Array Slot), MM D cy sz H0 u H locs → lv_has ls 5 [(0, .ref (sz + b0)), (1, .int b1), (2, .int b2), (3, .int a3), (4, .int a4)] → k a3 a4 = some res → W p l e rm_X8_told s m args below meth c H locs 0 0 (MQ below (Post D cy sz H0 (some (.int res.1)) res.2) args s 0 0 (fun q => sz ≤ q)) (F0 m 121 ls [])) → W p l e rm_X8_told s m args below meth c H locs 0 0 (MQ below (Post D cy sz H0 (some (.int res.1)) res.2) args s 0 0 (fun q => sz ≤ q)) (F0 m 87 ls []) := by
  obtain ⟨hx, hb, hml, hown, hts, hKK⟩ := id E
  intro n
  induction n with
  | zero => intros; rename_i h _; cases h
  | succ n ih =>
    intro a3 a4 H locs ls hM hl h hk
    rw [L_X8_told_87] at h
    refine lv_iload hx hb dX8_told_87 (lv_at hl 4 rfl) ?_
    refine lv_aload_n hx hb dX8_told_89 rfl (lv_at hl 0 rfl) ?_
    obtain ⟨ok13, h⟩ := k_gd h
    refine gs_X8_118 E hM ok13 dX8_told_90 ?_
    refine lv_icmp_ge (tgt := 121) hx hb dX8_told_93 (by decide) (fun c14 => ?_) (fun c14 => ?_)
    · replace h := (k_if h).1 c14
      exact hk a3 a4 H locs ls hM (lv_sub hl [0, 1, 2, 3, 4] rfl) h
    · replace h := (k_if h).2 c14
      refine lv_iload_n hx hb dX8_told_96 rfl (lv_at hl 3 rfl) ?_
      refine lv_aload_n hx hb dX8_told_97 rfl (lv_at hl 0 rfl) ?_
      refine gs_X8_27 E hM ok13 dX8_told_98 (fun x15 hxx15 => ?_)
      replace h := k_bb h x15 hxx15.symm
      refine lv_iload hx hb dX8_told_101 (lv_at hl 4 rfl) ?_
      rcases x15 with _ | k16
      · cases h
      rw [cs_s] at h
      obtain ⟨ok17, h⟩ := k_gd h
      refine m_iald E hM ok17 dX8_told_103 ?_
      refine lv_iload_n hx hb dX8_told_104 rfl (lv_at hl 1 rfl) ?_
      refine lv_icmp_ne (tgt := 112) hx hb dX8_told_105 (by decide) (fun c18 => ?_) (fun c18 => ?_)
      · replace h := (k_if h).2 c18
        refine lv_iconst (v := 0) hx hb dX8_told_112 (by decide) ?_
        refine lv_iadd hx hb dX8_told_113 ?_
        refine lv_topi (fun v19 hvv19 => ?_)
        replace h := k_bb h v19 hvv19
        refine lv_istore_n (i := 3) (lv' := [(3, .int v19), (0, .ref (sz + b0)), (1, .int b1), (2, .int b2), (4, .int a4)]) hx hb dX8_told_114 rfl hl (by decide) (by first | rfl | simp [rv_cat, cat_i, cat_l, cat_r, cat_n]) (fun ls hl => ?_)
        obtain ⟨v20, hvv20⟩ : ∃ y : Int32, y = a4 + (1) := ⟨_, rfl⟩
        replace h := k_bb h v20 hvv20
        refine lv_iinc (v := v20) (lv' := [(4, .int v20), (3, .int v19), (0, .ref (sz + b0)), (1, .int b1), (2, .int b2)]) hx hb dX8_told_115 hl (k := 4) rfl (by rw [hvv20]; rfl) (by decide) (by first | rfl | simp [rv_cat, cat_i, cat_l, cat_r, cat_n]) (fun ls hl => ?_)
        refine lv_goto (tgt := 87) hx hb dX8_told_118 (by decide) ?_
        exact ih v19 v20 H locs ls hM (lv_sub hl [2, 3, 4, 1, 0] rfl) h hk
      · replace h := (k_if h).1 c18
        refine lv_iconst (v := 1) hx hb dX8_told_108 (by decide) ?_
        refine lv_goto (tgt := 113) hx hb dX8_told_109 (by decide) ?_
        refine lv_iadd hx hb dX8_told_113 ?_
        refine lv_topi (fun v21 hvv21 => ?_)
        replace h := k_bb h v21 hvv21
        refine lv_istore_n (i := 3) (lv' := [(3, .int v21), (0, .ref (sz + b0)), (1, .int b1), (2, .int b2), (4, .int a4)]) hx hb dX8_told_114 rfl hl (by decide) (by first | rfl | simp [rv_cat, cat_i, cat_l, cat_r, cat_n]) (fun ls hl => ?_)
        obtain ⟨v22, hvv22⟩ : ∃ y : Int32, y = a4 + (1) := ⟨_, rfl⟩
        replace h := k_bb h v22 hvv22
        refine lv_iinc (v := v22) (lv' := [(4, .int v22), (3, .int v21), (0, .ref (sz + b0)), (1, .int b1), (2, .int b2)]) hx hb dX8_told_115 hl (k := 4) rfl (by rw [hvv22]; rfl) (by decide) (by first | rfl | simp [rv_cat, cat_i, cat_l, cat_r, cat_n]) (fun ls hl => ?_)
        refine lv_goto (tgt := 87) hx hb dX8_told_118 (by decide) ?_
        exact ih v21 v22 H locs ls hM (lv_sub hl [2, 3, 4, 1, 0] rfl) h hk

def f_X8_told (r : Nat) (p1 : Int32) (p2 : Int32) (u : Mm) : Option ((Int32) × Mm) := gd (okO u r 8) (bd (f_X8_isThing r p1 (sI (sI u r 1 (0 : Int32)) r 0 (0 : Int32))) (fun w2 => (if w2 = 0 then bd (f_X8_refuse r (2 : Int32) (sI (sI u r 1 (0 : Int32)) r 0 (0 : Int32))) (fun w42 => some (w42.1, w42.2)) else (if p2 = 0 then bb (gR (sI (sI u r 1 (0 : Int32)) r 0 (0 : Int32)) r 8) (fun x5 => cs x5 none (fun k6 => gd (okA (sI (sI u r 1 (0 : Int32)) r 0 (0 : Int32)) k6 9 p1) (some ((gI (sI (sI u r 1 (0 : Int32)) r 0 (0 : Int32)) k6 (Int32.toNatClampNeg p1)), (sI (sI u r 1 (0 : Int32)) r 0 (0 : Int32)))))) else (if p2 = 1 then bb (gR (sI (sI u r 1 (0 : Int32)) r 0 (0 : Int32)) r 9) (fun x9 => cs x9 none (fun k10 => gd (okA (sI (sI u r 1 (0 : Int32)) r 0 (0 : Int32)) k10 9 p1) (some ((gI (sI (sI u r 1 (0 : Int32)) r 0 (0 : Int32)) k10 (Int32.toNatClampNeg p1)), (sI (sI u r 1 (0 : Int32)) r 0 (0 : Int32)))))) else (if p2 = 2 then L_X8_told_87 r p1 p2 (sI (sI u r 1 (0 : Int32)) r 0 (0 : Int32)) (fun a23 a24 => some (a23, (sI (sI u r 1 (0 : Int32)) r 0 (0 : Int32)))) 1000 (0 : Int32) (0 : Int32)  else (if p2 = 3 then bb (gR (sI (sI u r 1 (0 : Int32)) r 0 (0 : Int32)) r 10) (fun x26 => cs x26 none (fun k27 => gd (okA (sI (sI u r 1 (0 : Int32)) r 0 (0 : Int32)) k27 9 p1) (some ((gI (sI (sI u r 1 (0 : Int32)) r 0 (0 : Int32)) k27 (Int32.toNatClampNeg p1)), (sI (sI u r 1 (0 : Int32)) r 0 (0 : Int32)))))) else (if p2 = 4 then bb (gR (sI (sI u r 1 (0 : Int32)) r 0 (0 : Int32)) r 18) (fun x30 => cs x30 none (fun k31 => gd (okA (sI (sI u r 1 (0 : Int32)) r 0 (0 : Int32)) k31 9 p1) (some ((gI (sI (sI u r 1 (0 : Int32)) r 0 (0 : Int32)) k31 (Int32.toNatClampNeg p1)), (sI (sI u r 1 (0 : Int32)) r 0 (0 : Int32)))))) else (if p2 = 5 then bb (gR (sI (sI u r 1 (0 : Int32)) r 0 (0 : Int32)) r 19) (fun x34 => cs x34 none (fun k35 => gd (okA (sI (sI u r 1 (0 : Int32)) r 0 (0 : Int32)) k35 9 p1) (some ((gI (sI (sI u r 1 (0 : Int32)) r 0 (0 : Int32)) k35 (Int32.toNatClampNeg p1)), (sI (sI u r 1 (0 : Int32)) r 0 (0 : Int32)))))) else (if p2 = 6 then bb (gR (sI (sI u r 1 (0 : Int32)) r 0 (0 : Int32)) r 17) (fun x38 => cs x38 none (fun k39 => gd (okA (sI (sI u r 1 (0 : Int32)) r 0 (0 : Int32)) k39 9 p1) (some ((gI (sI (sI u r 1 (0 : Int32)) r 0 (0 : Int32)) k39 (Int32.toNatClampNeg p1)), (sI (sI u r 1 (0 : Int32)) r 0 (0 : Int32)))))) else (bd (f_X8_refuse r (5 : Int32) (sI (sI u r 1 (0 : Int32)) r 0 (0 : Int32))) (fun w41 => some (w41.1, w41.2)))))))))))))
set_option maxHeartbeats 4000000 in
set_option maxRecDepth 100000 in
theorem c_X8_told (l : Launch) (D : va_G) (cy : Nat → ClassId) (sz : Nat) (H0 : Heap) (u : Mm) (r : Nat) (p1 : Int32) (p2 : Int32) {res : (Int32) × Mm} (h : f_X8_told r p1 p2 u = some res) : Ctr l yX8_told cX8_told 5 (some .int) rm_X8_told 0 0 D cy sz H0 u [.ref (sz + r), .int p1, .int p2] (some (.int res.1)) res.2 := by
  refine m_start (lv := [(0, .ref (sz + r)), (1, .int p1), (2, .int p2)]) (by decide) (by first | exact Nat.le_of_ble_eq_true rfl | simp [lg_sl, rv_cat, cat_i, cat_l, cat_r, cat_n]) (by first | rfl | simp [lv_args, rv_cat, cat_i, cat_l, cat_r, cat_n]) ?_
  intro p e s m below meth c ls E hr hlk hinit hM hl
  obtain ⟨hx, hb, hml, hown, hts, hKK⟩ := id E
  obtain ⟨H, hH⟩ : ∃ H, H = s.heap := ⟨_, rfl⟩
  obtain ⟨locs, hlocs⟩ : ∃ L : List Loc, L = [] := ⟨_, rfl⟩
  rw [← hH, ← hlocs] at hM ⊢
  unfold f_X8_told at h
  refine lv_aload_n hx hb dX8_told_0 rfl (lv_at hl 0 rfl) ?_
  refine lv_iconst (v := 0) hx hb dX8_told_1 (by decide) ?_
  obtain ⟨ok1, h⟩ := k_gd h
  refine ps_X8_93 (v := (0 : Int32)) E hM ok1 dX8_told_2 (fun H locs hM => ?_)
  refine lv_aload_n hx hb dX8_told_5 rfl (lv_at hl 0 rfl) ?_
  refine lv_iconst (v := 0) hx hb dX8_told_6 (by decide) ?_
  refine ps_X8_97 (v := (0 : Int32)) E hM ok1 dX8_told_7 (fun H locs hM => ?_)
  refine lv_aload_n hx hb dX8_told_10 rfl (lv_at hl 0 rfl) ?_
  refine lv_iload_n hx hb dX8_told_11 rfl (lv_at hl 1 rfl) ?_
  obtain ⟨w2, hzw2, h⟩ := k_bd h
  refine m_callV (C := RX8) (T := TX8) (N := 33) (ci := 8) (n := 1) (As := [.int p1]) (rest := []) (st1 := (.int w2 :: [])) E hM hl.1 ok1 (by decide) rfl rfl (c_X8_isThing l D cy sz H0 (sI (sI u r 1 (0 : Int32)) r 0 (0 : Int32)) r p1 hzw2) wl_X8_124 wm_X8_isThing ws_X8_isThing wi_X8 wd_X8_isThing rfl rfl (by decide +kernel) ⟨by decide, by decide⟩ rfl rfl (by first | exact Nat.le_of_ble_eq_true rfl | simp [rv_cat, cat_i, cat_l, cat_r, cat_n]) dX8_told_12 ⟨by decide, by decide⟩ rfl (fun H locs hM => ?_)
  refine lv_if_ne (tgt := 24) hx hb dX8_told_15 (by decide) (fun c3 => ?_) (fun c3 => ?_)
  · replace h := (k_if h).2 c3
    refine lv_iload_n hx hb dX8_told_24 rfl (lv_at hl 2 rfl) ?_
    by_cases c4 : p2 = 0
    · replace h := (k_if h).1 c4
      refine m_tsw (k := 0) (tgt := 68) hx hb dX8_told_25 c4 (by decide) (by decide) rfl (by decide) ?_
      refine lv_aload_n hx hb dX8_told_68 rfl (lv_at hl 0 rfl) ?_
      refine gs_X8_24 E hM ok1 dX8_told_69 (fun x5 hxx5 => ?_)
      replace h := k_bb h x5 hxx5.symm
      refine lv_iload_n hx hb dX8_told_72 rfl (lv_at hl 1 rfl) ?_
      rcases x5 with _ | k6
      · cases h
      rw [cs_s] at h
      obtain ⟨ok7, h⟩ := k_gd h
      refine m_iald E hM ok7 dX8_told_73 ?_
      cases h
      exact m_iret hx hb hr hlk hM rfl rfl dX8_told_74
    replace h := (k_if h).2 c4
    by_cases c8 : p2 = 1
    · replace h := (k_if h).1 c8
      refine m_tsw (k := 1) (tgt := 75) hx hb dX8_told_25 c8 (by decide) (by decide) rfl (by decide) ?_
      refine lv_aload_n hx hb dX8_told_75 rfl (lv_at hl 0 rfl) ?_
      refine gs_X8_27 E hM ok1 dX8_told_76 (fun x9 hxx9 => ?_)
      replace h := k_bb h x9 hxx9.symm
      refine lv_iload_n hx hb dX8_told_79 rfl (lv_at hl 1 rfl) ?_
      rcases x9 with _ | k10
      · cases h
      rw [cs_s] at h
      obtain ⟨ok11, h⟩ := k_gd h
      refine m_iald E hM ok11 dX8_told_80 ?_
      cases h
      exact m_iret hx hb hr hlk hM rfl rfl dX8_told_81
    replace h := (k_if h).2 c8
    by_cases c12 : p2 = 2
    · replace h := (k_if h).1 c12
      refine m_tsw (k := 2) (tgt := 82) hx hb dX8_told_25 c12 (by decide) (by decide) rfl (by decide) ?_
      refine lv_iconst (v := 0) hx hb dX8_told_82 (by decide) ?_
      refine lv_istore_n (i := 3) (lv' := [(3, .int (0 : Int32)), (0, .ref (sz + r)), (1, .int p1), (2, .int p2)]) hx hb dX8_told_83 rfl hl (by decide) (by first | rfl | simp [rv_cat, cat_i, cat_l, cat_r, cat_n]) (fun ls hl => ?_)
      refine lv_iconst (v := 0) hx hb dX8_told_84 (by decide) ?_
      refine lv_istore (i := 4) (lv' := [(4, .int (0 : Int32)), (3, .int (0 : Int32)), (0, .ref (sz + r)), (1, .int p1), (2, .int p2)]) hx hb dX8_told_85 hl (by decide) (by first | rfl | simp [rv_cat, cat_i, cat_l, cat_r, cat_n]) (fun ls hl => ?_)
      refine lp_X8_told_87 hr hlk  E 1000 (0 : Int32) (0 : Int32) H locs ls hM (lv_sub hl [2, 3, 4, 1, 0] rfl) h (fun a23 a24 H locs ls hM hl h => ?_)
      refine lv_iload_n hx hb dX8_told_121 rfl (lv_at hl 3 rfl) ?_
      cases h
      exact m_iret hx hb hr hlk hM rfl rfl dX8_told_122
    replace h := (k_if h).2 c12
    by_cases c25 : p2 = 3
    · replace h := (k_if h).1 c25
      refine m_tsw (k := 3) (tgt := 123) hx hb dX8_told_25 c25 (by decide) (by decide) rfl (by decide) ?_
      refine lv_aload_n hx hb dX8_told_123 rfl (lv_at hl 0 rfl) ?_
      refine gs_X8_30 E hM ok1 dX8_told_124 (fun x26 hxx26 => ?_)
      replace h := k_bb h x26 hxx26.symm
      refine lv_iload_n hx hb dX8_told_127 rfl (lv_at hl 1 rfl) ?_
      rcases x26 with _ | k27
      · cases h
      rw [cs_s] at h
      obtain ⟨ok28, h⟩ := k_gd h
      refine m_iald E hM ok28 dX8_told_128 ?_
      cases h
      exact m_iret hx hb hr hlk hM rfl rfl dX8_told_129
    replace h := (k_if h).2 c25
    by_cases c29 : p2 = 4
    · replace h := (k_if h).1 c29
      refine m_tsw (k := 4) (tgt := 130) hx hb dX8_told_25 c29 (by decide) (by decide) rfl (by decide) ?_
      refine lv_aload_n hx hb dX8_told_130 rfl (lv_at hl 0 rfl) ?_
      refine gs_X8_54 E hM ok1 dX8_told_131 (fun x30 hxx30 => ?_)
      replace h := k_bb h x30 hxx30.symm
      refine lv_iload_n hx hb dX8_told_134 rfl (lv_at hl 1 rfl) ?_
      rcases x30 with _ | k31
      · cases h
      rw [cs_s] at h
      obtain ⟨ok32, h⟩ := k_gd h
      refine m_iald E hM ok32 dX8_told_135 ?_
      cases h
      exact m_iret hx hb hr hlk hM rfl rfl dX8_told_136
    replace h := (k_if h).2 c29
    by_cases c33 : p2 = 5
    · replace h := (k_if h).1 c33
      refine m_tsw (k := 5) (tgt := 137) hx hb dX8_told_25 c33 (by decide) (by decide) rfl (by decide) ?_
      refine lv_aload_n hx hb dX8_told_137 rfl (lv_at hl 0 rfl) ?_
      refine gs_X8_57 E hM ok1 dX8_told_138 (fun x34 hxx34 => ?_)
      replace h := k_bb h x34 hxx34.symm
      refine lv_iload_n hx hb dX8_told_141 rfl (lv_at hl 1 rfl) ?_
      rcases x34 with _ | k35
      · cases h
      rw [cs_s] at h
      obtain ⟨ok36, h⟩ := k_gd h
      refine m_iald E hM ok36 dX8_told_142 ?_
      cases h
      exact m_iret hx hb hr hlk hM rfl rfl dX8_told_143
    replace h := (k_if h).2 c33
    by_cases c37 : p2 = 6
    · replace h := (k_if h).1 c37
      refine m_tsw (k := 6) (tgt := 144) hx hb dX8_told_25 c37 (by decide) (by decide) rfl (by decide) ?_
      refine lv_aload_n hx hb dX8_told_144 rfl (lv_at hl 0 rfl) ?_
      refine gs_X8_51 E hM ok1 dX8_told_145 (fun x38 hxx38 => ?_)
      replace h := k_bb h x38 hxx38.symm
      refine lv_iload_n hx hb dX8_told_148 rfl (lv_at hl 1 rfl) ?_
      rcases x38 with _ | k39
      · cases h
      rw [cs_s] at h
      obtain ⟨ok40, h⟩ := k_gd h
      refine m_iald E hM ok40 dX8_told_149 ?_
      cases h
      exact m_iret hx hb hr hlk hM rfl rfl dX8_told_150
    replace h := (k_if h).2 c37
    refine lv_tableOut (tgt := 151) hx hb dX8_told_25 (by have qc4 := lv_neT (a := 0) c4 (by decide); have qc8 := lv_neT (a := 1) c8 (by decide); have qc12 := lv_neT (a := 2) c12 (by decide); have qc25 := lv_neT (a := 3) c25 (by decide); have qc29 := lv_neT (a := 4) c29 (by decide); have qc33 := lv_neT (a := 5) c33 (by decide); have qc37 := lv_neT (a := 6) c37 (by decide); omega) (by decide) ?_
    refine lv_aload_n hx hb dX8_told_151 rfl (lv_at hl 0 rfl) ?_
    refine lv_iconst (v := 5) hx hb dX8_told_152 (by decide) ?_
    obtain ⟨w41, hzw41, h⟩ := k_bd h
    refine m_callV (C := RX8) (T := TX8) (N := 33) (ci := 8) (n := 1) (As := [.int (5 : Int32)]) (rest := []) (st1 := (.int w41.1 :: [])) E hM hl.1 ok1 (by decide) rfl rfl (c_X8_refuse l D cy sz H0 (sI (sI u r 1 (0 : Int32)) r 0 (0 : Int32)) r (5 : Int32) hzw41) wl_X8_121 wm_X8_refuse ws_X8_refuse wi_X8 wd_X8_refuse rfl rfl (by decide +kernel) ⟨by decide, by decide⟩ rfl rfl (by first | exact Nat.le_of_ble_eq_true rfl | simp [rv_cat, cat_i, cat_l, cat_r, cat_n]) dX8_told_153 ⟨by decide, by decide⟩ rfl (fun H locs hM => ?_)
    cases h
    exact m_iret hx hb hr hlk hM rfl rfl dX8_told_156
  · replace h := (k_if h).1 c3
    refine lv_aload_n hx hb dX8_told_18 rfl (lv_at hl 0 rfl) ?_
    refine lv_iconst (v := 2) hx hb dX8_told_19 (by decide) ?_
    obtain ⟨w42, hzw42, h⟩ := k_bd h
    refine m_callV (C := RX8) (T := TX8) (N := 33) (ci := 8) (n := 1) (As := [.int (2 : Int32)]) (rest := []) (st1 := (.int w42.1 :: [])) E hM hl.1 ok1 (by decide) rfl rfl (c_X8_refuse l D cy sz H0 (sI (sI u r 1 (0 : Int32)) r 0 (0 : Int32)) r (2 : Int32) hzw42) wl_X8_121 wm_X8_refuse ws_X8_refuse wi_X8 wd_X8_refuse rfl rfl (by decide +kernel) ⟨by decide, by decide⟩ rfl rfl (by first | exact Nat.le_of_ble_eq_true rfl | simp [rv_cat, cat_i, cat_l, cat_r, cat_n]) dX8_told_20 ⟨by decide, by decide⟩ rfl (fun H locs hM => ?_)
    cases h
    exact m_iret hx hb hr hlk hM rfl rfl dX8_told_23

abbrev rm_X8_isField : Room := { frames := 0, cells := 0, slots := 0, locals := 0 }
def f_X8_isField (p1 : Int32) (u : Mm) : Option (Int32) := (if p1 < 0 then some (0 : Int32) else (if (6 : Int32) ≤ p1 then some (0 : Int32) else some (1 : Int32)))
set_option maxHeartbeats 4000000 in
set_option maxRecDepth 100000 in
theorem c_X8_isField (l : Launch) (D : va_G) (cy : Nat → ClassId) (sz : Nat) (H0 : Heap) (u : Mm) (p1 : Int32) {res : Int32} (h : f_X8_isField p1 u = some res) : Ctr l yX8_isField cX8_isField 1 (some .boolean) rm_X8_isField 0 0 D cy sz H0 u [.int p1] (some (.int res)) u := by
  refine m_start (lv := [(0, .int p1)]) (by decide) (by first | exact Nat.le_of_ble_eq_true rfl | simp [lg_sl, rv_cat, cat_i, cat_l, cat_r, cat_n]) (by first | rfl | simp [lv_args, rv_cat, cat_i, cat_l, cat_r, cat_n]) ?_
  intro p e s m below meth c ls E hr hlk hinit hM hl
  obtain ⟨hx, hb, hml, hown, hts, hKK⟩ := id E
  obtain ⟨H, hH⟩ : ∃ H, H = s.heap := ⟨_, rfl⟩
  obtain ⟨locs, hlocs⟩ : ∃ L : List Loc, L = [] := ⟨_, rfl⟩
  rw [← hH, ← hlocs] at hM ⊢
  unfold f_X8_isField at h
  refine lv_iload_n hx hb dX8_isField_0 rfl (lv_at hl 0 rfl) ?_
  refine lv_if_lt (tgt := 14) hx hb dX8_isField_1 (by decide) (fun c1 => ?_) (fun c1 => ?_)
  · replace h := (k_if h).1 c1
    refine lv_iconst (v := 0) hx hb dX8_isField_14 (by decide) ?_
    cases h
    exact m_zret hx hb hr hlk hM (by decide) rfl rfl dX8_isField_15
  · replace h := (k_if h).2 c1
    refine lv_iload_n hx hb dX8_isField_4 rfl (lv_at hl 0 rfl) ?_
    refine lv_bipush (v := 6) hx hb dX8_isField_5 (by decide) ?_
    refine lv_icmp_ge (tgt := 14) hx hb dX8_isField_7 (by decide) (fun c2 => ?_) (fun c2 => ?_)
    · replace h := (k_if h).1 c2
      refine lv_iconst (v := 0) hx hb dX8_isField_14 (by decide) ?_
      cases h
      exact m_zret hx hb hr hlk hM (by decide) rfl rfl dX8_isField_15
    · replace h := (k_if h).2 c2
      refine lv_iconst (v := 1) hx hb dX8_isField_10 (by decide) ?_
      refine lv_goto (tgt := 15) hx hb dX8_isField_11 (by decide) ?_
      cases h
      exact m_zret hx hb hr hlk hM (by decide) rfl rfl dX8_isField_15

abbrev rm_X8_say : Room := { frames := 1, cells := 0, slots := 0, locals := 36 }
def f_X8_say (r : Nat) (p1 : Int32) (p2 : Int32) (p3 : Int32) (u : Mm) : Option ((Int32) × Mm) := gd (okO u r 8) (bd (f_X8_isThing r p1 (sI (sI u r 1 (0 : Int32)) r 0 (0 : Int32))) (fun w2 => (if w2 = 0 then bd (f_X8_no r (2 : Int32) (sI (sI u r 1 (0 : Int32)) r 0 (0 : Int32))) (fun w4 => gd (isB w4.1) (some (w4.1, w4.2))) else bd (f_X8_isField p2 (sI (sI u r 1 (0 : Int32)) r 0 (0 : Int32))) (fun w6 => (if w6 = 0 then bd (f_X8_no r (2 : Int32) (sI (sI u r 1 (0 : Int32)) r 0 (0 : Int32))) (fun w17 => gd (isB w17.1) (some (w17.1, w17.2))) else (if p3 < (-1 : Int32) then bd (f_X8_no r (5 : Int32) (sI (sI u r 1 (0 : Int32)) r 0 (0 : Int32))) (fun w9 => gd (isB w9.1) (some (w9.1, w9.2))) else (if p3 ≤ (999 : Int32) then bb (gR (sI (sI u r 1 (0 : Int32)) r 0 (0 : Int32)) r 12) (fun x12 => cs x12 none (fun k13 => gd (okA (sI (sI u r 1 (0 : Int32)) r 0 (0 : Int32)) k13 9 (((6 : Int32) * p1) + p2)) (some ((1 : Int32), (sI (sI (sI u r 1 (0 : Int32)) r 0 (0 : Int32)) k13 (Int32.toNatClampNeg (((6 : Int32) * p1) + p2)) p3))))) else bd (f_X8_no r (5 : Int32) (sI (sI u r 1 (0 : Int32)) r 0 (0 : Int32))) (fun w15 => gd (isB w15.1) (some (w15.1, w15.2))))))))))
set_option maxHeartbeats 4000000 in
set_option maxRecDepth 100000 in
theorem c_X8_say (l : Launch) (D : va_G) (cy : Nat → ClassId) (sz : Nat) (H0 : Heap) (u : Mm) (r : Nat) (p1 : Int32) (p2 : Int32) (p3 : Int32) {res : (Int32) × Mm} (h : f_X8_say r p1 p2 p3 u = some res) : Ctr l yX8_say cX8_say 4 (some .boolean) rm_X8_say 0 0 D cy sz H0 u [.ref (sz + r), .int p1, .int p2, .int p3] (some (.int res.1)) res.2 := by
  refine m_start (lv := [(0, .ref (sz + r)), (1, .int p1), (2, .int p2), (3, .int p3)]) (by decide) (by first | exact Nat.le_of_ble_eq_true rfl | simp [lg_sl, rv_cat, cat_i, cat_l, cat_r, cat_n]) (by first | rfl | simp [lv_args, rv_cat, cat_i, cat_l, cat_r, cat_n]) ?_
  intro p e s m below meth c ls E hr hlk hinit hM hl
  obtain ⟨hx, hb, hml, hown, hts, hKK⟩ := id E
  obtain ⟨H, hH⟩ : ∃ H, H = s.heap := ⟨_, rfl⟩
  obtain ⟨locs, hlocs⟩ : ∃ L : List Loc, L = [] := ⟨_, rfl⟩
  rw [← hH, ← hlocs] at hM ⊢
  unfold f_X8_say at h
  refine lv_aload_n hx hb dX8_say_0 rfl (lv_at hl 0 rfl) ?_
  refine lv_iconst (v := 0) hx hb dX8_say_1 (by decide) ?_
  obtain ⟨ok1, h⟩ := k_gd h
  refine ps_X8_93 (v := (0 : Int32)) E hM ok1 dX8_say_2 (fun H locs hM => ?_)
  refine lv_aload_n hx hb dX8_say_5 rfl (lv_at hl 0 rfl) ?_
  refine lv_iconst (v := 0) hx hb dX8_say_6 (by decide) ?_
  refine ps_X8_97 (v := (0 : Int32)) E hM ok1 dX8_say_7 (fun H locs hM => ?_)
  refine lv_aload_n hx hb dX8_say_10 rfl (lv_at hl 0 rfl) ?_
  refine lv_iload_n hx hb dX8_say_11 rfl (lv_at hl 1 rfl) ?_
  obtain ⟨w2, hzw2, h⟩ := k_bd h
  refine m_callV (C := RX8) (T := TX8) (N := 33) (ci := 8) (n := 1) (As := [.int p1]) (rest := []) (st1 := (.int w2 :: [])) E hM hl.1 ok1 (by decide) rfl rfl (c_X8_isThing l D cy sz H0 (sI (sI u r 1 (0 : Int32)) r 0 (0 : Int32)) r p1 hzw2) wl_X8_124 wm_X8_isThing ws_X8_isThing wi_X8 wd_X8_isThing rfl rfl (by decide +kernel) ⟨by decide, by decide⟩ rfl rfl (by first | exact Nat.le_of_ble_eq_true rfl | simp [rv_cat, cat_i, cat_l, cat_r, cat_n]) dX8_say_12 ⟨by decide, by decide⟩ rfl (fun H locs hM => ?_)
  refine lv_if_eq (tgt := 25) hx hb dX8_say_15 (by decide) (fun c3 => ?_) (fun c3 => ?_)
  · replace h := (k_if h).1 c3
    refine lv_aload_n hx hb dX8_say_25 rfl (lv_at hl 0 rfl) ?_
    refine lv_iconst (v := 2) hx hb dX8_say_26 (by decide) ?_
    obtain ⟨w4, hzw4, h⟩ := k_bd h
    refine m_callV (C := RX8) (T := TX8) (N := 33) (ci := 8) (n := 1) (As := [.int (2 : Int32)]) (rest := []) (st1 := (.int w4.1 :: [])) E hM hl.1 ok1 (by decide) rfl rfl (c_X8_no l D cy sz H0 (sI (sI u r 1 (0 : Int32)) r 0 (0 : Int32)) r (2 : Int32) hzw4) wl_X8_100 wm_X8_no ws_X8_no wi_X8 wd_X8_no rfl rfl (by decide +kernel) ⟨by decide, by decide⟩ rfl rfl (by first | exact Nat.le_of_ble_eq_true rfl | simp [rv_cat, cat_i, cat_l, cat_r, cat_n]) dX8_say_27 ⟨by decide, by decide⟩ rfl (fun H locs hM => ?_)
    obtain ⟨hB5, h⟩ := k_gd h
    cases h
    exact m_zret hx hb hr hlk hM hB5 rfl rfl dX8_say_30
  · replace h := (k_if h).2 c3
    refine lv_iload_n hx hb dX8_say_18 rfl (lv_at hl 2 rfl) ?_
    obtain ⟨w6, hzw6, h⟩ := k_bd h
    refine m_callS (n := 1) (As := [.int p2]) (rest := []) (st1 := (.int w6 :: [])) E hM hl.1 (c_X8_isField l D cy sz H0 (sI (sI u r 1 (0 : Int32)) r 0 (0 : Int32)) p2 hzw6) wl_X8_127 wst_X8_isField wi_X8 wd_X8_isField rfl rfl (by decide +kernel) ⟨by decide, by decide⟩ rfl rfl (by first | exact Nat.le_of_ble_eq_true rfl | simp [rv_cat, cat_i, cat_l, cat_r, cat_n]) dX8_say_19 ⟨by decide, by decide⟩ rfl (fun H locs hM => ?_)
    refine lv_if_ne (tgt := 31) hx hb dX8_say_22 (by decide) (fun c7 => ?_) (fun c7 => ?_)
    · replace h := (k_if h).2 c7
      refine lv_iload_n hx hb dX8_say_31 rfl (lv_at hl 3 rfl) ?_
      refine lv_iconst (v := (-1)) hx hb dX8_say_32 (by decide) ?_
      refine lv_icmp_lt (tgt := 43) hx hb dX8_say_33 (by decide) (fun c8 => ?_) (fun c8 => ?_)
      · replace h := (k_if h).1 c8
        refine lv_aload_n hx hb dX8_say_43 rfl (lv_at hl 0 rfl) ?_
        refine lv_iconst (v := 5) hx hb dX8_say_44 (by decide) ?_
        obtain ⟨w9, hzw9, h⟩ := k_bd h
        refine m_callV (C := RX8) (T := TX8) (N := 33) (ci := 8) (n := 1) (As := [.int (5 : Int32)]) (rest := []) (st1 := (.int w9.1 :: [])) E hM hl.1 ok1 (by decide) rfl rfl (c_X8_no l D cy sz H0 (sI (sI u r 1 (0 : Int32)) r 0 (0 : Int32)) r (5 : Int32) hzw9) wl_X8_100 wm_X8_no ws_X8_no wi_X8 wd_X8_no rfl rfl (by decide +kernel) ⟨by decide, by decide⟩ rfl rfl (by first | exact Nat.le_of_ble_eq_true rfl | simp [rv_cat, cat_i, cat_l, cat_r, cat_n]) dX8_say_45 ⟨by decide, by decide⟩ rfl (fun H locs hM => ?_)
        obtain ⟨hB10, h⟩ := k_gd h
        cases h
        exact m_zret hx hb hr hlk hM hB10 rfl rfl dX8_say_48
      · replace h := (k_if h).2 c8
        refine lv_iload_n hx hb dX8_say_36 rfl (lv_at hl 3 rfl) ?_
        refine lv_sipush (v := 999) hx hb dX8_say_37 (by decide) ?_
        refine lv_icmp_le (tgt := 49) hx hb dX8_say_40 (by decide) (fun c11 => ?_) (fun c11 => ?_)
        · replace h := (k_if h).1 c11
          refine lv_aload_n hx hb dX8_say_49 rfl (lv_at hl 0 rfl) ?_
          refine gs_X8_36 E hM ok1 dX8_say_50 (fun x12 hxx12 => ?_)
          replace h := k_bb h x12 hxx12.symm
          refine lv_bipush (v := 6) hx hb dX8_say_53 (by decide) ?_
          refine lv_iload_n hx hb dX8_say_55 rfl (lv_at hl 1 rfl) ?_
          refine lv_imul hx hb dX8_say_56 ?_
          refine lv_iload_n hx hb dX8_say_57 rfl (lv_at hl 2 rfl) ?_
          refine lv_iadd hx hb dX8_say_58 ?_
          refine lv_iload_n hx hb dX8_say_59 rfl (lv_at hl 3 rfl) ?_
          rcases x12 with _ | k13
          · cases h
          rw [cs_s] at h
          obtain ⟨ok14, h⟩ := k_gd h
          refine m_iast E hM ok14 dX8_say_60 (fun H locs hM => ?_)
          refine lv_iconst (v := 1) hx hb dX8_say_61 (by decide) ?_
          cases h
          exact m_zret hx hb hr hlk hM (by decide) rfl rfl dX8_say_62
        · replace h := (k_if h).2 c11
          refine lv_aload_n hx hb dX8_say_43 rfl (lv_at hl 0 rfl) ?_
          refine lv_iconst (v := 5) hx hb dX8_say_44 (by decide) ?_
          obtain ⟨w15, hzw15, h⟩ := k_bd h
          refine m_callV (C := RX8) (T := TX8) (N := 33) (ci := 8) (n := 1) (As := [.int (5 : Int32)]) (rest := []) (st1 := (.int w15.1 :: [])) E hM hl.1 ok1 (by decide) rfl rfl (c_X8_no l D cy sz H0 (sI (sI u r 1 (0 : Int32)) r 0 (0 : Int32)) r (5 : Int32) hzw15) wl_X8_100 wm_X8_no ws_X8_no wi_X8 wd_X8_no rfl rfl (by decide +kernel) ⟨by decide, by decide⟩ rfl rfl (by first | exact Nat.le_of_ble_eq_true rfl | simp [rv_cat, cat_i, cat_l, cat_r, cat_n]) dX8_say_45 ⟨by decide, by decide⟩ rfl (fun H locs hM => ?_)
          obtain ⟨hB16, h⟩ := k_gd h
          cases h
          exact m_zret hx hb hr hlk hM hB16 rfl rfl dX8_say_48
    · replace h := (k_if h).1 c7
      refine lv_aload_n hx hb dX8_say_25 rfl (lv_at hl 0 rfl) ?_
      refine lv_iconst (v := 2) hx hb dX8_say_26 (by decide) ?_
      obtain ⟨w17, hzw17, h⟩ := k_bd h
      refine m_callV (C := RX8) (T := TX8) (N := 33) (ci := 8) (n := 1) (As := [.int (2 : Int32)]) (rest := []) (st1 := (.int w17.1 :: [])) E hM hl.1 ok1 (by decide) rfl rfl (c_X8_no l D cy sz H0 (sI (sI u r 1 (0 : Int32)) r 0 (0 : Int32)) r (2 : Int32) hzw17) wl_X8_100 wm_X8_no ws_X8_no wi_X8 wd_X8_no rfl rfl (by decide +kernel) ⟨by decide, by decide⟩ rfl rfl (by first | exact Nat.le_of_ble_eq_true rfl | simp [rv_cat, cat_i, cat_l, cat_r, cat_n]) dX8_say_27 ⟨by decide, by decide⟩ rfl (fun H locs hM => ?_)
      obtain ⟨hB18, h⟩ := k_gd h
      cases h
      exact m_zret hx hb hr hlk hM hB18 rfl rfl dX8_say_30

abbrev rm_X8_hasOf : Room := { frames := 0, cells := 0, slots := 0, locals := 0 }
def L_X8_hasOf_2 (b0 : Nat) (b1 : Int32) (b2 : Int32) (u : Mm) (k : Int32 → Option (Int32)) : Nat → Int32 → Option (Int32)
  | 0, _ => none
  | n + 1, a3 => (if a3 < 0 then k a3 else gd (okO u b0 8) (bb (gR u b0 12) (fun x3 => cs x3 none (fun k4 => gd (okA u k4 9 (((6 : Int32) * a3) + b2)) ((if 0 ≤ (gI u k4 (Int32.toNatClampNeg (((6 : Int32) * a3) + b2))) then k a3 else bb (gR u b0 9) (fun x7 => cs x7 none (fun k8 => gd (okA u k8 9 a3) (bb ((gI u k8 (Int32.toNatClampNeg a3))) (fun v10 => L_X8_hasOf_2 b0 b1 b2 u k n v10))))))))))
set_option maxHeartbeats 4000000 in
set_option maxRecDepth 100000 in
theorem lp_X8_hasOf_2 {p : Program} {l : Launch} {e : Env} {s : State} {m : MethodId} {args : Array Value} {below : List Frame} {meth : Method} {c : Code} {D : va_G} {cy : Nat → ClassId} {sz : Nat} {H0 : Heap} {b0 : Nat} {b1 : Int32} {b2 : Int32} {u : Mm} {k : Int32 → Option (Int32)} {res : Int32} (hr : meth.sig.returnType = (some .int)) (hlk : meth.locks = false) (E : EE p s m args c cX8_hasOf 4 RX8 D cy) : ∀ (n : Nat) (a3 : Int32) (H : Heap) (locs : List Loc) (ls : Array Slot), MM D cy sz H0 u H locs → lv_has ls 4 [(0, .ref (sz + b0)), (1, .int b1), (2, .int b2), (3, .int a3)] → L_X8_hasOf_2 b0 b1 b2 u k n a3 = some res → (∀ (a3 : Int32) (H : Heap) (locs : List Loc) (ls : Array Slot), MM D cy sz H0 u H locs → lv_has ls 4 [(0, .ref (sz + b0)), (1, .int b1), (2, .int b2), (3, .int a3)] → k a3 = some res → W p l e rm_X8_hasOf s m args below meth c H locs 0 0 (MQ below (Post D cy sz H0 (some (.int res)) u) args s 0 0 (fun q => sz ≤ q)) (F0 m 30 ls [])) → W p l e rm_X8_hasOf s m args below meth c H locs 0 0 (MQ below (Post D cy sz H0 (some (.int res)) u) args s 0 0 (fun q => sz ≤ q)) (F0 m 2 ls []) := by
  obtain ⟨hx, hb, hml, hown, hts, hKK⟩ := id E
  intro n
  induction n with
  | zero => intros; rename_i h _; cases h
  | succ n ih =>
    intro a3 H locs ls hM hl h hk
    rw [L_X8_hasOf_2] at h
    refine lv_iload_n hx hb dX8_hasOf_2 rfl (lv_at hl 3 rfl) ?_
    refine lv_if_lt (tgt := 30) hx hb dX8_hasOf_3 (by decide) (fun c1 => ?_) (fun c1 => ?_)
    · replace h := (k_if h).1 c1
      exact hk a3 H locs ls hM (lv_sub hl [0, 1, 2, 3] rfl) h
    · replace h := (k_if h).2 c1
      refine lv_aload_n hx hb dX8_hasOf_6 rfl (lv_at hl 0 rfl) ?_
      obtain ⟨ok2, h⟩ := k_gd h
      refine gs_X8_36 E hM ok2 dX8_hasOf_7 (fun x3 hxx3 => ?_)
      replace h := k_bb h x3 hxx3.symm
      refine lv_bipush (v := 6) hx hb dX8_hasOf_10 (by decide) ?_
      refine lv_iload_n hx hb dX8_hasOf_12 rfl (lv_at hl 3 rfl) ?_
      refine lv_imul hx hb dX8_hasOf_13 ?_
      refine lv_iload_n hx hb dX8_hasOf_14 rfl (lv_at hl 2 rfl) ?_
      refine lv_iadd hx hb dX8_hasOf_15 ?_
      rcases x3 with _ | k4
      · cases h
      rw [cs_s] at h
      obtain ⟨ok5, h⟩ := k_gd h
      refine m_iald E hM ok5 dX8_hasOf_16 ?_
      refine lv_if_ge (tgt := 30) hx hb dX8_hasOf_17 (by decide) (fun c6 => ?_) (fun c6 => ?_)
      · replace h := (k_if h).1 c6
        exact hk a3 H locs ls hM (lv_sub hl [0, 1, 2, 3] rfl) h
      · replace h := (k_if h).2 c6
        refine lv_aload_n hx hb dX8_hasOf_20 rfl (lv_at hl 0 rfl) ?_
        refine gs_X8_27 E hM ok2 dX8_hasOf_21 (fun x7 hxx7 => ?_)
        replace h := k_bb h x7 hxx7.symm
        refine lv_iload_n hx hb dX8_hasOf_24 rfl (lv_at hl 3 rfl) ?_
        rcases x7 with _ | k8
        · cases h
        rw [cs_s] at h
        obtain ⟨ok9, h⟩ := k_gd h
        refine m_iald E hM ok9 dX8_hasOf_25 ?_
        refine lv_topi (fun v10 hvv10 => ?_)
        replace h := k_bb h v10 hvv10
        refine lv_istore_n (i := 3) (lv' := [(3, .int v10), (0, .ref (sz + b0)), (1, .int b1), (2, .int b2)]) hx hb dX8_hasOf_26 rfl hl (by decide) (by first | rfl | simp [rv_cat, cat_i, cat_l, cat_r, cat_n]) (fun ls hl => ?_)
        refine lv_goto (tgt := 2) hx hb dX8_hasOf_27 (by decide) ?_
        exact ih v10 H locs ls hM (lv_sub hl [1, 2, 3, 0] rfl) h hk

def f_X8_hasOf (r : Nat) (p1 : Int32) (p2 : Int32) (u : Mm) : Option (Int32) := L_X8_hasOf_2 r p1 p2 u (fun a11 => (if 0 ≤ a11 then gd (okO u r 8) (bb (gR u r 12) (fun x14 => cs x14 none (fun k15 => gd (okA u k15 9 (((6 : Int32) * a11) + p2)) (some (gI u k15 (Int32.toNatClampNeg (((6 : Int32) * a11) + p2))))))) else some (-1 : Int32))) 1000 p1 
set_option maxHeartbeats 4000000 in
set_option maxRecDepth 100000 in
theorem c_X8_hasOf (l : Launch) (D : va_G) (cy : Nat → ClassId) (sz : Nat) (H0 : Heap) (u : Mm) (r : Nat) (p1 : Int32) (p2 : Int32) {res : Int32} (h : f_X8_hasOf r p1 p2 u = some res) : Ctr l yX8_hasOf cX8_hasOf 4 (some .int) rm_X8_hasOf 0 0 D cy sz H0 u [.ref (sz + r), .int p1, .int p2] (some (.int res)) u := by
  refine m_start (lv := [(0, .ref (sz + r)), (1, .int p1), (2, .int p2)]) (by decide) (by first | exact Nat.le_of_ble_eq_true rfl | simp [lg_sl, rv_cat, cat_i, cat_l, cat_r, cat_n]) (by first | rfl | simp [lv_args, rv_cat, cat_i, cat_l, cat_r, cat_n]) ?_
  intro p e s m below meth c ls E hr hlk hinit hM hl
  obtain ⟨hx, hb, hml, hown, hts, hKK⟩ := id E
  obtain ⟨H, hH⟩ : ∃ H, H = s.heap := ⟨_, rfl⟩
  obtain ⟨locs, hlocs⟩ : ∃ L : List Loc, L = [] := ⟨_, rfl⟩
  rw [← hH, ← hlocs] at hM ⊢
  unfold f_X8_hasOf at h
  refine lv_iload_n hx hb dX8_hasOf_0 rfl (lv_at hl 1 rfl) ?_
  refine lv_istore_n (i := 3) (lv' := [(3, .int p1), (0, .ref (sz + r)), (1, .int p1), (2, .int p2)]) hx hb dX8_hasOf_1 rfl hl (by decide) (by first | rfl | simp [rv_cat, cat_i, cat_l, cat_r, cat_n]) (fun ls hl => ?_)
  refine lp_X8_hasOf_2 hr hlk  E 1000 p1 H locs ls hM (lv_sub hl [1, 2, 3, 0] rfl) h (fun a11 H locs ls hM hl h => ?_)
  refine lv_iload_n hx hb dX8_hasOf_30 rfl (lv_at hl 3 rfl) ?_
  refine lv_if_ge (tgt := 38) hx hb dX8_hasOf_31 (by decide) (fun c12 => ?_) (fun c12 => ?_)
  · replace h := (k_if h).1 c12
    refine lv_aload_n hx hb dX8_hasOf_38 rfl (lv_at hl 0 rfl) ?_
    obtain ⟨ok13, h⟩ := k_gd h
    refine gs_X8_36 E hM ok13 dX8_hasOf_39 (fun x14 hxx14 => ?_)
    replace h := k_bb h x14 hxx14.symm
    refine lv_bipush (v := 6) hx hb dX8_hasOf_42 (by decide) ?_
    refine lv_iload_n hx hb dX8_hasOf_44 rfl (lv_at hl 3 rfl) ?_
    refine lv_imul hx hb dX8_hasOf_45 ?_
    refine lv_iload_n hx hb dX8_hasOf_46 rfl (lv_at hl 2 rfl) ?_
    refine lv_iadd hx hb dX8_hasOf_47 ?_
    rcases x14 with _ | k15
    · cases h
    rw [cs_s] at h
    obtain ⟨ok16, h⟩ := k_gd h
    refine m_iald E hM ok16 dX8_hasOf_48 ?_
    cases h
    exact m_iret hx hb hr hlk hM rfl rfl dX8_hasOf_49
  · replace h := (k_if h).2 c12
    refine lv_iconst (v := (-1)) hx hb dX8_hasOf_34 (by decide) ?_
    refine lv_goto (tgt := 49) hx hb dX8_hasOf_35 (by decide) ?_
    cases h
    exact m_iret hx hb hr hlk hM rfl rfl dX8_hasOf_49

abbrev rm_X8_has : Room := { frames := 1, cells := 0, slots := 0, locals := 36 }
def f_X8_has (r : Nat) (p1 : Int32) (p2 : Int32) (u : Mm) : Option ((Int32) × Mm) := gd (okO u r 8) (bd (f_X8_isThing r p1 (sI (sI u r 1 (0 : Int32)) r 0 (0 : Int32))) (fun w2 => (if w2 = 0 then bd (f_X8_refuse r (2 : Int32) (sI (sI u r 1 (0 : Int32)) r 0 (0 : Int32))) (fun w4 => some (w4.1, w4.2)) else bd (f_X8_isField p2 (sI (sI u r 1 (0 : Int32)) r 0 (0 : Int32))) (fun w5 => (if w5 = 0 then bd (f_X8_refuse r (2 : Int32) (sI (sI u r 1 (0 : Int32)) r 0 (0 : Int32))) (fun w10 => some (w10.1, w10.2)) else bd (f_X8_hasOf r p1 p2 (sI (sI u r 1 (0 : Int32)) r 0 (0 : Int32))) (fun w7 => (if 0 ≤ w7 then some (w7, (sI (sI u r 1 (0 : Int32)) r 0 (0 : Int32))) else bd (f_X8_refuse r (9 : Int32) (sI (sI u r 1 (0 : Int32)) r 0 (0 : Int32))) (fun w9 => some (w9.1, w9.2)))))))))
set_option maxHeartbeats 4000000 in
set_option maxRecDepth 100000 in
theorem c_X8_has (l : Launch) (D : va_G) (cy : Nat → ClassId) (sz : Nat) (H0 : Heap) (u : Mm) (r : Nat) (p1 : Int32) (p2 : Int32) {res : (Int32) × Mm} (h : f_X8_has r p1 p2 u = some res) : Ctr l yX8_has cX8_has 4 (some .int) rm_X8_has 0 0 D cy sz H0 u [.ref (sz + r), .int p1, .int p2] (some (.int res.1)) res.2 := by
  refine m_start (lv := [(0, .ref (sz + r)), (1, .int p1), (2, .int p2)]) (by decide) (by first | exact Nat.le_of_ble_eq_true rfl | simp [lg_sl, rv_cat, cat_i, cat_l, cat_r, cat_n]) (by first | rfl | simp [lv_args, rv_cat, cat_i, cat_l, cat_r, cat_n]) ?_
  intro p e s m below meth c ls E hr hlk hinit hM hl
  obtain ⟨hx, hb, hml, hown, hts, hKK⟩ := id E
  obtain ⟨H, hH⟩ : ∃ H, H = s.heap := ⟨_, rfl⟩
  obtain ⟨locs, hlocs⟩ : ∃ L : List Loc, L = [] := ⟨_, rfl⟩
  rw [← hH, ← hlocs] at hM ⊢
  unfold f_X8_has at h
  refine lv_aload_n hx hb dX8_has_0 rfl (lv_at hl 0 rfl) ?_
  refine lv_iconst (v := 0) hx hb dX8_has_1 (by decide) ?_
  obtain ⟨ok1, h⟩ := k_gd h
  refine ps_X8_93 (v := (0 : Int32)) E hM ok1 dX8_has_2 (fun H locs hM => ?_)
  refine lv_aload_n hx hb dX8_has_5 rfl (lv_at hl 0 rfl) ?_
  refine lv_iconst (v := 0) hx hb dX8_has_6 (by decide) ?_
  refine ps_X8_97 (v := (0 : Int32)) E hM ok1 dX8_has_7 (fun H locs hM => ?_)
  refine lv_aload_n hx hb dX8_has_10 rfl (lv_at hl 0 rfl) ?_
  refine lv_iload_n hx hb dX8_has_11 rfl (lv_at hl 1 rfl) ?_
  obtain ⟨w2, hzw2, h⟩ := k_bd h
  refine m_callV (C := RX8) (T := TX8) (N := 33) (ci := 8) (n := 1) (As := [.int p1]) (rest := []) (st1 := (.int w2 :: [])) E hM hl.1 ok1 (by decide) rfl rfl (c_X8_isThing l D cy sz H0 (sI (sI u r 1 (0 : Int32)) r 0 (0 : Int32)) r p1 hzw2) wl_X8_124 wm_X8_isThing ws_X8_isThing wi_X8 wd_X8_isThing rfl rfl (by decide +kernel) ⟨by decide, by decide⟩ rfl rfl (by first | exact Nat.le_of_ble_eq_true rfl | simp [rv_cat, cat_i, cat_l, cat_r, cat_n]) dX8_has_12 ⟨by decide, by decide⟩ rfl (fun H locs hM => ?_)
  refine lv_if_eq (tgt := 25) hx hb dX8_has_15 (by decide) (fun c3 => ?_) (fun c3 => ?_)
  · replace h := (k_if h).1 c3
    refine lv_aload_n hx hb dX8_has_25 rfl (lv_at hl 0 rfl) ?_
    refine lv_iconst (v := 2) hx hb dX8_has_26 (by decide) ?_
    obtain ⟨w4, hzw4, h⟩ := k_bd h
    refine m_callV (C := RX8) (T := TX8) (N := 33) (ci := 8) (n := 1) (As := [.int (2 : Int32)]) (rest := []) (st1 := (.int w4.1 :: [])) E hM hl.1 ok1 (by decide) rfl rfl (c_X8_refuse l D cy sz H0 (sI (sI u r 1 (0 : Int32)) r 0 (0 : Int32)) r (2 : Int32) hzw4) wl_X8_121 wm_X8_refuse ws_X8_refuse wi_X8 wd_X8_refuse rfl rfl (by decide +kernel) ⟨by decide, by decide⟩ rfl rfl (by first | exact Nat.le_of_ble_eq_true rfl | simp [rv_cat, cat_i, cat_l, cat_r, cat_n]) dX8_has_27 ⟨by decide, by decide⟩ rfl (fun H locs hM => ?_)
    cases h
    exact m_iret hx hb hr hlk hM rfl rfl dX8_has_30
  · replace h := (k_if h).2 c3
    refine lv_iload_n hx hb dX8_has_18 rfl (lv_at hl 2 rfl) ?_
    obtain ⟨w5, hzw5, h⟩ := k_bd h
    refine m_callS (n := 1) (As := [.int p2]) (rest := []) (st1 := (.int w5 :: [])) E hM hl.1 (c_X8_isField l D cy sz H0 (sI (sI u r 1 (0 : Int32)) r 0 (0 : Int32)) p2 hzw5) wl_X8_127 wst_X8_isField wi_X8 wd_X8_isField rfl rfl (by decide +kernel) ⟨by decide, by decide⟩ rfl rfl (by first | exact Nat.le_of_ble_eq_true rfl | simp [rv_cat, cat_i, cat_l, cat_r, cat_n]) dX8_has_19 ⟨by decide, by decide⟩ rfl (fun H locs hM => ?_)
    refine lv_if_ne (tgt := 31) hx hb dX8_has_22 (by decide) (fun c6 => ?_) (fun c6 => ?_)
    · replace h := (k_if h).2 c6
      refine lv_aload_n hx hb dX8_has_31 rfl (lv_at hl 0 rfl) ?_
      refine lv_iload_n hx hb dX8_has_32 rfl (lv_at hl 1 rfl) ?_
      refine lv_iload_n hx hb dX8_has_33 rfl (lv_at hl 2 rfl) ?_
      obtain ⟨w7, hzw7, h⟩ := k_bd h
      refine m_callV (C := RX8) (T := TX8) (N := 33) (ci := 8) (n := 2) (As := [.int p1, .int p2]) (rest := []) (st1 := (.int w7 :: [])) E hM hl.1 ok1 (by decide) rfl rfl (c_X8_hasOf l D cy sz H0 (sI (sI u r 1 (0 : Int32)) r 0 (0 : Int32)) r p1 p2 hzw7) wl_X8_130 wm_X8_hasOf ws_X8_hasOf wi_X8 wd_X8_hasOf rfl rfl (by decide +kernel) ⟨by decide, by decide⟩ rfl rfl (by first | exact Nat.le_of_ble_eq_true rfl | simp [rv_cat, cat_i, cat_l, cat_r, cat_n]) dX8_has_34 ⟨by decide, by decide⟩ rfl (fun H locs hM => ?_)
      refine lv_istore_n (i := 3) (lv' := [(3, .int w7), (0, .ref (sz + r)), (1, .int p1), (2, .int p2)]) hx hb dX8_has_37 rfl hl (by decide) (by first | rfl | simp [rv_cat, cat_i, cat_l, cat_r, cat_n]) (fun ls hl => ?_)
      refine lv_iload_n hx hb dX8_has_38 rfl (lv_at hl 0 rfl) ?_
      refine lv_if_ge (tgt := 51) hx hb dX8_has_39 (by decide) (fun c8 => ?_) (fun c8 => ?_)
      · replace h := (k_if h).1 c8
        refine lv_iload_n hx hb dX8_has_51 rfl (lv_at hl 0 rfl) ?_
        cases h
        exact m_iret hx hb hr hlk hM rfl rfl dX8_has_52
      · replace h := (k_if h).2 c8
        refine lv_aload_n hx hb dX8_has_42 rfl (lv_at hl 1 rfl) ?_
        refine lv_bipush (v := 9) hx hb dX8_has_43 (by decide) ?_
        obtain ⟨w9, hzw9, h⟩ := k_bd h
        refine m_callV (C := RX8) (T := TX8) (N := 33) (ci := 8) (n := 1) (As := [.int (9 : Int32)]) (rest := []) (st1 := (.int w9.1 :: [])) E hM hl.1 ok1 (by decide) rfl rfl (c_X8_refuse l D cy sz H0 (sI (sI u r 1 (0 : Int32)) r 0 (0 : Int32)) r (9 : Int32) hzw9) wl_X8_121 wm_X8_refuse ws_X8_refuse wi_X8 wd_X8_refuse rfl rfl (by decide +kernel) ⟨by decide, by decide⟩ rfl rfl (by first | exact Nat.le_of_ble_eq_true rfl | simp [rv_cat, cat_i, cat_l, cat_r, cat_n]) dX8_has_45 ⟨by decide, by decide⟩ rfl (fun H locs hM => ?_)
        refine lv_goto (tgt := 52) hx hb dX8_has_48 (by decide) ?_
        cases h
        exact m_iret hx hb hr hlk hM rfl rfl dX8_has_52
    · replace h := (k_if h).1 c6
      refine lv_aload_n hx hb dX8_has_25 rfl (lv_at hl 0 rfl) ?_
      refine lv_iconst (v := 2) hx hb dX8_has_26 (by decide) ?_
      obtain ⟨w10, hzw10, h⟩ := k_bd h
      refine m_callV (C := RX8) (T := TX8) (N := 33) (ci := 8) (n := 1) (As := [.int (2 : Int32)]) (rest := []) (st1 := (.int w10.1 :: [])) E hM hl.1 ok1 (by decide) rfl rfl (c_X8_refuse l D cy sz H0 (sI (sI u r 1 (0 : Int32)) r 0 (0 : Int32)) r (2 : Int32) hzw10) wl_X8_121 wm_X8_refuse ws_X8_refuse wi_X8 wd_X8_refuse rfl rfl (by decide +kernel) ⟨by decide, by decide⟩ rfl rfl (by first | exact Nat.le_of_ble_eq_true rfl | simp [rv_cat, cat_i, cat_l, cat_r, cat_n]) dX8_has_27 ⟨by decide, by decide⟩ rfl (fun H locs hM => ?_)
      cases h
      exact m_iret hx hb hr hlk hM rfl rfl dX8_has_30

abbrev rm_X8_span : Room := { frames := 1, cells := 0, slots := 0, locals := 36 }
def f_X8_span (r : Nat) (p1 : Int32) (p2 : Int32) (p3 : Int32) (u : Mm) : Option ((Int32) × Mm) := gd (okO u r 8) (bd (f_X8_isThing r p1 (sI (sI u r 1 (0 : Int32)) r 0 (0 : Int32))) (fun w2 => (if w2 = 0 then bd (f_X8_no r (2 : Int32) (sI (sI u r 1 (0 : Int32)) r 0 (0 : Int32))) (fun w19 => gd (isB w19.1) (some (w19.1, w19.2))) else (if p2 < 0 then bd (f_X8_no r (5 : Int32) (sI (sI u r 1 (0 : Int32)) r 0 (0 : Int32))) (fun w5 => gd (isB w5.1) (some (w5.1, w5.2))) else (if (100000 : Int32) < p3 then bd (f_X8_no r (5 : Int32) (sI (sI u r 1 (0 : Int32)) r 0 (0 : Int32))) (fun w8 => gd (isB w8.1) (some (w8.1, w8.2))) else (if p2 ≤ p3 then bb (gR (sI (sI u r 1 (0 : Int32)) r 0 (0 : Int32)) r 13) (fun x11 => cs x11 none (fun k12 => gd (okA (sI (sI u r 1 (0 : Int32)) r 0 (0 : Int32)) k12 9 p1) (bb (gR (sI (sI (sI u r 1 (0 : Int32)) r 0 (0 : Int32)) k12 (Int32.toNatClampNeg p1) p2) r 14) (fun x14 => cs x14 none (fun k15 => gd (okA (sI (sI (sI u r 1 (0 : Int32)) r 0 (0 : Int32)) k12 (Int32.toNatClampNeg p1) p2) k15 9 p1) (some ((1 : Int32), (sI (sI (sI (sI u r 1 (0 : Int32)) r 0 (0 : Int32)) k12 (Int32.toNatClampNeg p1) p2) k15 (Int32.toNatClampNeg p1) p3)))))))) else bd (f_X8_no r (5 : Int32) (sI (sI u r 1 (0 : Int32)) r 0 (0 : Int32))) (fun w17 => gd (isB w17.1) (some (w17.1, w17.2)))))))))
set_option maxHeartbeats 4000000 in
set_option maxRecDepth 100000 in
theorem c_X8_span (l : Launch) (D : va_G) (cy : Nat → ClassId) (sz : Nat) (H0 : Heap) (u : Mm) (r : Nat) (p1 : Int32) (p2 : Int32) (p3 : Int32) {res : (Int32) × Mm} (h : f_X8_span r p1 p2 p3 u = some res) : Ctr l yX8_span cX8_span 4 (some .boolean) rm_X8_span 0 0 D cy sz H0 u [.ref (sz + r), .int p1, .int p2, .int p3] (some (.int res.1)) res.2 := by
  refine m_start (lv := [(0, .ref (sz + r)), (1, .int p1), (2, .int p2), (3, .int p3)]) (by decide) (by first | exact Nat.le_of_ble_eq_true rfl | simp [lg_sl, rv_cat, cat_i, cat_l, cat_r, cat_n]) (by first | rfl | simp [lv_args, rv_cat, cat_i, cat_l, cat_r, cat_n]) ?_
  intro p e s m below meth c ls E hr hlk hinit hM hl
  obtain ⟨hx, hb, hml, hown, hts, hKK⟩ := id E
  obtain ⟨H, hH⟩ : ∃ H, H = s.heap := ⟨_, rfl⟩
  obtain ⟨locs, hlocs⟩ : ∃ L : List Loc, L = [] := ⟨_, rfl⟩
  rw [← hH, ← hlocs] at hM ⊢
  unfold f_X8_span at h
  refine lv_aload_n hx hb dX8_span_0 rfl (lv_at hl 0 rfl) ?_
  refine lv_iconst (v := 0) hx hb dX8_span_1 (by decide) ?_
  obtain ⟨ok1, h⟩ := k_gd h
  refine ps_X8_93 (v := (0 : Int32)) E hM ok1 dX8_span_2 (fun H locs hM => ?_)
  refine lv_aload_n hx hb dX8_span_5 rfl (lv_at hl 0 rfl) ?_
  refine lv_iconst (v := 0) hx hb dX8_span_6 (by decide) ?_
  refine ps_X8_97 (v := (0 : Int32)) E hM ok1 dX8_span_7 (fun H locs hM => ?_)
  refine lv_aload_n hx hb dX8_span_10 rfl (lv_at hl 0 rfl) ?_
  refine lv_iload_n hx hb dX8_span_11 rfl (lv_at hl 1 rfl) ?_
  obtain ⟨w2, hzw2, h⟩ := k_bd h
  refine m_callV (C := RX8) (T := TX8) (N := 33) (ci := 8) (n := 1) (As := [.int p1]) (rest := []) (st1 := (.int w2 :: [])) E hM hl.1 ok1 (by decide) rfl rfl (c_X8_isThing l D cy sz H0 (sI (sI u r 1 (0 : Int32)) r 0 (0 : Int32)) r p1 hzw2) wl_X8_124 wm_X8_isThing ws_X8_isThing wi_X8 wd_X8_isThing rfl rfl (by decide +kernel) ⟨by decide, by decide⟩ rfl rfl (by first | exact Nat.le_of_ble_eq_true rfl | simp [rv_cat, cat_i, cat_l, cat_r, cat_n]) dX8_span_12 ⟨by decide, by decide⟩ rfl (fun H locs hM => ?_)
  refine lv_if_ne (tgt := 24) hx hb dX8_span_15 (by decide) (fun c3 => ?_) (fun c3 => ?_)
  · replace h := (k_if h).2 c3
    refine lv_iload_n hx hb dX8_span_24 rfl (lv_at hl 2 rfl) ?_
    refine lv_if_lt (tgt := 39) hx hb dX8_span_25 (by decide) (fun c4 => ?_) (fun c4 => ?_)
    · replace h := (k_if h).1 c4
      refine lv_aload_n hx hb dX8_span_39 rfl (lv_at hl 0 rfl) ?_
      refine lv_iconst (v := 5) hx hb dX8_span_40 (by decide) ?_
      obtain ⟨w5, hzw5, h⟩ := k_bd h
      refine m_callV (C := RX8) (T := TX8) (N := 33) (ci := 8) (n := 1) (As := [.int (5 : Int32)]) (rest := []) (st1 := (.int w5.1 :: [])) E hM hl.1 ok1 (by decide) rfl rfl (c_X8_no l D cy sz H0 (sI (sI u r 1 (0 : Int32)) r 0 (0 : Int32)) r (5 : Int32) hzw5) wl_X8_100 wm_X8_no ws_X8_no wi_X8 wd_X8_no rfl rfl (by decide +kernel) ⟨by decide, by decide⟩ rfl rfl (by first | exact Nat.le_of_ble_eq_true rfl | simp [rv_cat, cat_i, cat_l, cat_r, cat_n]) dX8_span_41 ⟨by decide, by decide⟩ rfl (fun H locs hM => ?_)
      obtain ⟨hB6, h⟩ := k_gd h
      cases h
      exact m_zret hx hb hr hlk hM hB6 rfl rfl dX8_span_44
    · replace h := (k_if h).2 c4
      refine lv_iload_n hx hb dX8_span_28 rfl (lv_at hl 3 rfl) ?_
      refine lv_ldc hx hb hown (hts _ wk_X8_133) dX8_span_29 ?_
      refine lv_icmp_gt (tgt := 39) hx hb dX8_span_31 (by decide) (fun c7 => ?_) (fun c7 => ?_)
      · replace h := (k_if h).1 c7
        refine lv_aload_n hx hb dX8_span_39 rfl (lv_at hl 0 rfl) ?_
        refine lv_iconst (v := 5) hx hb dX8_span_40 (by decide) ?_
        obtain ⟨w8, hzw8, h⟩ := k_bd h
        refine m_callV (C := RX8) (T := TX8) (N := 33) (ci := 8) (n := 1) (As := [.int (5 : Int32)]) (rest := []) (st1 := (.int w8.1 :: [])) E hM hl.1 ok1 (by decide) rfl rfl (c_X8_no l D cy sz H0 (sI (sI u r 1 (0 : Int32)) r 0 (0 : Int32)) r (5 : Int32) hzw8) wl_X8_100 wm_X8_no ws_X8_no wi_X8 wd_X8_no rfl rfl (by decide +kernel) ⟨by decide, by decide⟩ rfl rfl (by first | exact Nat.le_of_ble_eq_true rfl | simp [rv_cat, cat_i, cat_l, cat_r, cat_n]) dX8_span_41 ⟨by decide, by decide⟩ rfl (fun H locs hM => ?_)
        obtain ⟨hB9, h⟩ := k_gd h
        cases h
        exact m_zret hx hb hr hlk hM hB9 rfl rfl dX8_span_44
      · replace h := (k_if h).2 c7
        refine lv_iload_n hx hb dX8_span_34 rfl (lv_at hl 2 rfl) ?_
        refine lv_iload_n hx hb dX8_span_35 rfl (lv_at hl 3 rfl) ?_
        refine lv_icmp_le (tgt := 45) hx hb dX8_span_36 (by decide) (fun c10 => ?_) (fun c10 => ?_)
        · replace h := (k_if h).1 c10
          refine lv_aload_n hx hb dX8_span_45 rfl (lv_at hl 0 rfl) ?_
          refine gs_X8_39 E hM ok1 dX8_span_46 (fun x11 hxx11 => ?_)
          replace h := k_bb h x11 hxx11.symm
          refine lv_iload_n hx hb dX8_span_49 rfl (lv_at hl 1 rfl) ?_
          refine lv_iload_n hx hb dX8_span_50 rfl (lv_at hl 2 rfl) ?_
          rcases x11 with _ | k12
          · cases h
          rw [cs_s] at h
          obtain ⟨ok13, h⟩ := k_gd h
          refine m_iast E hM ok13 dX8_span_51 (fun H locs hM => ?_)
          refine lv_aload_n hx hb dX8_span_52 rfl (lv_at hl 0 rfl) ?_
          refine gs_X8_42 E hM ok1 dX8_span_53 (fun x14 hxx14 => ?_)
          replace h := k_bb h x14 hxx14.symm
          refine lv_iload_n hx hb dX8_span_56 rfl (lv_at hl 1 rfl) ?_
          refine lv_iload_n hx hb dX8_span_57 rfl (lv_at hl 3 rfl) ?_
          rcases x14 with _ | k15
          · cases h
          rw [cs_s] at h
          obtain ⟨ok16, h⟩ := k_gd h
          refine m_iast E hM ok16 dX8_span_58 (fun H locs hM => ?_)
          refine lv_iconst (v := 1) hx hb dX8_span_59 (by decide) ?_
          cases h
          exact m_zret hx hb hr hlk hM (by decide) rfl rfl dX8_span_60
        · replace h := (k_if h).2 c10
          refine lv_aload_n hx hb dX8_span_39 rfl (lv_at hl 0 rfl) ?_
          refine lv_iconst (v := 5) hx hb dX8_span_40 (by decide) ?_
          obtain ⟨w17, hzw17, h⟩ := k_bd h
          refine m_callV (C := RX8) (T := TX8) (N := 33) (ci := 8) (n := 1) (As := [.int (5 : Int32)]) (rest := []) (st1 := (.int w17.1 :: [])) E hM hl.1 ok1 (by decide) rfl rfl (c_X8_no l D cy sz H0 (sI (sI u r 1 (0 : Int32)) r 0 (0 : Int32)) r (5 : Int32) hzw17) wl_X8_100 wm_X8_no ws_X8_no wi_X8 wd_X8_no rfl rfl (by decide +kernel) ⟨by decide, by decide⟩ rfl rfl (by first | exact Nat.le_of_ble_eq_true rfl | simp [rv_cat, cat_i, cat_l, cat_r, cat_n]) dX8_span_41 ⟨by decide, by decide⟩ rfl (fun H locs hM => ?_)
          obtain ⟨hB18, h⟩ := k_gd h
          cases h
          exact m_zret hx hb hr hlk hM hB18 rfl rfl dX8_span_44
  · replace h := (k_if h).1 c3
    refine lv_aload_n hx hb dX8_span_18 rfl (lv_at hl 0 rfl) ?_
    refine lv_iconst (v := 2) hx hb dX8_span_19 (by decide) ?_
    obtain ⟨w19, hzw19, h⟩ := k_bd h
    refine m_callV (C := RX8) (T := TX8) (N := 33) (ci := 8) (n := 1) (As := [.int (2 : Int32)]) (rest := []) (st1 := (.int w19.1 :: [])) E hM hl.1 ok1 (by decide) rfl rfl (c_X8_no l D cy sz H0 (sI (sI u r 1 (0 : Int32)) r 0 (0 : Int32)) r (2 : Int32) hzw19) wl_X8_100 wm_X8_no ws_X8_no wi_X8 wd_X8_no rfl rfl (by decide +kernel) ⟨by decide, by decide⟩ rfl rfl (by first | exact Nat.le_of_ble_eq_true rfl | simp [rv_cat, cat_i, cat_l, cat_r, cat_n]) dX8_span_20 ⟨by decide, by decide⟩ rfl (fun H locs hM => ?_)
    obtain ⟨hB20, h⟩ := k_gd h
    cases h
    exact m_zret hx hb hr hlk hM hB20 rfl rfl dX8_span_23

abbrev rm_X8_noSpan : Room := { frames := 1, cells := 0, slots := 0, locals := 36 }
def f_X8_noSpan (r : Nat) (p1 : Int32) (u : Mm) : Option ((Int32) × Mm) := gd (okO u r 8) (bd (f_X8_isThing r p1 (sI (sI u r 1 (0 : Int32)) r 0 (0 : Int32))) (fun w2 => (if w2 = 0 then bd (f_X8_no r (2 : Int32) (sI (sI u r 1 (0 : Int32)) r 0 (0 : Int32))) (fun w13 => gd (isB w13.1) (some (w13.1, w13.2))) else bb (gR (sI (sI u r 1 (0 : Int32)) r 0 (0 : Int32)) r 13) (fun x4 => cs x4 none (fun k5 => gd (okA (sI (sI u r 1 (0 : Int32)) r 0 (0 : Int32)) k5 9 p1) ((if 0 ≤ (gI (sI (sI u r 1 (0 : Int32)) r 0 (0 : Int32)) k5 (Int32.toNatClampNeg p1)) then bb (gR (sI (sI u r 1 (0 : Int32)) r 0 (0 : Int32)) r 13) (fun x8 => cs x8 none (fun k9 => gd (okA (sI (sI u r 1 (0 : Int32)) r 0 (0 : Int32)) k9 9 p1) (some ((1 : Int32), (sI (sI (sI u r 1 (0 : Int32)) r 0 (0 : Int32)) k9 (Int32.toNatClampNeg p1) (-1 : Int32)))))) else bd (f_X8_no r (9 : Int32) (sI (sI u r 1 (0 : Int32)) r 0 (0 : Int32))) (fun w11 => gd (isB w11.1) (some (w11.1, w11.2))))))))))
set_option maxHeartbeats 4000000 in
set_option maxRecDepth 100000 in
theorem c_X8_noSpan (l : Launch) (D : va_G) (cy : Nat → ClassId) (sz : Nat) (H0 : Heap) (u : Mm) (r : Nat) (p1 : Int32) {res : (Int32) × Mm} (h : f_X8_noSpan r p1 u = some res) : Ctr l yX8_noSpan cX8_noSpan 2 (some .boolean) rm_X8_noSpan 0 0 D cy sz H0 u [.ref (sz + r), .int p1] (some (.int res.1)) res.2 := by
  refine m_start (lv := [(0, .ref (sz + r)), (1, .int p1)]) (by decide) (by first | exact Nat.le_of_ble_eq_true rfl | simp [lg_sl, rv_cat, cat_i, cat_l, cat_r, cat_n]) (by first | rfl | simp [lv_args, rv_cat, cat_i, cat_l, cat_r, cat_n]) ?_
  intro p e s m below meth c ls E hr hlk hinit hM hl
  obtain ⟨hx, hb, hml, hown, hts, hKK⟩ := id E
  obtain ⟨H, hH⟩ : ∃ H, H = s.heap := ⟨_, rfl⟩
  obtain ⟨locs, hlocs⟩ : ∃ L : List Loc, L = [] := ⟨_, rfl⟩
  rw [← hH, ← hlocs] at hM ⊢
  unfold f_X8_noSpan at h
  refine lv_aload_n hx hb dX8_noSpan_0 rfl (lv_at hl 0 rfl) ?_
  refine lv_iconst (v := 0) hx hb dX8_noSpan_1 (by decide) ?_
  obtain ⟨ok1, h⟩ := k_gd h
  refine ps_X8_93 (v := (0 : Int32)) E hM ok1 dX8_noSpan_2 (fun H locs hM => ?_)
  refine lv_aload_n hx hb dX8_noSpan_5 rfl (lv_at hl 0 rfl) ?_
  refine lv_iconst (v := 0) hx hb dX8_noSpan_6 (by decide) ?_
  refine ps_X8_97 (v := (0 : Int32)) E hM ok1 dX8_noSpan_7 (fun H locs hM => ?_)
  refine lv_aload_n hx hb dX8_noSpan_10 rfl (lv_at hl 0 rfl) ?_
  refine lv_iload_n hx hb dX8_noSpan_11 rfl (lv_at hl 1 rfl) ?_
  obtain ⟨w2, hzw2, h⟩ := k_bd h
  refine m_callV (C := RX8) (T := TX8) (N := 33) (ci := 8) (n := 1) (As := [.int p1]) (rest := []) (st1 := (.int w2 :: [])) E hM hl.1 ok1 (by decide) rfl rfl (c_X8_isThing l D cy sz H0 (sI (sI u r 1 (0 : Int32)) r 0 (0 : Int32)) r p1 hzw2) wl_X8_124 wm_X8_isThing ws_X8_isThing wi_X8 wd_X8_isThing rfl rfl (by decide +kernel) ⟨by decide, by decide⟩ rfl rfl (by first | exact Nat.le_of_ble_eq_true rfl | simp [rv_cat, cat_i, cat_l, cat_r, cat_n]) dX8_noSpan_12 ⟨by decide, by decide⟩ rfl (fun H locs hM => ?_)
  refine lv_if_ne (tgt := 24) hx hb dX8_noSpan_15 (by decide) (fun c3 => ?_) (fun c3 => ?_)
  · replace h := (k_if h).2 c3
    refine lv_aload_n hx hb dX8_noSpan_24 rfl (lv_at hl 0 rfl) ?_
    refine gs_X8_39 E hM ok1 dX8_noSpan_25 (fun x4 hxx4 => ?_)
    replace h := k_bb h x4 hxx4.symm
    refine lv_iload_n hx hb dX8_noSpan_28 rfl (lv_at hl 1 rfl) ?_
    rcases x4 with _ | k5
    · cases h
    rw [cs_s] at h
    obtain ⟨ok6, h⟩ := k_gd h
    refine m_iald E hM ok6 dX8_noSpan_29 ?_
    refine lv_if_ge (tgt := 40) hx hb dX8_noSpan_30 (by decide) (fun c7 => ?_) (fun c7 => ?_)
    · replace h := (k_if h).1 c7
      refine lv_aload_n hx hb dX8_noSpan_40 rfl (lv_at hl 0 rfl) ?_
      refine gs_X8_39 E hM ok1 dX8_noSpan_41 (fun x8 hxx8 => ?_)
      replace h := k_bb h x8 hxx8.symm
      refine lv_iload_n hx hb dX8_noSpan_44 rfl (lv_at hl 1 rfl) ?_
      refine lv_iconst (v := (-1)) hx hb dX8_noSpan_45 (by decide) ?_
      rcases x8 with _ | k9
      · cases h
      rw [cs_s] at h
      obtain ⟨ok10, h⟩ := k_gd h
      refine m_iast E hM ok10 dX8_noSpan_46 (fun H locs hM => ?_)
      refine lv_iconst (v := 1) hx hb dX8_noSpan_47 (by decide) ?_
      cases h
      exact m_zret hx hb hr hlk hM (by decide) rfl rfl dX8_noSpan_48
    · replace h := (k_if h).2 c7
      refine lv_aload_n hx hb dX8_noSpan_33 rfl (lv_at hl 0 rfl) ?_
      refine lv_bipush (v := 9) hx hb dX8_noSpan_34 (by decide) ?_
      obtain ⟨w11, hzw11, h⟩ := k_bd h
      refine m_callV (C := RX8) (T := TX8) (N := 33) (ci := 8) (n := 1) (As := [.int (9 : Int32)]) (rest := []) (st1 := (.int w11.1 :: [])) E hM hl.1 ok1 (by decide) rfl rfl (c_X8_no l D cy sz H0 (sI (sI u r 1 (0 : Int32)) r 0 (0 : Int32)) r (9 : Int32) hzw11) wl_X8_100 wm_X8_no ws_X8_no wi_X8 wd_X8_no rfl rfl (by decide +kernel) ⟨by decide, by decide⟩ rfl rfl (by first | exact Nat.le_of_ble_eq_true rfl | simp [rv_cat, cat_i, cat_l, cat_r, cat_n]) dX8_noSpan_36 ⟨by decide, by decide⟩ rfl (fun H locs hM => ?_)
      obtain ⟨hB12, h⟩ := k_gd h
      cases h
      exact m_zret hx hb hr hlk hM hB12 rfl rfl dX8_noSpan_39
  · replace h := (k_if h).1 c3
    refine lv_aload_n hx hb dX8_noSpan_18 rfl (lv_at hl 0 rfl) ?_
    refine lv_iconst (v := 2) hx hb dX8_noSpan_19 (by decide) ?_
    obtain ⟨w13, hzw13, h⟩ := k_bd h
    refine m_callV (C := RX8) (T := TX8) (N := 33) (ci := 8) (n := 1) (As := [.int (2 : Int32)]) (rest := []) (st1 := (.int w13.1 :: [])) E hM hl.1 ok1 (by decide) rfl rfl (c_X8_no l D cy sz H0 (sI (sI u r 1 (0 : Int32)) r 0 (0 : Int32)) r (2 : Int32) hzw13) wl_X8_100 wm_X8_no ws_X8_no wi_X8 wd_X8_no rfl rfl (by decide +kernel) ⟨by decide, by decide⟩ rfl rfl (by first | exact Nat.le_of_ble_eq_true rfl | simp [rv_cat, cat_i, cat_l, cat_r, cat_n]) dX8_noSpan_20 ⟨by decide, by decide⟩ rfl (fun H locs hM => ?_)
    obtain ⟨hB14, h⟩ := k_gd h
    cases h
    exact m_zret hx hb hr hlk hM hB14 rfl rfl dX8_noSpan_23

abbrev rm_X8_holds : Room := { frames := 1, cells := 0, slots := 0, locals := 36 }
def L_X8_holds_2 (b0 : Nat) (k : Int32 → Mm → Option (Mm)) : Nat → Int32 → Mm → Option (Mm)
  | 0, _, _ => none
  | n + 1, a1, u => gd (okO u b0 8) ((if (gI u b0 7) ≤ a1 then k a1 u else bb (gR u b0 20) (fun x3 => bb (gR u b0 13) (fun x4 => cs x4 none (fun k5 => gd (okA u k5 9 a1) (cs x3 none (fun k7 => gd (okA u k7 9 a1) (bb (gR (sI u k7 (Int32.toNatClampNeg a1) (gI u k5 (Int32.toNatClampNeg a1))) b0 21) (fun x9 => bb (gR (sI u k7 (Int32.toNatClampNeg a1) (gI u k5 (Int32.toNatClampNeg a1))) b0 13) (fun x10 => cs x10 none (fun k11 => gd (okA (sI u k7 (Int32.toNatClampNeg a1) (gI u k5 (Int32.toNatClampNeg a1))) k11 9 a1) ((if 0 ≤ (gI (sI u k7 (Int32.toNatClampNeg a1) (gI u k5 (Int32.toNatClampNeg a1))) k11 (Int32.toNatClampNeg a1)) then bb (gR (sI u k7 (Int32.toNatClampNeg a1) (gI u k5 (Int32.toNatClampNeg a1))) b0 14) (fun x14 => cs x14 none (fun k15 => gd (okA (sI u k7 (Int32.toNatClampNeg a1) (gI u k5 (Int32.toNatClampNeg a1))) k15 9 a1) (cs x9 none (fun k17 => gd (okA (sI u k7 (Int32.toNatClampNeg a1) (gI u k5 (Int32.toNatClampNeg a1))) k17 9 a1) (bb (a1 + (1)) (fun v19 => L_X8_holds_2 b0 k n v19 (sI (sI u k7 (Int32.toNatClampNeg a1) (gI u k5 (Int32.toNatClampNeg a1))) k17 (Int32.toNatClampNeg a1) (gI (sI u k7 (Int32.toNatClampNeg a1) (gI u k5 (Int32.toNatClampNeg a1))) k15 (Int32.toNatClampNeg a1))))))))) else cs x9 none (fun k20 => gd (okA (sI u k7 (Int32.toNatClampNeg a1) (gI u k5 (Int32.toNatClampNeg a1))) k20 9 a1) (bb (a1 + (1)) (fun v22 => L_X8_holds_2 b0 k n v22 (sI (sI u k7 (Int32.toNatClampNeg a1) (gI u k5 (Int32.toNatClampNeg a1))) k20 (Int32.toNatClampNeg a1) (-1 : Int32))))))))))))))))))
set_option maxHeartbeats 4000000 in
set_option maxRecDepth 100000 in
theorem lp_X8_holds_2 {p : Program} {l : Launch} {e : Env} {s : State} {m : MethodId} {args : Array Value} {below : List Frame} {meth : Method} {c : Code} {D : va_G} {cy : Nat → ClassId} {sz : Nat} {H0 : Heap} {b0 : Nat} {k : Int32 → Mm → Option (Mm)} {res : Mm} (hr : meth.sig.returnType = none) (hlk : meth.locks = false) (E : EE p s m args c cX8_holds 3 RX8 D cy) : ∀ (n : Nat) (a1 : Int32) (u : Mm) (H : Heap) (locs : List Loc) (ls : Array Slot), MM D cy sz H0 u H locs → lv_has ls 3 [(0, .ref (sz + b0)), (1, .int a1)] → L_X8_holds_2 b0 k n a1 u = some res → (∀ (a1 : Int32) (u : Mm) (H : Heap) (locs : List Loc) (ls : Array Slot), MM D cy sz H0 u H locs → lv_has ls 3 [(0, .ref (sz + b0)), (1, .int a1)] → k a1 u = some res → W p l e rm_X8_holds s m args below meth c H locs 0 0 (MQ below (Post D cy sz H0 none res) args s 0 0 (fun q => sz ≤ q)) (F0 m 53 ls [])) → W p l e rm_X8_holds s m args below meth c H locs 0 0 (MQ below (Post D cy sz H0 none res) args s 0 0 (fun q => sz ≤ q)) (F0 m 2 ls []) := by
  obtain ⟨hx, hb, hml, hown, hts, hKK⟩ := id E
  intro n
  induction n with
  | zero => intros; rename_i h _; cases h
  | succ n ih =>
    intro a1 u H locs ls hM hl h hk
    rw [L_X8_holds_2] at h
    refine lv_iload_n hx hb dX8_holds_2 rfl (lv_at hl 1 rfl) ?_
    refine lv_aload_n hx hb dX8_holds_3 rfl (lv_at hl 0 rfl) ?_
    obtain ⟨ok1, h⟩ := k_gd h
    refine gs_X8_118 E hM ok1 dX8_holds_4 ?_
    refine lv_icmp_ge (tgt := 53) hx hb dX8_holds_7 (by decide) (fun c2 => ?_) (fun c2 => ?_)
    · replace h := (k_if h).1 c2
      exact hk a1 u H locs ls hM (lv_sub hl [0, 1] rfl) h
    · replace h := (k_if h).2 c2
      refine lv_aload_n hx hb dX8_holds_10 rfl (lv_at hl 0 rfl) ?_
      refine gs_X8_60 E hM ok1 dX8_holds_11 (fun x3 hxx3 => ?_)
      replace h := k_bb h x3 hxx3.symm
      refine lv_iload_n hx hb dX8_holds_14 rfl (lv_at hl 1 rfl) ?_
      refine lv_aload_n hx hb dX8_holds_15 rfl (lv_at hl 0 rfl) ?_
      refine gs_X8_39 E hM ok1 dX8_holds_16 (fun x4 hxx4 => ?_)
      replace h := k_bb h x4 hxx4.symm
      refine lv_iload_n hx hb dX8_holds_19 rfl (lv_at hl 1 rfl) ?_
      rcases x4 with _ | k5
      · cases h
      rw [cs_s] at h
      obtain ⟨ok6, h⟩ := k_gd h
      refine m_iald E hM ok6 dX8_holds_20 ?_
      rcases x3 with _ | k7
      · cases h
      rw [cs_s] at h
      obtain ⟨ok8, h⟩ := k_gd h
      refine m_iast E hM ok8 dX8_holds_21 (fun H locs hM => ?_)
      refine lv_aload_n hx hb dX8_holds_22 rfl (lv_at hl 0 rfl) ?_
      refine gs_X8_63 E hM ok1 dX8_holds_23 (fun x9 hxx9 => ?_)
      replace h := k_bb h x9 hxx9.symm
      refine lv_iload_n hx hb dX8_holds_26 rfl (lv_at hl 1 rfl) ?_
      refine lv_aload_n hx hb dX8_holds_27 rfl (lv_at hl 0 rfl) ?_
      refine gs_X8_39 E hM ok1 dX8_holds_28 (fun x10 hxx10 => ?_)
      replace h := k_bb h x10 hxx10.symm
      refine lv_iload_n hx hb dX8_holds_31 rfl (lv_at hl 1 rfl) ?_
      rcases x10 with _ | k11
      · cases h
      rw [cs_s] at h
      obtain ⟨ok12, h⟩ := k_gd h
      refine m_iald E hM ok12 dX8_holds_32 ?_
      refine lv_if_ge (tgt := 40) hx hb dX8_holds_33 (by decide) (fun c13 => ?_) (fun c13 => ?_)
      · replace h := (k_if h).1 c13
        refine lv_aload_n hx hb dX8_holds_40 rfl (lv_at hl 0 rfl) ?_
        refine gs_X8_42 E hM ok1 dX8_holds_41 (fun x14 hxx14 => ?_)
        replace h := k_bb h x14 hxx14.symm
        refine lv_iload_n hx hb dX8_holds_44 rfl (lv_at hl 1 rfl) ?_
        rcases x14 with _ | k15
        · cases h
        rw [cs_s] at h
        obtain ⟨ok16, h⟩ := k_gd h
        refine m_iald E hM ok16 dX8_holds_45 ?_
        rcases x9 with _ | k17
        · cases h
        rw [cs_s] at h
        obtain ⟨ok18, h⟩ := k_gd h
        refine m_iast E hM ok18 dX8_holds_46 (fun H locs hM => ?_)
        obtain ⟨v19, hvv19⟩ : ∃ y : Int32, y = a1 + (1) := ⟨_, rfl⟩
        replace h := k_bb h v19 hvv19
        refine lv_iinc (v := v19) (lv' := [(1, .int v19), (0, .ref (sz + b0))]) hx hb dX8_holds_47 hl (k := 1) rfl (by rw [hvv19]; rfl) (by decide) (by first | rfl | simp [rv_cat, cat_i, cat_l, cat_r, cat_n]) (fun ls hl => ?_)
        refine lv_goto (tgt := 2) hx hb dX8_holds_50 (by decide) ?_
        exact ih v19 (sI (sI u k7 (Int32.toNatClampNeg a1) (gI u k5 (Int32.toNatClampNeg a1))) k17 (Int32.toNatClampNeg a1) (gI (sI u k7 (Int32.toNatClampNeg a1) (gI u k5 (Int32.toNatClampNeg a1))) k15 (Int32.toNatClampNeg a1))) H locs ls hM (lv_sub hl [1, 0] rfl) h hk
      · replace h := (k_if h).2 c13
        refine lv_iconst (v := (-1)) hx hb dX8_holds_36 (by decide) ?_
        refine lv_goto (tgt := 46) hx hb dX8_holds_37 (by decide) ?_
        rcases x9 with _ | k20
        · cases h
        rw [cs_s] at h
        obtain ⟨ok21, h⟩ := k_gd h
        refine m_iast E hM ok21 dX8_holds_46 (fun H locs hM => ?_)
        obtain ⟨v22, hvv22⟩ : ∃ y : Int32, y = a1 + (1) := ⟨_, rfl⟩
        replace h := k_bb h v22 hvv22
        refine lv_iinc (v := v22) (lv' := [(1, .int v22), (0, .ref (sz + b0))]) hx hb dX8_holds_47 hl (k := 1) rfl (by rw [hvv22]; rfl) (by decide) (by first | rfl | simp [rv_cat, cat_i, cat_l, cat_r, cat_n]) (fun ls hl => ?_)
        refine lv_goto (tgt := 2) hx hb dX8_holds_50 (by decide) ?_
        exact ih v22 (sI (sI u k7 (Int32.toNatClampNeg a1) (gI u k5 (Int32.toNatClampNeg a1))) k20 (Int32.toNatClampNeg a1) (-1 : Int32)) H locs ls hM (lv_sub hl [1, 0] rfl) h hk

def L_X8_holds_60 (b0 : Nat) (k : Int32 → Mm → Option (Mm)) : Nat → Int32 → Mm → Option (Mm)
  | 0, _, _ => none
  | n + 1, a1, u => (if a1 < 0 then k a1 u else gd (okO u b0 8) (bb (gR u b0 9) (fun x29 => cs x29 none (fun k30 => gd (okA u k30 9 a1) (bb ((gI u k30 (Int32.toNatClampNeg a1))) (fun v32 => (if v32 < 0 then bb (a1 + (-1)) (fun v34 => L_X8_holds_60 b0 k n v34 u) else bb (gR u b0 13) (fun x35 => cs x35 none (fun k36 => gd (okA u k36 9 v32) ((if 0 ≤ (gI u k36 (Int32.toNatClampNeg v32)) then bb (a1 + (-1)) (fun v39 => L_X8_holds_60 b0 k n v39 u) else bb (gR u b0 20) (fun x40 => cs x40 none (fun k41 => gd (okA u k41 9 a1) ((if 0 ≤ (gI u k41 (Int32.toNatClampNeg a1)) then bb (gR u b0 20) (fun x44 => bb (gR u b0 20) (fun x45 => cs x45 none (fun k46 => gd (okA u k46 9 v32) ((if 0 ≤ (gI u k46 (Int32.toNatClampNeg v32)) then bb (gR u b0 20) (fun x49 => cs x49 none (fun k50 => gd (okA u k50 9 v32) (bb (gR u b0 20) (fun x52 => cs x52 none (fun k53 => gd (okA u k53 9 a1) (cs x44 none (fun k55 => gd (okA u k55 9 v32) (bb (gR (sI u k55 (Int32.toNatClampNeg v32) (if (gI u k53 (Int32.toNatClampNeg a1)) < (gI u k50 (Int32.toNatClampNeg v32)) then (gI u k53 (Int32.toNatClampNeg a1)) else (gI u k50 (Int32.toNatClampNeg v32)))) b0 21) (fun x57 => bb (gR (sI u k55 (Int32.toNatClampNeg v32) (if (gI u k53 (Int32.toNatClampNeg a1)) < (gI u k50 (Int32.toNatClampNeg v32)) then (gI u k53 (Int32.toNatClampNeg a1)) else (gI u k50 (Int32.toNatClampNeg v32)))) b0 21) (fun x58 => cs x58 none (fun k59 => gd (okA (sI u k55 (Int32.toNatClampNeg v32) (if (gI u k53 (Int32.toNatClampNeg a1)) < (gI u k50 (Int32.toNatClampNeg v32)) then (gI u k53 (Int32.toNatClampNeg a1)) else (gI u k50 (Int32.toNatClampNeg v32)))) k59 9 v32) (bb (gR (sI u k55 (Int32.toNatClampNeg v32) (if (gI u k53 (Int32.toNatClampNeg a1)) < (gI u k50 (Int32.toNatClampNeg v32)) then (gI u k53 (Int32.toNatClampNeg a1)) else (gI u k50 (Int32.toNatClampNeg v32)))) b0 21) (fun x61 => cs x61 none (fun k62 => gd (okA (sI u k55 (Int32.toNatClampNeg v32) (if (gI u k53 (Int32.toNatClampNeg a1)) < (gI u k50 (Int32.toNatClampNeg v32)) then (gI u k53 (Int32.toNatClampNeg a1)) else (gI u k50 (Int32.toNatClampNeg v32)))) k62 9 a1) (cs x57 none (fun k64 => gd (okA (sI u k55 (Int32.toNatClampNeg v32) (if (gI u k53 (Int32.toNatClampNeg a1)) < (gI u k50 (Int32.toNatClampNeg v32)) then (gI u k53 (Int32.toNatClampNeg a1)) else (gI u k50 (Int32.toNatClampNeg v32)))) k64 9 v32) (bb (a1 + (-1)) (fun v66 => L_X8_holds_60 b0 k n v66 (sI (sI u k55 (Int32.toNatClampNeg v32) (if (gI u k53 (Int32.toNatClampNeg a1)) < (gI u k50 (Int32.toNatClampNeg v32)) then (gI u k53 (Int32.toNatClampNeg a1)) else (gI u k50 (Int32.toNatClampNeg v32)))) k64 (Int32.toNatClampNeg v32) (if (gI (sI u k55 (Int32.toNatClampNeg v32) (if (gI u k53 (Int32.toNatClampNeg a1)) < (gI u k50 (Int32.toNatClampNeg v32)) then (gI u k53 (Int32.toNatClampNeg a1)) else (gI u k50 (Int32.toNatClampNeg v32)))) k59 (Int32.toNatClampNeg v32)) < (gI (sI u k55 (Int32.toNatClampNeg v32) (if (gI u k53 (Int32.toNatClampNeg a1)) < (gI u k50 (Int32.toNatClampNeg v32)) then (gI u k53 (Int32.toNatClampNeg a1)) else (gI u k50 (Int32.toNatClampNeg v32)))) k62 (Int32.toNatClampNeg a1)) then (gI (sI u k55 (Int32.toNatClampNeg v32) (if (gI u k53 (Int32.toNatClampNeg a1)) < (gI u k50 (Int32.toNatClampNeg v32)) then (gI u k53 (Int32.toNatClampNeg a1)) else (gI u k50 (Int32.toNatClampNeg v32)))) k62 (Int32.toNatClampNeg a1)) else (gI (sI u k55 (Int32.toNatClampNeg v32) (if (gI u k53 (Int32.toNatClampNeg a1)) < (gI u k50 (Int32.toNatClampNeg v32)) then (gI u k53 (Int32.toNatClampNeg a1)) else (gI u k50 (Int32.toNatClampNeg v32)))) k59 (Int32.toNatClampNeg v32)))))))))))))))))))))) else bb (gR u b0 20) (fun x67 => cs x67 none (fun k68 => gd (okA u k68 9 a1) (cs x44 none (fun k70 => gd (okA u k70 9 v32) (bb (gR (sI u k70 (Int32.toNatClampNeg v32) (gI u k68 (Int32.toNatClampNeg a1))) b0 21) (fun x72 => bb (gR (sI u k70 (Int32.toNatClampNeg v32) (gI u k68 (Int32.toNatClampNeg a1))) b0 21) (fun x73 => cs x73 none (fun k74 => gd (okA (sI u k70 (Int32.toNatClampNeg v32) (gI u k68 (Int32.toNatClampNeg a1))) k74 9 v32) (bb (gR (sI u k70 (Int32.toNatClampNeg v32) (gI u k68 (Int32.toNatClampNeg a1))) b0 21) (fun x76 => cs x76 none (fun k77 => gd (okA (sI u k70 (Int32.toNatClampNeg v32) (gI u k68 (Int32.toNatClampNeg a1))) k77 9 a1) (cs x72 none (fun k79 => gd (okA (sI u k70 (Int32.toNatClampNeg v32) (gI u k68 (Int32.toNatClampNeg a1))) k79 9 v32) (bb (a1 + (-1)) (fun v81 => L_X8_holds_60 b0 k n v81 (sI (sI u k70 (Int32.toNatClampNeg v32) (gI u k68 (Int32.toNatClampNeg a1))) k79 (Int32.toNatClampNeg v32) (if (gI (sI u k70 (Int32.toNatClampNeg v32) (gI u k68 (Int32.toNatClampNeg a1))) k74 (Int32.toNatClampNeg v32)) < (gI (sI u k70 (Int32.toNatClampNeg v32) (gI u k68 (Int32.toNatClampNeg a1))) k77 (Int32.toNatClampNeg a1)) then (gI (sI u k70 (Int32.toNatClampNeg v32) (gI u k68 (Int32.toNatClampNeg a1))) k77 (Int32.toNatClampNeg a1)) else (gI (sI u k70 (Int32.toNatClampNeg v32) (gI u k68 (Int32.toNatClampNeg a1))) k74 (Int32.toNatClampNeg v32)))))))))))))))))))))))) else bb (a1 + (-1)) (fun v82 => L_X8_holds_60 b0 k n v82 u))))))))))))))))
set_option maxHeartbeats 4000000 in
set_option maxRecDepth 100000 in
theorem lp_X8_holds_60 {p : Program} {l : Launch} {e : Env} {s : State} {m : MethodId} {args : Array Value} {below : List Frame} {meth : Method} {c : Code} {D : va_G} {cy : Nat → ClassId} {sz : Nat} {H0 : Heap} {b0 : Nat} {k : Int32 → Mm → Option (Mm)} {res : Mm} (hr : meth.sig.returnType = none) (hlk : meth.locks = false) (E : EE p s m args c cX8_holds 3 RX8 D cy) : ∀ (n : Nat) (a1 : Int32) (u : Mm) (H : Heap) (locs : List Loc) (ls : Array Slot), MM D cy sz H0 u H locs → lv_has ls 3 [(0, .ref (sz + b0)), (1, .int a1)] → L_X8_holds_60 b0 k n a1 u = some res → (∀ (a1 : Int32) (u : Mm) (H : Heap) (locs : List Loc) (ls : Array Slot), MM D cy sz H0 u H locs → lv_has ls 3 [(0, .ref (sz + b0)), (1, .int a1)] → k a1 u = some res → W p l e rm_X8_holds s m args below meth c H locs 0 0 (MQ below (Post D cy sz H0 none res) args s 0 0 (fun q => sz ≤ q)) (F0 m 162 ls [])) → W p l e rm_X8_holds s m args below meth c H locs 0 0 (MQ below (Post D cy sz H0 none res) args s 0 0 (fun q => sz ≤ q)) (F0 m 60 ls []) := by
  obtain ⟨hx, hb, hml, hown, hts, hKK⟩ := id E
  intro n
  induction n with
  | zero => intros; rename_i h _; cases h
  | succ n ih =>
    intro a1 u H locs ls hM hl h hk
    rw [L_X8_holds_60] at h
    refine lv_iload_n hx hb dX8_holds_60 rfl (lv_at hl 1 rfl) ?_
    refine lv_if_lt (tgt := 162) hx hb dX8_holds_61 (by decide) (fun c27 => ?_) (fun c27 => ?_)
    · replace h := (k_if h).1 c27
      exact hk a1 u H locs ls hM (lv_sub hl [0, 1] rfl) h
    · replace h := (k_if h).2 c27
      refine lv_aload_n hx hb dX8_holds_64 rfl (lv_at hl 0 rfl) ?_
      obtain ⟨ok28, h⟩ := k_gd h
      refine gs_X8_27 E hM ok28 dX8_holds_65 (fun x29 hxx29 => ?_)
      replace h := k_bb h x29 hxx29.symm
      refine lv_iload_n hx hb dX8_holds_68 rfl (lv_at hl 1 rfl) ?_
      rcases x29 with _ | k30
      · cases h
      rw [cs_s] at h
      obtain ⟨ok31, h⟩ := k_gd h
      refine m_iald E hM ok31 dX8_holds_69 ?_
      refine lv_topi (fun v32 hvv32 => ?_)
      replace h := k_bb h v32 hvv32
      refine lv_istore_n (i := 2) (lv' := [(2, .int v32), (0, .ref (sz + b0)), (1, .int a1)]) hx hb dX8_holds_70 rfl hl (by decide) (by first | rfl | simp [rv_cat, cat_i, cat_l, cat_r, cat_n]) (fun ls hl => ?_)
      refine lv_iload_n hx hb dX8_holds_71 rfl (lv_at hl 0 rfl) ?_
      refine lv_if_lt (tgt := 156) hx hb dX8_holds_72 (by decide) (fun c33 => ?_) (fun c33 => ?_)
      · replace h := (k_if h).1 c33
        obtain ⟨v34, hvv34⟩ : ∃ y : Int32, y = a1 + (-1) := ⟨_, rfl⟩
        replace h := k_bb h v34 hvv34
        refine lv_iinc (v := v34) (lv' := [(1, .int v34), (2, .int v32), (0, .ref (sz + b0))]) hx hb dX8_holds_156 hl (k := 2) rfl (by rw [hvv34]; rfl) (by decide) (by first | rfl | simp [rv_cat, cat_i, cat_l, cat_r, cat_n]) (fun ls hl => ?_)
        refine lv_goto (tgt := 60) hx hb dX8_holds_159 (by decide) ?_
        exact ih v34 u H locs ls hM (lv_sub hl [2, 0] rfl) h hk
      · replace h := (k_if h).2 c33
        refine lv_aload_n hx hb dX8_holds_75 rfl (lv_at hl 1 rfl) ?_
        refine gs_X8_39 E hM ok28 dX8_holds_76 (fun x35 hxx35 => ?_)
        replace h := k_bb h x35 hxx35.symm
        refine lv_iload_n hx hb dX8_holds_79 rfl (lv_at hl 0 rfl) ?_
        rcases x35 with _ | k36
        · cases h
        rw [cs_s] at h
        obtain ⟨ok37, h⟩ := k_gd h
        refine m_iald E hM ok37 dX8_holds_80 ?_
        refine lv_if_ge (tgt := 156) hx hb dX8_holds_81 (by decide) (fun c38 => ?_) (fun c38 => ?_)
        · replace h := (k_if h).1 c38
          obtain ⟨v39, hvv39⟩ : ∃ y : Int32, y = a1 + (-1) := ⟨_, rfl⟩
          replace h := k_bb h v39 hvv39
          refine lv_iinc (v := v39) (lv' := [(1, .int v39), (2, .int v32), (0, .ref (sz + b0))]) hx hb dX8_holds_156 hl (k := 2) rfl (by rw [hvv39]; rfl) (by decide) (by first | rfl | simp [rv_cat, cat_i, cat_l, cat_r, cat_n]) (fun ls hl => ?_)
          refine lv_goto (tgt := 60) hx hb dX8_holds_159 (by decide) ?_
          exact ih v39 u H locs ls hM (lv_sub hl [2, 0] rfl) h hk
        · replace h := (k_if h).2 c38
          refine lv_aload_n hx hb dX8_holds_84 rfl (lv_at hl 1 rfl) ?_
          refine gs_X8_60 E hM ok28 dX8_holds_85 (fun x40 hxx40 => ?_)
          replace h := k_bb h x40 hxx40.symm
          refine lv_iload_n hx hb dX8_holds_88 rfl (lv_at hl 2 rfl) ?_
          rcases x40 with _ | k41
          · cases h
          rw [cs_s] at h
          obtain ⟨ok42, h⟩ := k_gd h
          refine m_iald E hM ok42 dX8_holds_89 ?_
          refine lv_if_ge (tgt := 96) hx hb dX8_holds_90 (by decide) (fun c43 => ?_) (fun c43 => ?_)
          · replace h := (k_if h).1 c43
            refine lv_aload_n hx hb dX8_holds_96 rfl (lv_at hl 1 rfl) ?_
            refine gs_X8_60 E hM ok28 dX8_holds_97 (fun x44 hxx44 => ?_)
            replace h := k_bb h x44 hxx44.symm
            refine lv_iload_n hx hb dX8_holds_100 rfl (lv_at hl 0 rfl) ?_
            refine lv_aload_n hx hb dX8_holds_101 rfl (lv_at hl 1 rfl) ?_
            refine gs_X8_60 E hM ok28 dX8_holds_102 (fun x45 hxx45 => ?_)
            replace h := k_bb h x45 hxx45.symm
            refine lv_iload_n hx hb dX8_holds_105 rfl (lv_at hl 0 rfl) ?_
            rcases x45 with _ | k46
            · cases h
            rw [cs_s] at h
            obtain ⟨ok47, h⟩ := k_gd h
            refine m_iald E hM ok47 dX8_holds_106 ?_
            refine lv_if_ge (tgt := 119) hx hb dX8_holds_107 (by decide) (fun c48 => ?_) (fun c48 => ?_)
            · replace h := (k_if h).1 c48
              refine lv_aload_n hx hb dX8_holds_119 rfl (lv_at hl 1 rfl) ?_
              refine gs_X8_60 E hM ok28 dX8_holds_120 (fun x49 hxx49 => ?_)
              replace h := k_bb h x49 hxx49.symm
              refine lv_iload_n hx hb dX8_holds_123 rfl (lv_at hl 0 rfl) ?_
              rcases x49 with _ | k50
              · cases h
              rw [cs_s] at h
              obtain ⟨ok51, h⟩ := k_gd h
              refine m_iald E hM ok51 dX8_holds_124 ?_
              refine lv_aload_n hx hb dX8_holds_125 rfl (lv_at hl 1 rfl) ?_
              refine gs_X8_60 E hM ok28 dX8_holds_126 (fun x52 hxx52 => ?_)
              replace h := k_bb h x52 hxx52.symm
              refine lv_iload_n hx hb dX8_holds_129 rfl (lv_at hl 2 rfl) ?_
              rcases x52 with _ | k53
              · cases h
              rw [cs_s] at h
              obtain ⟨ok54, h⟩ := k_gd h
              refine m_iald E hM ok54 dX8_holds_130 ?_
              refine va_mmin hx hb (hml.trans hl.1.symm) hown (hts _ wl_X8_134) (hts _ wst_J9_min_7cf53) (hts _ wi_J9) (hts _ wd_J9_min_7cf53) (by decide) (by first | exact Nat.le_of_ble_eq_true rfl | simp [rv_cat, cat_i, cat_l, cat_r, cat_n]) (by decide) (by decide) dX8_holds_131 ?_
              rcases x44 with _ | k55
              · cases h
              rw [cs_s] at h
              obtain ⟨ok56, h⟩ := k_gd h
              refine m_iast E hM ok56 dX8_holds_134 (fun H locs hM => ?_)
              refine lv_aload_n hx hb dX8_holds_135 rfl (lv_at hl 1 rfl) ?_
              refine gs_X8_63 E hM ok28 dX8_holds_136 (fun x57 hxx57 => ?_)
              replace h := k_bb h x57 hxx57.symm
              refine lv_iload_n hx hb dX8_holds_139 rfl (lv_at hl 0 rfl) ?_
              refine lv_aload_n hx hb dX8_holds_140 rfl (lv_at hl 1 rfl) ?_
              refine gs_X8_63 E hM ok28 dX8_holds_141 (fun x58 hxx58 => ?_)
              replace h := k_bb h x58 hxx58.symm
              refine lv_iload_n hx hb dX8_holds_144 rfl (lv_at hl 0 rfl) ?_
              rcases x58 with _ | k59
              · cases h
              rw [cs_s] at h
              obtain ⟨ok60, h⟩ := k_gd h
              refine m_iald E hM ok60 dX8_holds_145 ?_
              refine lv_aload_n hx hb dX8_holds_146 rfl (lv_at hl 1 rfl) ?_
              refine gs_X8_63 E hM ok28 dX8_holds_147 (fun x61 hxx61 => ?_)
              replace h := k_bb h x61 hxx61.symm
              refine lv_iload_n hx hb dX8_holds_150 rfl (lv_at hl 2 rfl) ?_
              rcases x61 with _ | k62
              · cases h
              rw [cs_s] at h
              obtain ⟨ok63, h⟩ := k_gd h
              refine m_iald E hM ok63 dX8_holds_151 ?_
              refine va_mmax hx hb (hml.trans hl.1.symm) hown (hts _ wl_X8_139) (hts _ wst_J9_max_7cf53) (hts _ wi_J9) (hts _ wd_J9_max_7cf53) (by decide) (by first | exact Nat.le_of_ble_eq_true rfl | simp [rv_cat, cat_i, cat_l, cat_r, cat_n]) (by decide) (by decide) dX8_holds_152 ?_
              rcases x57 with _ | k64
              · cases h
              rw [cs_s] at h
              obtain ⟨ok65, h⟩ := k_gd h
              refine m_iast E hM ok65 dX8_holds_155 (fun H locs hM => ?_)
              obtain ⟨v66, hvv66⟩ : ∃ y : Int32, y = a1 + (-1) := ⟨_, rfl⟩
              replace h := k_bb h v66 hvv66
              refine lv_iinc (v := v66) (lv' := [(1, .int v66), (2, .int v32), (0, .ref (sz + b0))]) hx hb dX8_holds_156 hl (k := 2) rfl (by rw [hvv66]; rfl) (by decide) (by first | rfl | simp [rv_cat, cat_i, cat_l, cat_r, cat_n]) (fun ls hl => ?_)
              refine lv_goto (tgt := 60) hx hb dX8_holds_159 (by decide) ?_
              exact ih v66 (sI (sI u k55 (Int32.toNatClampNeg v32) (if (gI u k53 (Int32.toNatClampNeg a1)) < (gI u k50 (Int32.toNatClampNeg v32)) then (gI u k53 (Int32.toNatClampNeg a1)) else (gI u k50 (Int32.toNatClampNeg v32)))) k64 (Int32.toNatClampNeg v32) (if (gI (sI u k55 (Int32.toNatClampNeg v32) (if (gI u k53 (Int32.toNatClampNeg a1)) < (gI u k50 (Int32.toNatClampNeg v32)) then (gI u k53 (Int32.toNatClampNeg a1)) else (gI u k50 (Int32.toNatClampNeg v32)))) k59 (Int32.toNatClampNeg v32)) < (gI (sI u k55 (Int32.toNatClampNeg v32) (if (gI u k53 (Int32.toNatClampNeg a1)) < (gI u k50 (Int32.toNatClampNeg v32)) then (gI u k53 (Int32.toNatClampNeg a1)) else (gI u k50 (Int32.toNatClampNeg v32)))) k62 (Int32.toNatClampNeg a1)) then (gI (sI u k55 (Int32.toNatClampNeg v32) (if (gI u k53 (Int32.toNatClampNeg a1)) < (gI u k50 (Int32.toNatClampNeg v32)) then (gI u k53 (Int32.toNatClampNeg a1)) else (gI u k50 (Int32.toNatClampNeg v32)))) k62 (Int32.toNatClampNeg a1)) else (gI (sI u k55 (Int32.toNatClampNeg v32) (if (gI u k53 (Int32.toNatClampNeg a1)) < (gI u k50 (Int32.toNatClampNeg v32)) then (gI u k53 (Int32.toNatClampNeg a1)) else (gI u k50 (Int32.toNatClampNeg v32)))) k59 (Int32.toNatClampNeg v32)))) H locs ls hM (lv_sub hl [2, 0] rfl) h hk
            · replace h := (k_if h).2 c48
              refine lv_aload_n hx hb dX8_holds_110 rfl (lv_at hl 1 rfl) ?_
              refine gs_X8_60 E hM ok28 dX8_holds_111 (fun x67 hxx67 => ?_)
              replace h := k_bb h x67 hxx67.symm
              refine lv_iload_n hx hb dX8_holds_114 rfl (lv_at hl 2 rfl) ?_
              rcases x67 with _ | k68
              · cases h
              rw [cs_s] at h
              obtain ⟨ok69, h⟩ := k_gd h
              refine m_iald E hM ok69 dX8_holds_115 ?_
              refine lv_goto (tgt := 134) hx hb dX8_holds_116 (by decide) ?_
              rcases x44 with _ | k70
              · cases h
              rw [cs_s] at h
              obtain ⟨ok71, h⟩ := k_gd h
              refine m_iast E hM ok71 dX8_holds_134 (fun H locs hM => ?_)
              refine lv_aload_n hx hb dX8_holds_135 rfl (lv_at hl 1 rfl) ?_
              refine gs_X8_63 E hM ok28 dX8_holds_136 (fun x72 hxx72 => ?_)
              replace h := k_bb h x72 hxx72.symm
              refine lv_iload_n hx hb dX8_holds_139 rfl (lv_at hl 0 rfl) ?_
              refine lv_aload_n hx hb dX8_holds_140 rfl (lv_at hl 1 rfl) ?_
              refine gs_X8_63 E hM ok28 dX8_holds_141 (fun x73 hxx73 => ?_)
              replace h := k_bb h x73 hxx73.symm
              refine lv_iload_n hx hb dX8_holds_144 rfl (lv_at hl 0 rfl) ?_
              rcases x73 with _ | k74
              · cases h
              rw [cs_s] at h
              obtain ⟨ok75, h⟩ := k_gd h
              refine m_iald E hM ok75 dX8_holds_145 ?_
              refine lv_aload_n hx hb dX8_holds_146 rfl (lv_at hl 1 rfl) ?_
              refine gs_X8_63 E hM ok28 dX8_holds_147 (fun x76 hxx76 => ?_)
              replace h := k_bb h x76 hxx76.symm
              refine lv_iload_n hx hb dX8_holds_150 rfl (lv_at hl 2 rfl) ?_
              rcases x76 with _ | k77
              · cases h
              rw [cs_s] at h
              obtain ⟨ok78, h⟩ := k_gd h
              refine m_iald E hM ok78 dX8_holds_151 ?_
              refine va_mmax hx hb (hml.trans hl.1.symm) hown (hts _ wl_X8_139) (hts _ wst_J9_max_7cf53) (hts _ wi_J9) (hts _ wd_J9_max_7cf53) (by decide) (by first | exact Nat.le_of_ble_eq_true rfl | simp [rv_cat, cat_i, cat_l, cat_r, cat_n]) (by decide) (by decide) dX8_holds_152 ?_
              rcases x72 with _ | k79
              · cases h
              rw [cs_s] at h
              obtain ⟨ok80, h⟩ := k_gd h
              refine m_iast E hM ok80 dX8_holds_155 (fun H locs hM => ?_)
              obtain ⟨v81, hvv81⟩ : ∃ y : Int32, y = a1 + (-1) := ⟨_, rfl⟩
              replace h := k_bb h v81 hvv81
              refine lv_iinc (v := v81) (lv' := [(1, .int v81), (2, .int v32), (0, .ref (sz + b0))]) hx hb dX8_holds_156 hl (k := 2) rfl (by rw [hvv81]; rfl) (by decide) (by first | rfl | simp [rv_cat, cat_i, cat_l, cat_r, cat_n]) (fun ls hl => ?_)
              refine lv_goto (tgt := 60) hx hb dX8_holds_159 (by decide) ?_
              exact ih v81 (sI (sI u k70 (Int32.toNatClampNeg v32) (gI u k68 (Int32.toNatClampNeg a1))) k79 (Int32.toNatClampNeg v32) (if (gI (sI u k70 (Int32.toNatClampNeg v32) (gI u k68 (Int32.toNatClampNeg a1))) k74 (Int32.toNatClampNeg v32)) < (gI (sI u k70 (Int32.toNatClampNeg v32) (gI u k68 (Int32.toNatClampNeg a1))) k77 (Int32.toNatClampNeg a1)) then (gI (sI u k70 (Int32.toNatClampNeg v32) (gI u k68 (Int32.toNatClampNeg a1))) k77 (Int32.toNatClampNeg a1)) else (gI (sI u k70 (Int32.toNatClampNeg v32) (gI u k68 (Int32.toNatClampNeg a1))) k74 (Int32.toNatClampNeg v32)))) H locs ls hM (lv_sub hl [2, 0] rfl) h hk
          · replace h := (k_if h).2 c43
            refine lv_goto (tgt := 156) hx hb dX8_holds_93 (by decide) ?_
            obtain ⟨v82, hvv82⟩ : ∃ y : Int32, y = a1 + (-1) := ⟨_, rfl⟩
            replace h := k_bb h v82 hvv82
            refine lv_iinc (v := v82) (lv' := [(1, .int v82), (2, .int v32), (0, .ref (sz + b0))]) hx hb dX8_holds_156 hl (k := 2) rfl (by rw [hvv82]; rfl) (by decide) (by first | rfl | simp [rv_cat, cat_i, cat_l, cat_r, cat_n]) (fun ls hl => ?_)
            refine lv_goto (tgt := 60) hx hb dX8_holds_159 (by decide) ?_
            exact ih v82 u H locs ls hM (lv_sub hl [2, 0] rfl) h hk

def f_X8_holds (r : Nat) (u : Mm) : Option (Mm) := L_X8_holds_2 r  (fun a23 u24 => gd (okO u24 r 8) (bb (((gI u24 r 7) - (1 : Int32))) (fun v26 => L_X8_holds_60 r  (fun a83 u84 => some u84) 1000 v26 u24))) 1000 (0 : Int32) u
set_option maxHeartbeats 4000000 in
set_option maxRecDepth 100000 in
theorem c_X8_holds (l : Launch) (D : va_G) (cy : Nat → ClassId) (sz : Nat) (H0 : Heap) (u : Mm) (r : Nat) {res : Mm} (h : f_X8_holds r u = some res) : Ctr l yX8_holds cX8_holds 3 none rm_X8_holds 0 0 D cy sz H0 u [.ref (sz + r)] none res := by
  refine m_start (lv := [(0, .ref (sz + r))]) (by decide) (by first | exact Nat.le_of_ble_eq_true rfl | simp [lg_sl, rv_cat, cat_i, cat_l, cat_r, cat_n]) (by first | rfl | simp [lv_args, rv_cat, cat_i, cat_l, cat_r, cat_n]) ?_
  intro p e s m below meth c ls E hr hlk hinit hM hl
  obtain ⟨hx, hb, hml, hown, hts, hKK⟩ := id E
  obtain ⟨H, hH⟩ : ∃ H, H = s.heap := ⟨_, rfl⟩
  obtain ⟨locs, hlocs⟩ : ∃ L : List Loc, L = [] := ⟨_, rfl⟩
  rw [← hH, ← hlocs] at hM ⊢
  unfold f_X8_holds at h
  refine lv_iconst (v := 0) hx hb dX8_holds_0 (by decide) ?_
  refine lv_istore_n (i := 1) (lv' := [(1, .int (0 : Int32)), (0, .ref (sz + r))]) hx hb dX8_holds_1 rfl hl (by decide) (by first | rfl | simp [rv_cat, cat_i, cat_l, cat_r, cat_n]) (fun ls hl => ?_)
  refine lp_X8_holds_2 hr hlk  E 1000 (0 : Int32) u H locs ls hM (lv_sub hl [1, 0] rfl) h (fun a23 u24 H locs ls hM hl h => ?_)
  refine lv_aload_n hx hb dX8_holds_53 rfl (lv_at hl 0 rfl) ?_
  obtain ⟨ok25, h⟩ := k_gd h
  refine gs_X8_118 E hM ok25 dX8_holds_54 ?_
  refine lv_iconst (v := 1) hx hb dX8_holds_57 (by decide) ?_
  refine lv_isub hx hb dX8_holds_58 ?_
  refine lv_topi (fun v26 hvv26 => ?_)
  replace h := k_bb h v26 hvv26
  refine lv_istore_n (i := 1) (lv' := [(1, .int v26), (0, .ref (sz + r))]) hx hb dX8_holds_59 rfl hl (by decide) (by first | rfl | simp [rv_cat, cat_i, cat_l, cat_r, cat_n]) (fun ls hl => ?_)
  refine lp_X8_holds_60 hr hlk  E 1000 v26 u24 H locs ls hM (lv_sub hl [1, 0] rfl) h (fun a83 u84 H locs ls hM hl h => ?_)
  cases h
  exact m_vret hx hb hr hlk hM rfl dX8_holds_162

abbrev rm_X8_held : Room := { frames := 2, cells := 0, slots := 0, locals := 72 }
def f_X8_held (r : Nat) (p1 : Int32) (p2 : Int32) (u : Mm) : Option ((Int32) × Mm) := gd (okO u r 8) (bd (f_X8_isThing r p1 (sI (sI u r 1 (0 : Int32)) r 0 (0 : Int32))) (fun w2 => (if w2 = 0 then bd (f_X8_refuse r (2 : Int32) (sI (sI u r 1 (0 : Int32)) r 0 (0 : Int32))) (fun w18 => some (w18.1, w18.2)) else bd (f_X8_holds r (sI (sI u r 1 (0 : Int32)) r 0 (0 : Int32))) (fun w4 => gd (okO w4 r 8) (bb (gR w4 r 20) (fun x6 => cs x6 none (fun k7 => gd (okA w4 k7 9 p1) ((if 0 ≤ (gI w4 k7 (Int32.toNatClampNeg p1)) then (if p2 = 0 then bb (gR w4 r 20) (fun x11 => cs x11 none (fun k12 => gd (okA w4 k12 9 p1) (some ((gI w4 k12 (Int32.toNatClampNeg p1)), w4)))) else bb (gR w4 r 21) (fun x14 => cs x14 none (fun k15 => gd (okA w4 k15 9 p1) (some ((gI w4 k15 (Int32.toNatClampNeg p1)), w4))))) else bd (f_X8_refuse r (9 : Int32) w4) (fun w17 => some (w17.1, w17.2)))))))))))
set_option maxHeartbeats 4000000 in
set_option maxRecDepth 100000 in
theorem c_X8_held (l : Launch) (D : va_G) (cy : Nat → ClassId) (sz : Nat) (H0 : Heap) (u : Mm) (r : Nat) (p1 : Int32) (p2 : Int32) {res : (Int32) × Mm} (h : f_X8_held r p1 p2 u = some res) : Ctr l yX8_held cX8_held 3 (some .int) rm_X8_held 0 0 D cy sz H0 u [.ref (sz + r), .int p1, .int p2] (some (.int res.1)) res.2 := by
  refine m_start (lv := [(0, .ref (sz + r)), (1, .int p1), (2, .int p2)]) (by decide) (by first | exact Nat.le_of_ble_eq_true rfl | simp [lg_sl, rv_cat, cat_i, cat_l, cat_r, cat_n]) (by first | rfl | simp [lv_args, rv_cat, cat_i, cat_l, cat_r, cat_n]) ?_
  intro p e s m below meth c ls E hr hlk hinit hM hl
  obtain ⟨hx, hb, hml, hown, hts, hKK⟩ := id E
  obtain ⟨H, hH⟩ : ∃ H, H = s.heap := ⟨_, rfl⟩
  obtain ⟨locs, hlocs⟩ : ∃ L : List Loc, L = [] := ⟨_, rfl⟩
  rw [← hH, ← hlocs] at hM ⊢
  unfold f_X8_held at h
  refine lv_aload_n hx hb dX8_held_0 rfl (lv_at hl 0 rfl) ?_
  refine lv_iconst (v := 0) hx hb dX8_held_1 (by decide) ?_
  obtain ⟨ok1, h⟩ := k_gd h
  refine ps_X8_93 (v := (0 : Int32)) E hM ok1 dX8_held_2 (fun H locs hM => ?_)
  refine lv_aload_n hx hb dX8_held_5 rfl (lv_at hl 0 rfl) ?_
  refine lv_iconst (v := 0) hx hb dX8_held_6 (by decide) ?_
  refine ps_X8_97 (v := (0 : Int32)) E hM ok1 dX8_held_7 (fun H locs hM => ?_)
  refine lv_aload_n hx hb dX8_held_10 rfl (lv_at hl 0 rfl) ?_
  refine lv_iload_n hx hb dX8_held_11 rfl (lv_at hl 1 rfl) ?_
  obtain ⟨w2, hzw2, h⟩ := k_bd h
  refine m_callV (C := RX8) (T := TX8) (N := 33) (ci := 8) (n := 1) (As := [.int p1]) (rest := []) (st1 := (.int w2 :: [])) E hM hl.1 ok1 (by decide) rfl rfl (c_X8_isThing l D cy sz H0 (sI (sI u r 1 (0 : Int32)) r 0 (0 : Int32)) r p1 hzw2) wl_X8_124 wm_X8_isThing ws_X8_isThing wi_X8 wd_X8_isThing rfl rfl (by decide +kernel) ⟨by decide, by decide⟩ rfl rfl (by first | exact Nat.le_of_ble_eq_true rfl | simp [rv_cat, cat_i, cat_l, cat_r, cat_n]) dX8_held_12 ⟨by decide, by decide⟩ rfl (fun H locs hM => ?_)
  refine lv_if_ne (tgt := 24) hx hb dX8_held_15 (by decide) (fun c3 => ?_) (fun c3 => ?_)
  · replace h := (k_if h).2 c3
    refine lv_aload_n hx hb dX8_held_24 rfl (lv_at hl 0 rfl) ?_
    obtain ⟨w4, hzw4, h⟩ := k_bd h
    refine m_callV (C := RX8) (T := TX8) (N := 33) (ci := 8) (n := 0) (As := []) (rest := []) (st1 := []) E hM hl.1 ok1 (by decide) rfl rfl (c_X8_holds l D cy sz H0 (sI (sI u r 1 (0 : Int32)) r 0 (0 : Int32)) r hzw4) wl_X8_142 wm_X8_holds ws_X8_holds wi_X8 wd_X8_holds rfl rfl (by decide +kernel) ⟨by decide, by decide⟩ rfl rfl (by first | exact Nat.le_of_ble_eq_true rfl | simp [rv_cat, cat_i, cat_l, cat_r, cat_n]) dX8_held_25 ⟨by decide, by decide⟩ rfl (fun H locs hM => ?_)
    refine lv_aload_n hx hb dX8_held_28 rfl (lv_at hl 0 rfl) ?_
    obtain ⟨ok5, h⟩ := k_gd h
    refine gs_X8_60 E hM ok5 dX8_held_29 (fun x6 hxx6 => ?_)
    replace h := k_bb h x6 hxx6.symm
    refine lv_iload_n hx hb dX8_held_32 rfl (lv_at hl 1 rfl) ?_
    rcases x6 with _ | k7
    · cases h
    rw [cs_s] at h
    obtain ⟨ok8, h⟩ := k_gd h
    refine m_iald E hM ok8 dX8_held_33 ?_
    refine lv_if_ge (tgt := 46) hx hb dX8_held_34 (by decide) (fun c9 => ?_) (fun c9 => ?_)
    · replace h := (k_if h).1 c9
      refine lv_iload_n hx hb dX8_held_46 rfl (lv_at hl 2 rfl) ?_
      refine lv_if_eq (tgt := 59) hx hb dX8_held_47 (by decide) (fun c10 => ?_) (fun c10 => ?_)
      · replace h := (k_if h).1 c10
        refine lv_aload_n hx hb dX8_held_59 rfl (lv_at hl 0 rfl) ?_
        refine gs_X8_60 E hM ok5 dX8_held_60 (fun x11 hxx11 => ?_)
        replace h := k_bb h x11 hxx11.symm
        refine lv_iload_n hx hb dX8_held_63 rfl (lv_at hl 1 rfl) ?_
        rcases x11 with _ | k12
        · cases h
        rw [cs_s] at h
        obtain ⟨ok13, h⟩ := k_gd h
        refine m_iald E hM ok13 dX8_held_64 ?_
        cases h
        exact m_iret hx hb hr hlk hM rfl rfl dX8_held_65
      · replace h := (k_if h).2 c10
        refine lv_aload_n hx hb dX8_held_50 rfl (lv_at hl 0 rfl) ?_
        refine gs_X8_63 E hM ok5 dX8_held_51 (fun x14 hxx14 => ?_)
        replace h := k_bb h x14 hxx14.symm
        refine lv_iload_n hx hb dX8_held_54 rfl (lv_at hl 1 rfl) ?_
        rcases x14 with _ | k15
        · cases h
        rw [cs_s] at h
        obtain ⟨ok16, h⟩ := k_gd h
        refine m_iald E hM ok16 dX8_held_55 ?_
        refine lv_goto (tgt := 65) hx hb dX8_held_56 (by decide) ?_
        cases h
        exact m_iret hx hb hr hlk hM rfl rfl dX8_held_65
    · replace h := (k_if h).2 c9
      refine lv_aload_n hx hb dX8_held_37 rfl (lv_at hl 0 rfl) ?_
      refine lv_bipush (v := 9) hx hb dX8_held_38 (by decide) ?_
      obtain ⟨w17, hzw17, h⟩ := k_bd h
      refine m_callV (C := RX8) (T := TX8) (N := 33) (ci := 8) (n := 1) (As := [.int (9 : Int32)]) (rest := []) (st1 := (.int w17.1 :: [])) E hM hl.1 ok5 (by decide) rfl rfl (c_X8_refuse l D cy sz H0 w4 r (9 : Int32) hzw17) wl_X8_121 wm_X8_refuse ws_X8_refuse wi_X8 wd_X8_refuse rfl rfl (by decide +kernel) ⟨by decide, by decide⟩ rfl rfl (by first | exact Nat.le_of_ble_eq_true rfl | simp [rv_cat, cat_i, cat_l, cat_r, cat_n]) dX8_held_40 ⟨by decide, by decide⟩ rfl (fun H locs hM => ?_)
      refine lv_goto (tgt := 65) hx hb dX8_held_43 (by decide) ?_
      cases h
      exact m_iret hx hb hr hlk hM rfl rfl dX8_held_65
  · replace h := (k_if h).1 c3
    refine lv_aload_n hx hb dX8_held_18 rfl (lv_at hl 0 rfl) ?_
    refine lv_iconst (v := 2) hx hb dX8_held_19 (by decide) ?_
    obtain ⟨w18, hzw18, h⟩ := k_bd h
    refine m_callV (C := RX8) (T := TX8) (N := 33) (ci := 8) (n := 1) (As := [.int (2 : Int32)]) (rest := []) (st1 := (.int w18.1 :: [])) E hM hl.1 ok1 (by decide) rfl rfl (c_X8_refuse l D cy sz H0 (sI (sI u r 1 (0 : Int32)) r 0 (0 : Int32)) r (2 : Int32) hzw18) wl_X8_121 wm_X8_refuse ws_X8_refuse wi_X8 wd_X8_refuse rfl rfl (by decide +kernel) ⟨by decide, by decide⟩ rfl rfl (by first | exact Nat.le_of_ble_eq_true rfl | simp [rv_cat, cat_i, cat_l, cat_r, cat_n]) dX8_held_20 ⟨by decide, by decide⟩ rfl (fun H locs hM => ?_)
    cases h
    exact m_iret hx hb hr hlk hM rfl rfl dX8_held_23

