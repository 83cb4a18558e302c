abbrev rm_X8_quarrel : Room := { frames := 1, cells := 0, slots := 0, locals := 36 }
def L_X8_quarrel_52 (b0 : Nat) (b1 : Int32) (b2 : Int32) (b3 : Int32) (u : Mm) (k : Int32 → Option ((Int32) × Mm)) : Nat → Int32 → Option ((Int32) × Mm)
  | 0, _ => none
  | n + 1, a4 => (if a4 < 0 then k a4 else gd (okO u b0 8) (bb (gR u b0 13) (fun x15 => cs x15 none (fun k16 => gd (okA u k16 9 a4) ((if 0 ≤ (gI u k16 (Int32.toNatClampNeg a4)) then k a4 else bb (gR u b0 9) (fun x19 => cs x19 none (fun k20 => gd (okA u k20 9 a4) (bb ((gI u k20 (Int32.toNatClampNeg a4))) (fun v22 => L_X8_quarrel_52 b0 b1 b2 b3 u k n v22))))))))))
set_option maxHeartbeats 4000000 in
set_option maxRecDepth 100000 in
theorem lp_X8_quarrel_52 {p : Program} {l : Launch} {e : Env} {s : State} {m : MethodId} {args : Array Value} {below : List Frame} {meth : Method} {c : Code} {D : va_G} {cy : Nat → ClassId} {sz : Nat} {H0 : Heap} {b0 : Nat} {b1 : Int32} {b2 : Int32} {b3 : Int32} {u : Mm} {k : Int32 → Option ((Int32) × Mm)} {res : (Int32) × Mm} (hr : meth.sig.returnType = (some .int)) (hlk : meth.locks = false) (E : EE p s m args c cX8_quarrel 5 RX8 D cy) : ∀ (n : Nat) (a4 : Int32) (H : Heap) (locs : List Loc) (ls : Array Slot), MM D cy sz H0 u H locs → lv_has ls 5 [(0, .ref (sz + b0)), (1, .int b1), (2, .int b2), (3, .int b3), (4, .int a4)] → L_X8_quarrel_52 b0 b1 b2 b3 u k n a4 = some res → (∀ (a4 : Int32) (H : Heap) (locs : List Loc) (ls : Array Slot), MM D cy sz H0 u H locs → lv_has ls 5 [(0, .ref (sz + b0)), (1, .int b1), (2, .int b2), (3, .int b3), (4, .int a4)] → k a4 = some res → W p l e rm_X8_quarrel s m args below meth c H locs 0 0 (MQ below (Post D cy sz H0 (some (.int res.1)) res.2) args s 0 0 (fun q => sz ≤ q)) (F0 m 79 ls [])) → W p l e rm_X8_quarrel s m args below meth c H locs 0 0 (MQ below (Post D cy sz H0 (some (.int res.1)) res.2) args s 0 0 (fun q => sz ≤ q)) (F0 m 52 ls []) := by
  obtain ⟨hx, hb, hml, hown, hts, hKK⟩ := id E
  intro n
  induction n with
  | zero => intros; rename_i h _; cases h
  | succ n ih =>
    intro a4 H locs ls hM hl h hk
    rw [L_X8_quarrel_52] at h
    refine lv_iload hx hb dX8_quarrel_52 (lv_at hl 4 rfl) ?_
    refine lv_if_lt (tgt := 79) hx hb dX8_quarrel_54 (by decide) (fun c13 => ?_) (fun c13 => ?_)
    · replace h := (k_if h).1 c13
      exact hk a4 H locs ls hM (lv_sub hl [0, 1, 2, 3, 4] rfl) h
    · replace h := (k_if h).2 c13
      refine lv_aload_n hx hb dX8_quarrel_57 rfl (lv_at hl 0 rfl) ?_
      obtain ⟨ok14, h⟩ := k_gd h
      refine gs_X8_39 E hM ok14 dX8_quarrel_58 (fun x15 hxx15 => ?_)
      replace h := k_bb h x15 hxx15.symm
      refine lv_iload hx hb dX8_quarrel_61 (lv_at hl 4 rfl) ?_
      rcases x15 with _ | k16
      · cases h
      rw [cs_s] at h
      obtain ⟨ok17, h⟩ := k_gd h
      refine m_iald E hM ok17 dX8_quarrel_63 ?_
      refine lv_if_ge (tgt := 79) hx hb dX8_quarrel_64 (by decide) (fun c18 => ?_) (fun c18 => ?_)
      · replace h := (k_if h).1 c18
        exact hk a4 H locs ls hM (lv_sub hl [0, 1, 2, 3, 4] rfl) h
      · replace h := (k_if h).2 c18
        refine lv_aload_n hx hb dX8_quarrel_67 rfl (lv_at hl 0 rfl) ?_
        refine gs_X8_27 E hM ok14 dX8_quarrel_68 (fun x19 hxx19 => ?_)
        replace h := k_bb h x19 hxx19.symm
        refine lv_iload hx hb dX8_quarrel_71 (lv_at hl 4 rfl) ?_
        rcases x19 with _ | k20
        · cases h
        rw [cs_s] at h
        obtain ⟨ok21, h⟩ := k_gd h
        refine m_iald E hM ok21 dX8_quarrel_73 ?_
        refine lv_topi (fun v22 hvv22 => ?_)
        replace h := k_bb h v22 hvv22
        refine lv_istore (i := 4) (lv' := [(4, .int v22), (0, .ref (sz + b0)), (1, .int b1), (2, .int b2), (3, .int b3)]) hx hb dX8_quarrel_74 hl (by decide) (by first | rfl | simp [rv_cat, cat_i, cat_l, cat_r, cat_n]) (fun ls hl => ?_)
        refine lv_goto (tgt := 52) hx hb dX8_quarrel_76 (by decide) ?_
        exact ih v22 H locs ls hM (lv_sub hl [1, 2, 3, 4, 0] rfl) h hk

def L_X8_quarrel_24 (b0 : Nat) (b1 : Int32) (u : Mm) (k : Int32 → Int32 → Option ((Int32) × Mm)) : Nat → Int32 → Int32 → Option ((Int32) × Mm)
  | 0, _, _ => none
  | n + 1, a2, a3 => gd (okO u b0 8) ((if (gI u b0 7) ≤ a3 then k a2 a3 else bb (gR u b0 13) (fun x5 => cs x5 none (fun k6 => gd (okA u k6 9 a3) ((if 0 ≤ (gI u k6 (Int32.toNatClampNeg a3)) then bb (gR u b0 9) (fun x9 => cs x9 none (fun k10 => gd (okA u k10 9 a3) (bb ((gI u k10 (Int32.toNatClampNeg a3))) (fun v12 => L_X8_quarrel_52 b0 b1 a2 a3 u (fun a23 => (if a23 < 0 then bb (a3 + (1)) (fun v25 => L_X8_quarrel_24 b0 b1 u k n a2 v25) else bb (gR u b0 13) (fun x26 => cs x26 none (fun k27 => gd (okA u k27 9 a3) (bb (gR u b0 13) (fun x29 => cs x29 none (fun k30 => gd (okA u k30 9 a23) ((if (gI u k27 (Int32.toNatClampNeg a3)) < (gI u k30 (Int32.toNatClampNeg a23)) then (if a2 = b1 then some (a3, u) else bb (a2 + (1)) (fun v34 => bb (a3 + (1)) (fun v35 => L_X8_quarrel_24 b0 b1 u k n v34 v35))) else bb (gR u b0 14) (fun x36 => cs x36 none (fun k37 => gd (okA u k37 9 a3) (bb (gR u b0 14) (fun x39 => cs x39 none (fun k40 => gd (okA u k40 9 a23) ((if (gI u k40 (Int32.toNatClampNeg a23)) < (gI u k37 (Int32.toNatClampNeg a3)) then (if a2 = b1 then some (a3, u) else bb (a2 + (1)) (fun v44 => bb (a3 + (1)) (fun v45 => L_X8_quarrel_24 b0 b1 u k n v44 v45))) else bb (a3 + (1)) (fun v46 => L_X8_quarrel_24 b0 b1 u k n a2 v46))))))))))))))))) 1000 v12 )))) else bb (a3 + (1)) (fun v47 => L_X8_quarrel_24 b0 b1 u k n a2 v47)))))))
set_option maxHeartbeats 4000000 in
set_option maxRecDepth 100000 in
theorem lp_X8_quarrel_24 {p : Program} {l : Launch} {e : Env} {s : State} {m : MethodId} {args : Array Value} {below : List Frame} {meth : Method} {c : Code} {D : va_G} {cy : Nat → ClassId} {sz : Nat} {H0 : Heap} {b0 : Nat} {b1 : Int32} {u : Mm} {k : Int32 → Int32 → Option ((Int32) × Mm)} {res : (Int32) × Mm} (hr : meth.sig.returnType = (some .int)) (hlk : meth.locks = false) (E : EE p s m args c cX8_quarrel 5 RX8 D cy) : ∀ (n : Nat) (a2 : Int32) (a3 : Int32) (H : Heap) (locs : List Loc) (ls : Array Slot), MM D cy sz H0 u H locs → lv_has ls 5 [(0, .ref (sz + b0)), (1, .int b1), (2, .int a2), (3, .int a3)] → L_X8_quarrel_24 b0 b1 u k n a2 a3 = some res → (∀ (a2 : Int32) (a3 : Int32) (H : Heap) (locs : List Loc) (ls : Array Slot), MM D cy sz H0 u H locs → lv_has ls 5 [(0, .ref (sz + b0)), (1, .int b1), (2, .int a2), (3, .int a3)] → k a2 a3 = some res → W p l e rm_X8_quarrel s m args below meth c H locs 0 0 (MQ below (Post D cy sz H0 (some (.int res.1)) res.2) args s 0 0 (fun q => sz ≤ q)) (F0 m 135 ls [])) → W p l e rm_X8_quarrel s m args below meth c H locs 0 0 (MQ below (Post D cy sz H0 (some (.int res.1)) res.2) args s 0 0 (fun q => sz ≤ q)) (F0 m 24 ls []) := by
  obtain ⟨hx, hb, hml, hown, hts, hKK⟩ := id E
  intro n
  induction n with
  | zero => intros; rename_i h _; cases h
  | succ n ih =>
    intro a2 a3 H locs ls hM hl h hk
    rw [L_X8_quarrel_24] at h
    refine lv_iload_n hx hb dX8_quarrel_24 rfl (lv_at hl 3 rfl) ?_
    refine lv_aload_n hx hb dX8_quarrel_25 rfl (lv_at hl 0 rfl) ?_
    obtain ⟨ok3, h⟩ := k_gd h
    refine gs_X8_118 E hM ok3 dX8_quarrel_26 ?_
    refine lv_icmp_ge (tgt := 135) hx hb dX8_quarrel_29 (by decide) (fun c4 => ?_) (fun c4 => ?_)
    · replace h := (k_if h).1 c4
      exact hk a2 a3 H locs ls hM (lv_sub hl [0, 1, 2, 3] rfl) h
    · replace h := (k_if h).2 c4
      refine lv_aload_n hx hb dX8_quarrel_32 rfl (lv_at hl 0 rfl) ?_
      refine gs_X8_39 E hM ok3 dX8_quarrel_33 (fun x5 hxx5 => ?_)
      replace h := k_bb h x5 hxx5.symm
      refine lv_iload_n hx hb dX8_quarrel_36 rfl (lv_at hl 3 rfl) ?_
      rcases x5 with _ | k6
      · cases h
      rw [cs_s] at h
      obtain ⟨ok7, h⟩ := k_gd h
      refine m_iald E hM ok7 dX8_quarrel_37 ?_
      refine lv_if_ge (tgt := 44) hx hb dX8_quarrel_38 (by decide) (fun c8 => ?_) (fun c8 => ?_)
      · replace h := (k_if h).1 c8
        refine lv_aload_n hx hb dX8_quarrel_44 rfl (lv_at hl 0 rfl) ?_
        refine gs_X8_27 E hM ok3 dX8_quarrel_45 (fun x9 hxx9 => ?_)
        replace h := k_bb h x9 hxx9.symm
        refine lv_iload_n hx hb dX8_quarrel_48 rfl (lv_at hl 3 rfl) ?_
        rcases x9 with _ | k10
        · cases h
        rw [cs_s] at h
        obtain ⟨ok11, h⟩ := k_gd h
        refine m_iald E hM ok11 dX8_quarrel_49 ?_
        refine lv_topi (fun v12 hvv12 => ?_)
        replace h := k_bb h v12 hvv12
        refine lv_istore (i := 4) (lv' := [(4, .int v12), (0, .ref (sz + b0)), (1, .int b1), (2, .int a2), (3, .int a3)]) hx hb dX8_quarrel_50 hl (by decide) (by first | rfl | simp [rv_cat, cat_i, cat_l, cat_r, cat_n]) (fun ls hl => ?_)
        refine lp_X8_quarrel_52 hr hlk  E 1000 v12 H locs ls hM (lv_sub hl [1, 2, 3, 4, 0] rfl) h (fun a23 H locs ls hM hl h => ?_)
        refine lv_iload hx hb dX8_quarrel_79 (lv_at hl 4 rfl) ?_
        refine lv_if_lt (tgt := 129) hx hb dX8_quarrel_81 (by decide) (fun c24 => ?_) (fun c24 => ?_)
        · replace h := (k_if h).1 c24
          obtain ⟨v25, hvv25⟩ : ∃ y : Int32, y = a3 + (1) := ⟨_, rfl⟩
          replace h := k_bb h v25 hvv25
          refine lv_iinc (v := v25) (lv' := [(3, .int v25), (0, .ref (sz + b0)), (1, .int b1), (2, .int a2), (4, .int a23)]) hx hb dX8_quarrel_129 hl (k := 3) rfl (by rw [hvv25]; rfl) (by decide) (by first | rfl | simp [rv_cat, cat_i, cat_l, cat_r, cat_n]) (fun ls hl => ?_)
          refine lv_goto (tgt := 24) hx hb dX8_quarrel_132 (by decide) ?_
          exact ih a2 v25 H locs ls hM (lv_sub hl [1, 2, 3, 0] rfl) h hk
        · replace h := (k_if h).2 c24
          refine lv_aload_n hx hb dX8_quarrel_84 rfl (lv_at hl 0 rfl) ?_
          refine gs_X8_39 E hM ok3 dX8_quarrel_85 (fun x26 hxx26 => ?_)
          replace h := k_bb h x26 hxx26.symm
          refine lv_iload_n hx hb dX8_quarrel_88 rfl (lv_at hl 3 rfl) ?_
          rcases x26 with _ | k27
          · cases h
          rw [cs_s] at h
          obtain ⟨ok28, h⟩ := k_gd h
          refine m_iald E hM ok28 dX8_quarrel_89 ?_
          refine lv_aload_n hx hb dX8_quarrel_90 rfl (lv_at hl 0 rfl) ?_
          refine gs_X8_39 E hM ok3 dX8_quarrel_91 (fun x29 hxx29 => ?_)
          replace h := k_bb h x29 hxx29.symm
          refine lv_iload hx hb dX8_quarrel_94 (lv_at hl 4 rfl) ?_
          rcases x29 with _ | k30
          · cases h
          rw [cs_s] at h
          obtain ⟨ok31, h⟩ := k_gd h
          refine m_iald E hM ok31 dX8_quarrel_96 ?_
          refine lv_icmp_lt (tgt := 119) hx hb dX8_quarrel_97 (by decide) (fun c32 => ?_) (fun c32 => ?_)
          · replace h := (k_if h).1 c32
            refine lv_iload_n hx hb dX8_quarrel_119 rfl (lv_at hl 2 rfl) ?_
            refine lv_iload_n hx hb dX8_quarrel_120 rfl (lv_at hl 1 rfl) ?_
            refine lv_icmp_ne (tgt := 126) hx hb dX8_quarrel_121 (by decide) (fun c33 => ?_) (fun c33 => ?_)
            · replace h := (k_if h).2 c33
              obtain ⟨v34, hvv34⟩ : ∃ y : Int32, y = a2 + (1) := ⟨_, rfl⟩
              replace h := k_bb h v34 hvv34
              refine lv_iinc (v := v34) (lv' := [(2, .int v34), (0, .ref (sz + b0)), (1, .int b1), (3, .int a3), (4, .int a23)]) hx hb dX8_quarrel_126 hl (k := 2) rfl (by rw [hvv34]; rfl) (by decide) (by first | rfl | simp [rv_cat, cat_i, cat_l, cat_r, cat_n]) (fun ls hl => ?_)
              obtain ⟨v35, hvv35⟩ : ∃ y : Int32, y = a3 + (1) := ⟨_, rfl⟩
              replace h := k_bb h v35 hvv35
              refine lv_iinc (v := v35) (lv' := [(3, .int v35), (2, .int v34), (0, .ref (sz + b0)), (1, .int b1), (4, .int a23)]) hx hb dX8_quarrel_129 hl (k := 3) rfl (by rw [hvv35]; rfl) (by decide) (by first | rfl | simp [rv_cat, cat_i, cat_l, cat_r, cat_n]) (fun ls hl => ?_)
              refine lv_goto (tgt := 24) hx hb dX8_quarrel_132 (by decide) ?_
              exact ih v34 v35 H locs ls hM (lv_sub hl [2, 3, 1, 0] rfl) h hk
            · replace h := (k_if h).1 c33
              refine lv_iload_n hx hb dX8_quarrel_124 rfl (lv_at hl 3 rfl) ?_
              cases h
              exact m_iret hx hb hr hlk hM rfl rfl dX8_quarrel_125
          · replace h := (k_if h).2 c32
            refine lv_aload_n hx hb dX8_quarrel_100 rfl (lv_at hl 0 rfl) ?_
            refine gs_X8_42 E hM ok3 dX8_quarrel_101 (fun x36 hxx36 => ?_)
            replace h := k_bb h x36 hxx36.symm
            refine lv_iload_n hx hb dX8_quarrel_104 rfl (lv_at hl 3 rfl) ?_
            rcases x36 with _ | k37
            · cases h
            rw [cs_s] at h
            obtain ⟨ok38, h⟩ := k_gd h
            refine m_iald E hM ok38 dX8_quarrel_105 ?_
            refine lv_aload_n hx hb dX8_quarrel_106 rfl (lv_at hl 0 rfl) ?_
            refine gs_X8_42 E hM ok3 dX8_quarrel_107 (fun x39 hxx39 => ?_)
            replace h := k_bb h x39 hxx39.symm
            refine lv_iload hx hb dX8_quarrel_110 (lv_at hl 4 rfl) ?_
            rcases x39 with _ | k40
            · cases h
            rw [cs_s] at h
            obtain ⟨ok41, h⟩ := k_gd h
            refine m_iald E hM ok41 dX8_quarrel_112 ?_
            refine lv_icmp_gt (tgt := 119) hx hb dX8_quarrel_113 (by decide) (fun c42 => ?_) (fun c42 => ?_)
            · replace h := (k_if h).1 c42
              refine lv_iload_n hx hb dX8_quarrel_119 rfl (lv_at hl 2 rfl) ?_
              refine lv_iload_n hx hb dX8_quarrel_120 rfl (lv_at hl 1 rfl) ?_
              refine lv_icmp_ne (tgt := 126) hx hb dX8_quarrel_121 (by decide) (fun c43 => ?_) (fun c43 => ?_)
              · replace h := (k_if h).2 c43
                obtain ⟨v44, hvv44⟩ : ∃ y : Int32, y = a2 + (1) := ⟨_, rfl⟩
                replace h := k_bb h v44 hvv44
                refine lv_iinc (v := v44) (lv' := [(2, .int v44), (0, .ref (sz + b0)), (1, .int b1), (3, .int a3), (4, .int a23)]) hx hb dX8_quarrel_126 hl (k := 2) rfl (by rw [hvv44]; rfl) (by decide) (by first | rfl | simp [rv_cat, cat_i, cat_l, cat_r, cat_n]) (fun ls hl => ?_)
                obtain ⟨v45, hvv45⟩ : ∃ y : Int32, y = a3 + (1) := ⟨_, rfl⟩
                replace h := k_bb h v45 hvv45
                refine lv_iinc (v := v45) (lv' := [(3, .int v45), (2, .int v44), (0, .ref (sz + b0)), (1, .int b1), (4, .int a23)]) hx hb dX8_quarrel_129 hl (k := 3) rfl (by rw [hvv45]; rfl) (by decide) (by first | rfl | simp [rv_cat, cat_i, cat_l, cat_r, cat_n]) (fun ls hl => ?_)
                refine lv_goto (tgt := 24) hx hb dX8_quarrel_132 (by decide) ?_
                exact ih v44 v45 H locs ls hM (lv_sub hl [2, 3, 1, 0] rfl) h hk
              · replace h := (k_if h).1 c43
                refine lv_iload_n hx hb dX8_quarrel_124 rfl (lv_at hl 3 rfl) ?_
                cases h
                exact m_iret hx hb hr hlk hM rfl rfl dX8_quarrel_125
            · replace h := (k_if h).2 c42
              refine lv_goto (tgt := 129) hx hb dX8_quarrel_116 (by decide) ?_
              obtain ⟨v46, hvv46⟩ : ∃ y : Int32, y = a3 + (1) := ⟨_, rfl⟩
              replace h := k_bb h v46 hvv46
              refine lv_iinc (v := v46) (lv' := [(3, .int v46), (0, .ref (sz + b0)), (1, .int b1), (2, .int a2), (4, .int a23)]) hx hb dX8_quarrel_129 hl (k := 3) rfl (by rw [hvv46]; rfl) (by decide) (by first | rfl | simp [rv_cat, cat_i, cat_l, cat_r, cat_n]) (fun ls hl => ?_)
              refine lv_goto (tgt := 24) hx hb dX8_quarrel_132 (by decide) ?_
              exact ih a2 v46 H locs ls hM (lv_sub hl [1, 2, 3, 0] rfl) h hk
      · replace h := (k_if h).2 c8
        refine lv_goto (tgt := 129) hx hb dX8_quarrel_41 (by decide) ?_
        obtain ⟨v47, hvv47⟩ : ∃ y : Int32, y = a3 + (1) := ⟨_, rfl⟩
        replace h := k_bb h v47 hvv47
        refine lv_iinc (v := v47) (lv' := [(3, .int v47), (0, .ref (sz + b0)), (1, .int b1), (2, .int a2)]) hx hb dX8_quarrel_129 hl (k := 3) rfl (by rw [hvv47]; rfl) (by decide) (by first | rfl | simp [rv_cat, cat_i, cat_l, cat_r, cat_n]) (fun ls hl => ?_)
        refine lv_goto (tgt := 24) hx hb dX8_quarrel_132 (by decide) ?_
        exact ih a2 v47 H locs ls hM (lv_sub hl [1, 2, 3, 0] rfl) h hk

def f_X8_quarrel (r : Nat) (p1 : Int32) (u : Mm) : Option ((Int32) × Mm) := gd (okO u r 8) ((if 0 ≤ p1 then L_X8_quarrel_24 r p1 (sI (sI u r 1 (0 : Int32)) r 0 (0 : Int32)) (fun a48 a49 => bd (f_X8_refuse r (9 : Int32) (sI (sI u r 1 (0 : Int32)) r 0 (0 : Int32))) (fun w50 => some (w50.1, w50.2))) 1000 (0 : Int32) (0 : Int32)  else bd (f_X8_refuse r (5 : Int32) (sI (sI u r 1 (0 : Int32)) r 0 (0 : Int32))) (fun w51 => some (w51.1, w51.2))))
set_option maxHeartbeats 4000000 in
set_option maxRecDepth 100000 in
theorem c_X8_quarrel (l : Launch) (D : va_G) (cy : Nat → ClassId) (sz : Nat) (H0 : Heap) (u : Mm) (r : Nat) (p1 : Int32) {res : (Int32) × Mm} (h : f_X8_quarrel r p1 u = some res) : Ctr l yX8_quarrel cX8_quarrel 5 (some .int) rm_X8_quarrel 0 0 D cy sz H0 u [.ref (sz + r), .int p1] (some (.int res.1)) res.2 := by
  refine m_start (lv := [(0, .ref (sz + r)), (1, .int p1)]) (by decide) (by first | exact Nat.le_of_ble_eq_true rfl | simp [lg_sl, rv_cat, cat_i, cat_l, cat_r, cat_n]) (by first | rfl | simp [lv_args, rv_cat, cat_i, cat_l, cat_r, cat_n]) ?_
  intro p e s m below meth c ls E hr hlk hinit hM hl
  obtain ⟨hx, hb, hml, hown, hts, hKK⟩ := id E
  obtain ⟨H, hH⟩ : ∃ H, H = s.heap := ⟨_, rfl⟩
  obtain ⟨locs, hlocs⟩ : ∃ L : List Loc, L = [] := ⟨_, rfl⟩
  rw [← hH, ← hlocs] at hM ⊢
  unfold f_X8_quarrel at h
  refine lv_aload_n hx hb dX8_quarrel_0 rfl (lv_at hl 0 rfl) ?_
  refine lv_iconst (v := 0) hx hb dX8_quarrel_1 (by decide) ?_
  obtain ⟨ok1, h⟩ := k_gd h
  refine ps_X8_93 (v := (0 : Int32)) E hM ok1 dX8_quarrel_2 (fun H locs hM => ?_)
  refine lv_aload_n hx hb dX8_quarrel_5 rfl (lv_at hl 0 rfl) ?_
  refine lv_iconst (v := 0) hx hb dX8_quarrel_6 (by decide) ?_
  refine ps_X8_97 (v := (0 : Int32)) E hM ok1 dX8_quarrel_7 (fun H locs hM => ?_)
  refine lv_iload_n hx hb dX8_quarrel_10 rfl (lv_at hl 1 rfl) ?_
  refine lv_if_ge (tgt := 20) hx hb dX8_quarrel_11 (by decide) (fun c2 => ?_) (fun c2 => ?_)
  · replace h := (k_if h).1 c2
    refine lv_iconst (v := 0) hx hb dX8_quarrel_20 (by decide) ?_
    refine lv_istore_n (i := 2) (lv' := [(2, .int (0 : Int32)), (0, .ref (sz + r)), (1, .int p1)]) hx hb dX8_quarrel_21 rfl hl (by decide) (by first | rfl | simp [rv_cat, cat_i, cat_l, cat_r, cat_n]) (fun ls hl => ?_)
    refine lv_iconst (v := 0) hx hb dX8_quarrel_22 (by decide) ?_
    refine lv_istore_n (i := 3) (lv' := [(3, .int (0 : Int32)), (2, .int (0 : Int32)), (0, .ref (sz + r)), (1, .int p1)]) hx hb dX8_quarrel_23 rfl hl (by decide) (by first | rfl | simp [rv_cat, cat_i, cat_l, cat_r, cat_n]) (fun ls hl => ?_)
    refine lp_X8_quarrel_24 hr hlk  E 1000 (0 : Int32) (0 : Int32) H locs ls hM (lv_sub hl [2, 3, 1, 0] rfl) h (fun a48 a49 H locs ls hM hl h => ?_)
    refine lv_aload_n hx hb dX8_quarrel_135 rfl (lv_at hl 0 rfl) ?_
    refine lv_bipush (v := 9) hx hb dX8_quarrel_136 (by decide) ?_
    obtain ⟨w50, hzw50, h⟩ := k_bd h
    refine m_callV (C := RX8) (T := TX8) (N := 33) (ci := 8) (n := 1) (As := [.int (9 : Int32)]) (rest := []) (st1 := (.int w50.1 :: [])) E hM hl.1 ok1 (by decide) rfl rfl (c_X8_refuse l D cy sz H0 (sI (sI u r 1 (0 : Int32)) r 0 (0 : Int32)) r (9 : Int32) hzw50) wl_X8_121 wm_X8_refuse ws_X8_refuse wi_X8 wd_X8_refuse rfl rfl (by decide +kernel) ⟨by decide, by decide⟩ rfl rfl (by first | exact Nat.le_of_ble_eq_true rfl | simp [rv_cat, cat_i, cat_l, cat_r, cat_n]) dX8_quarrel_138 ⟨by decide, by decide⟩ rfl (fun H locs hM => ?_)
    cases h
    exact m_iret hx hb hr hlk hM rfl rfl dX8_quarrel_141
  · replace h := (k_if h).2 c2
    refine lv_aload_n hx hb dX8_quarrel_14 rfl (lv_at hl 0 rfl) ?_
    refine lv_iconst (v := 5) hx hb dX8_quarrel_15 (by decide) ?_
    obtain ⟨w51, hzw51, h⟩ := k_bd h
    refine m_callV (C := RX8) (T := TX8) (N := 33) (ci := 8) (n := 1) (As := [.int (5 : Int32)]) (rest := []) (st1 := (.int w51.1 :: [])) E hM hl.1 ok1 (by decide) rfl rfl (c_X8_refuse l D cy sz H0 (sI (sI u r 1 (0 : Int32)) r 0 (0 : Int32)) r (5 : Int32) hzw51) wl_X8_121 wm_X8_refuse ws_X8_refuse wi_X8 wd_X8_refuse rfl rfl (by decide +kernel) ⟨by decide, by decide⟩ rfl rfl (by first | exact Nat.le_of_ble_eq_true rfl | simp [rv_cat, cat_i, cat_l, cat_r, cat_n]) dX8_quarrel_16 ⟨by decide, by decide⟩ rfl (fun H locs hM => ?_)
    cases h
    exact m_iret hx hb hr hlk hM rfl rfl dX8_quarrel_19

abbrev rm_X8_count : Room := { frames := 1, cells := 0, slots := 0, locals := 36 }
def f_X8_count (r : Nat) (p1 : Int32) (p2 : Int32) (u : Mm) : Option ((Int32) × Mm) := gd (okO u r 8) (bd (f_X8_isThing r p1 (sI (sI u r 1 (0 : Int32)) r 0 (0 : Int32))) (fun w2 => (if w2 = 0 then bd (f_X8_no r (2 : Int32) (sI (sI u r 1 (0 : Int32)) r 0 (0 : Int32))) (fun w19 => gd (isB w19.1) (some (w19.1, w19.2))) else (if p2 < (-1 : Int32) then bd (f_X8_no r (5 : Int32) (sI (sI u r 1 (0 : Int32)) r 0 (0 : Int32))) (fun w5 => gd (isB w5.1) (some (w5.1, w5.2))) else (if p2 ≤ (999 : Int32) then bb (gR (sI (sI u r 1 (0 : Int32)) r 0 (0 : Int32)) r 8) (fun x8 => cs x8 none (fun k9 => gd (okA (sI (sI u r 1 (0 : Int32)) r 0 (0 : Int32)) k9 9 p1) ((if (gI (sI (sI u r 1 (0 : Int32)) r 0 (0 : Int32)) k9 (Int32.toNatClampNeg p1)) = (2 : Int32) then bb (gR (sI (sI u r 1 (0 : Int32)) r 0 (0 : Int32)) r 10) (fun x12 => cs x12 none (fun k13 => gd (okA (sI (sI u r 1 (0 : Int32)) r 0 (0 : Int32)) k13 9 p1) (some ((1 : Int32), (sI (sI (sI u r 1 (0 : Int32)) r 0 (0 : Int32)) k13 (Int32.toNatClampNeg p1) p2))))) else bd (f_X8_no r (8 : Int32) (sI (sI u r 1 (0 : Int32)) r 0 (0 : Int32))) (fun w15 => gd (isB w15.1) (some (w15.1, w15.2))))))) else bd (f_X8_no r (5 : Int32) (sI (sI u r 1 (0 : Int32)) r 0 (0 : Int32))) (fun w17 => gd (isB w17.1) (some (w17.1, w17.2))))))))
set_option maxHeartbeats 4000000 in
set_option maxRecDepth 100000 in
theorem c_X8_count (l : Launch) (D : va_G) (cy : Nat → ClassId) (sz : Nat) (H0 : Heap) (u : Mm) (r : Nat) (p1 : Int32) (p2 : Int32) {res : (Int32) × Mm} (h : f_X8_count r p1 p2 u = some res) : Ctr l yX8_count cX8_count 3 (some .boolean) rm_X8_count 0 0 D cy sz H0 u [.ref (sz + r), .int p1, .int p2] (some (.int res.1)) res.2 := by
  refine m_start (lv := [(0, .ref (sz + r)), (1, .int p1), (2, .int p2)]) (by decide) (by first | exact Nat.le_of_ble_eq_true rfl | simp [lg_sl, rv_cat, cat_i, cat_l, cat_r, cat_n]) (by first | rfl | simp [lv_args, rv_cat, cat_i, cat_l, cat_r, cat_n]) ?_
  intro p e s m below meth c ls E hr hlk hinit hM hl
  obtain ⟨hx, hb, hml, hown, hts, hKK⟩ := id E
  obtain ⟨H, hH⟩ : ∃ H, H = s.heap := ⟨_, rfl⟩
  obtain ⟨locs, hlocs⟩ : ∃ L : List Loc, L = [] := ⟨_, rfl⟩
  rw [← hH, ← hlocs] at hM ⊢
  unfold f_X8_count at h
  refine lv_aload_n hx hb dX8_count_0 rfl (lv_at hl 0 rfl) ?_
  refine lv_iconst (v := 0) hx hb dX8_count_1 (by decide) ?_
  obtain ⟨ok1, h⟩ := k_gd h
  refine ps_X8_93 (v := (0 : Int32)) E hM ok1 dX8_count_2 (fun H locs hM => ?_)
  refine lv_aload_n hx hb dX8_count_5 rfl (lv_at hl 0 rfl) ?_
  refine lv_iconst (v := 0) hx hb dX8_count_6 (by decide) ?_
  refine ps_X8_97 (v := (0 : Int32)) E hM ok1 dX8_count_7 (fun H locs hM => ?_)
  refine lv_aload_n hx hb dX8_count_10 rfl (lv_at hl 0 rfl) ?_
  refine lv_iload_n hx hb dX8_count_11 rfl (lv_at hl 1 rfl) ?_
  obtain ⟨w2, hzw2, h⟩ := k_bd h
  refine m_callV (C := RX8) (T := TX8) (N := 33) (ci := 8) (n := 1) (As := [.int p1]) (rest := []) (st1 := (.int w2 :: [])) E hM hl.1 ok1 (by decide) rfl rfl (c_X8_isThing l D cy sz H0 (sI (sI u r 1 (0 : Int32)) r 0 (0 : Int32)) r p1 hzw2) wl_X8_124 wm_X8_isThing ws_X8_isThing wi_X8 wd_X8_isThing rfl rfl (by decide +kernel) ⟨by decide, by decide⟩ rfl rfl (by first | exact Nat.le_of_ble_eq_true rfl | simp [rv_cat, cat_i, cat_l, cat_r, cat_n]) dX8_count_12 ⟨by decide, by decide⟩ rfl (fun H locs hM => ?_)
  refine lv_if_ne (tgt := 24) hx hb dX8_count_15 (by decide) (fun c3 => ?_) (fun c3 => ?_)
  · replace h := (k_if h).2 c3
    refine lv_iload_n hx hb dX8_count_24 rfl (lv_at hl 2 rfl) ?_
    refine lv_iconst (v := (-1)) hx hb dX8_count_25 (by decide) ?_
    refine lv_icmp_lt (tgt := 36) hx hb dX8_count_26 (by decide) (fun c4 => ?_) (fun c4 => ?_)
    · replace h := (k_if h).1 c4
      refine lv_aload_n hx hb dX8_count_36 rfl (lv_at hl 0 rfl) ?_
      refine lv_iconst (v := 5) hx hb dX8_count_37 (by decide) ?_
      obtain ⟨w5, hzw5, h⟩ := k_bd h
      refine m_callV (C := RX8) (T := TX8) (N := 33) (ci := 8) (n := 1) (As := [.int (5 : Int32)]) (rest := []) (st1 := (.int w5.1 :: [])) E hM hl.1 ok1 (by decide) rfl rfl (c_X8_no l D cy sz H0 (sI (sI u r 1 (0 : Int32)) r 0 (0 : Int32)) r (5 : Int32) hzw5) wl_X8_100 wm_X8_no ws_X8_no wi_X8 wd_X8_no rfl rfl (by decide +kernel) ⟨by decide, by decide⟩ rfl rfl (by first | exact Nat.le_of_ble_eq_true rfl | simp [rv_cat, cat_i, cat_l, cat_r, cat_n]) dX8_count_38 ⟨by decide, by decide⟩ rfl (fun H locs hM => ?_)
      obtain ⟨hB6, h⟩ := k_gd h
      cases h
      exact m_zret hx hb hr hlk hM hB6 rfl rfl dX8_count_41
    · replace h := (k_if h).2 c4
      refine lv_iload_n hx hb dX8_count_29 rfl (lv_at hl 2 rfl) ?_
      refine lv_sipush (v := 999) hx hb dX8_count_30 (by decide) ?_
      refine lv_icmp_le (tgt := 42) hx hb dX8_count_33 (by decide) (fun c7 => ?_) (fun c7 => ?_)
      · replace h := (k_if h).1 c7
        refine lv_aload_n hx hb dX8_count_42 rfl (lv_at hl 0 rfl) ?_
        refine gs_X8_24 E hM ok1 dX8_count_43 (fun x8 hxx8 => ?_)
        replace h := k_bb h x8 hxx8.symm
        refine lv_iload_n hx hb dX8_count_46 rfl (lv_at hl 1 rfl) ?_
        rcases x8 with _ | k9
        · cases h
        rw [cs_s] at h
        obtain ⟨ok10, h⟩ := k_gd h
        refine m_iald E hM ok10 dX8_count_47 ?_
        refine lv_iconst (v := 2) hx hb dX8_count_48 (by decide) ?_
        refine lv_icmp_eq (tgt := 59) hx hb dX8_count_49 (by decide) (fun c11 => ?_) (fun c11 => ?_)
        · replace h := (k_if h).1 c11
          refine lv_aload_n hx hb dX8_count_59 rfl (lv_at hl 0 rfl) ?_
          refine gs_X8_30 E hM ok1 dX8_count_60 (fun x12 hxx12 => ?_)
          replace h := k_bb h x12 hxx12.symm
          refine lv_iload_n hx hb dX8_count_63 rfl (lv_at hl 1 rfl) ?_
          refine lv_iload_n hx hb dX8_count_64 rfl (lv_at hl 2 rfl) ?_
          rcases x12 with _ | k13
          · cases h
          rw [cs_s] at h
          obtain ⟨ok14, h⟩ := k_gd h
          refine m_iast E hM ok14 dX8_count_65 (fun H locs hM => ?_)
          refine lv_iconst (v := 1) hx hb dX8_count_66 (by decide) ?_
          cases h
          exact m_zret hx hb hr hlk hM (by decide) rfl rfl dX8_count_67
        · replace h := (k_if h).2 c11
          refine lv_aload_n hx hb dX8_count_52 rfl (lv_at hl 0 rfl) ?_
          refine lv_bipush (v := 8) hx hb dX8_count_53 (by decide) ?_
          obtain ⟨w15, hzw15, h⟩ := k_bd h
          refine m_callV (C := RX8) (T := TX8) (N := 33) (ci := 8) (n := 1) (As := [.int (8 : Int32)]) (rest := []) (st1 := (.int w15.1 :: [])) E hM hl.1 ok1 (by decide) rfl rfl (c_X8_no l D cy sz H0 (sI (sI u r 1 (0 : Int32)) r 0 (0 : Int32)) r (8 : Int32) hzw15) wl_X8_100 wm_X8_no ws_X8_no wi_X8 wd_X8_no rfl rfl (by decide +kernel) ⟨by decide, by decide⟩ rfl rfl (by first | exact Nat.le_of_ble_eq_true rfl | simp [rv_cat, cat_i, cat_l, cat_r, cat_n]) dX8_count_55 ⟨by decide, by decide⟩ rfl (fun H locs hM => ?_)
          obtain ⟨hB16, h⟩ := k_gd h
          cases h
          exact m_zret hx hb hr hlk hM hB16 rfl rfl dX8_count_58
      · replace h := (k_if h).2 c7
        refine lv_aload_n hx hb dX8_count_36 rfl (lv_at hl 0 rfl) ?_
        refine lv_iconst (v := 5) hx hb dX8_count_37 (by decide) ?_
        obtain ⟨w17, hzw17, h⟩ := k_bd h
        refine m_callV (C := RX8) (T := TX8) (N := 33) (ci := 8) (n := 1) (As := [.int (5 : Int32)]) (rest := []) (st1 := (.int w17.1 :: [])) E hM hl.1 ok1 (by decide) rfl rfl (c_X8_no l D cy sz H0 (sI (sI u r 1 (0 : Int32)) r 0 (0 : Int32)) r (5 : Int32) hzw17) wl_X8_100 wm_X8_no ws_X8_no wi_X8 wd_X8_no rfl rfl (by decide +kernel) ⟨by decide, by decide⟩ rfl rfl (by first | exact Nat.le_of_ble_eq_true rfl | simp [rv_cat, cat_i, cat_l, cat_r, cat_n]) dX8_count_38 ⟨by decide, by decide⟩ rfl (fun H locs hM => ?_)
        obtain ⟨hB18, h⟩ := k_gd h
        cases h
        exact m_zret hx hb hr hlk hM hB18 rfl rfl dX8_count_41
  · replace h := (k_if h).1 c3
    refine lv_aload_n hx hb dX8_count_18 rfl (lv_at hl 0 rfl) ?_
    refine lv_iconst (v := 2) hx hb dX8_count_19 (by decide) ?_
    obtain ⟨w19, hzw19, h⟩ := k_bd h
    refine m_callV (C := RX8) (T := TX8) (N := 33) (ci := 8) (n := 1) (As := [.int (2 : Int32)]) (rest := []) (st1 := (.int w19.1 :: [])) E hM hl.1 ok1 (by decide) rfl rfl (c_X8_no l D cy sz H0 (sI (sI u r 1 (0 : Int32)) r 0 (0 : Int32)) r (2 : Int32) hzw19) wl_X8_100 wm_X8_no ws_X8_no wi_X8 wd_X8_no rfl rfl (by decide +kernel) ⟨by decide, by decide⟩ rfl rfl (by first | exact Nat.le_of_ble_eq_true rfl | simp [rv_cat, cat_i, cat_l, cat_r, cat_n]) dX8_count_20 ⟨by decide, by decide⟩ rfl (fun H locs hM => ?_)
    obtain ⟨hB20, h⟩ := k_gd h
    cases h
    exact m_zret hx hb hr hlk hM hB20 rfl rfl dX8_count_23

abbrev rm_X8_join : Room := { frames := 1, cells := 0, slots := 0, locals := 36 }
def L_X8_join_128 (b0 : Nat) (b1 : Int32) (b2 : Int32) (b3 : Int32) (b4 : Int32) (k : Int32 → Mm → Option ((Int32) × Mm)) : Nat → Int32 → Mm → Option ((Int32) × Mm)
  | 0, _, _ => none
  | n + 1, a5, u => gd (okO u b0 8) ((if (gI u b0 7) ≤ a5 then k a5 u else bb (gR u b0 11) (fun x42 => cs x42 none (fun k43 => gd (okA u k43 9 a5) ((if (gI u k43 (Int32.toNatClampNeg a5)) = b4 then bb (gR u b0 11) (fun x47 => cs x47 none (fun k48 => gd (okA u k48 9 a5) (bb (a5 + (1)) (fun v50 => L_X8_join_128 b0 b1 b2 b3 b4 k n v50 (sI u k48 (Int32.toNatClampNeg a5) b3))))) else bb (a5 + (1)) (fun v46 => L_X8_join_128 b0 b1 b2 b3 b4 k n v46 u)))))))
set_option maxHeartbeats 4000000 in
set_option maxRecDepth 100000 in
theorem lp_X8_join_128 {p : Program} {l : Launch} {e : Env} {s : State} {m : MethodId} {args : Array Value} {below : List Frame} {meth : Method} {c : Code} {D : va_G} {cy : Nat → ClassId} {sz : Nat} {H0 : Heap} {b0 : Nat} {b1 : Int32} {b2 : Int32} {b3 : Int32} {b4 : Int32} {k : Int32 → Mm → Option ((Int32) × Mm)} {res : (Int32) × Mm} (hr : meth.sig.returnType = (some .boolean)) (hlk : meth.locks = false) (E : EE p s m args c cX8_join 6 RX8 D cy) : ∀ (n : Nat) (a5 : Int32) (u : Mm) (H : Heap) (locs : List Loc) (ls : Array Slot), MM D cy sz H0 u H locs → lv_has ls 6 [(0, .ref (sz + b0)), (1, .int b1), (2, .int b2), (3, .int b3), (4, .int b4), (5, .int a5)] → L_X8_join_128 b0 b1 b2 b3 b4 k n a5 u = some res → (∀ (a5 : Int32) (u : Mm) (H : Heap) (locs : List Loc) (ls : Array Slot), MM D cy sz H0 u H locs → lv_has ls 6 [(0, .ref (sz + b0)), (1, .int b1), (2, .int b2), (3, .int b3), (4, .int b4), (5, .int a5)] → k a5 u = some res → W p l e rm_X8_join s m args below meth c H locs 0 0 (MQ below (Post D cy sz H0 (some (.int res.1)) res.2) args s 0 0 (fun q => sz ≤ q)) (F0 m 163 ls [])) → W p l e rm_X8_join s m args below meth c H locs 0 0 (MQ below (Post D cy sz H0 (some (.int res.1)) res.2) args s 0 0 (fun q => sz ≤ q)) (F0 m 128 ls []) := by
  obtain ⟨hx, hb, hml, hown, hts, hKK⟩ := id E
  intro n
  induction n with
  | zero => intros; rename_i h _; cases h
  | succ n ih =>
    intro a5 u H locs ls hM hl h hk
    rw [L_X8_join_128] at h
    refine lv_iload hx hb dX8_join_128 (lv_at hl 5 rfl) ?_
    refine lv_aload_n hx hb dX8_join_130 rfl (lv_at hl 0 rfl) ?_
    obtain ⟨ok40, h⟩ := k_gd h
    refine gs_X8_118 E hM ok40 dX8_join_131 ?_
    refine lv_icmp_ge (tgt := 163) hx hb dX8_join_134 (by decide) (fun c41 => ?_) (fun c41 => ?_)
    · replace h := (k_if h).1 c41
      exact hk a5 u H locs ls hM (lv_sub hl [0, 1, 2, 3, 4, 5] rfl) h
    · replace h := (k_if h).2 c41
      refine lv_aload_n hx hb dX8_join_137 rfl (lv_at hl 0 rfl) ?_
      refine gs_X8_33 E hM ok40 dX8_join_138 (fun x42 hxx42 => ?_)
      replace h := k_bb h x42 hxx42.symm
      refine lv_iload hx hb dX8_join_141 (lv_at hl 5 rfl) ?_
      rcases x42 with _ | k43
      · cases h
      rw [cs_s] at h
      obtain ⟨ok44, h⟩ := k_gd h
      refine m_iald E hM ok44 dX8_join_143 ?_
      refine lv_iload hx hb dX8_join_144 (lv_at hl 4 rfl) ?_
      refine lv_icmp_ne (tgt := 157) hx hb dX8_join_146 (by decide) (fun c45 => ?_) (fun c45 => ?_)
      · replace h := (k_if h).2 c45
        obtain ⟨v46, hvv46⟩ : ∃ y : Int32, y = a5 + (1) := ⟨_, rfl⟩
        replace h := k_bb h v46 hvv46
        refine lv_iinc (v := v46) (lv' := [(5, .int v46), (0, .ref (sz + b0)), (1, .int b1), (2, .int b2), (3, .int b3), (4, .int b4)]) hx hb dX8_join_157 hl (k := 5) rfl (by rw [hvv46]; rfl) (by decide) (by first | rfl | simp [rv_cat, cat_i, cat_l, cat_r, cat_n]) (fun ls hl => ?_)
        refine lv_goto (tgt := 128) hx hb dX8_join_160 (by decide) ?_
        exact ih v46 u H locs ls hM (lv_sub hl [1, 2, 3, 4, 5, 0] rfl) h hk
      · replace h := (k_if h).1 c45
        refine lv_aload_n hx hb dX8_join_149 rfl (lv_at hl 0 rfl) ?_
        refine gs_X8_33 E hM ok40 dX8_join_150 (fun x47 hxx47 => ?_)
        replace h := k_bb h x47 hxx47.symm
        refine lv_iload hx hb dX8_join_153 (lv_at hl 5 rfl) ?_
        refine lv_iload_n hx hb dX8_join_155 rfl (lv_at hl 3 rfl) ?_
        rcases x47 with _ | k48
        · cases h
        rw [cs_s] at h
        obtain ⟨ok49, h⟩ := k_gd h
        refine m_iast E hM ok49 dX8_join_156 (fun H locs hM => ?_)
        obtain ⟨v50, hvv50⟩ : ∃ y : Int32, y = a5 + (1) := ⟨_, rfl⟩
        replace h := k_bb h v50 hvv50
        refine lv_iinc (v := v50) (lv' := [(5, .int v50), (0, .ref (sz + b0)), (1, .int b1), (2, .int b2), (3, .int b3), (4, .int b4)]) hx hb dX8_join_157 hl (k := 5) rfl (by rw [hvv50]; rfl) (by decide) (by first | rfl | simp [rv_cat, cat_i, cat_l, cat_r, cat_n]) (fun ls hl => ?_)
        refine lv_goto (tgt := 128) hx hb dX8_join_160 (by decide) ?_
        exact ih v50 (sI u k48 (Int32.toNatClampNeg a5) b3) H locs ls hM (lv_sub hl [1, 2, 3, 4, 5, 0] rfl) h hk

def f_X8_join (r : Nat) (p1 : Int32) (p2 : Int32) (u : Mm) : Option ((Int32) × Mm) := gd (okO u r 8) (bd (f_X8_isThing r p1 (sI (sI u r 1 (0 : Int32)) r 0 (0 : Int32))) (fun w2 => (if w2 = 0 then bd (f_X8_no r (2 : Int32) (sI (sI u r 1 (0 : Int32)) r 0 (0 : Int32))) (fun w4 => gd (isB w4.1) (some (w4.1, w4.2))) else bd (f_X8_isThing r p2 (sI (sI u r 1 (0 : Int32)) r 0 (0 : Int32))) (fun w6 => (if w6 = 0 then bd (f_X8_no r (2 : Int32) (sI (sI u r 1 (0 : Int32)) r 0 (0 : Int32))) (fun w59 => gd (isB w59.1) (some (w59.1, w59.2))) else (if p1 = p2 then bd (f_X8_no r (5 : Int32) (sI (sI u r 1 (0 : Int32)) r 0 (0 : Int32))) (fun w57 => gd (isB w57.1) (some (w57.1, w57.2))) else bb (gR (sI (sI u r 1 (0 : Int32)) r 0 (0 : Int32)) r 8) (fun x9 => cs x9 none (fun k10 => gd (okA (sI (sI u r 1 (0 : Int32)) r 0 (0 : Int32)) k10 9 p1) ((if (gI (sI (sI u r 1 (0 : Int32)) r 0 (0 : Int32)) k10 (Int32.toNatClampNeg p1)) = (3 : Int32) then bb (gR (sI (sI u r 1 (0 : Int32)) r 0 (0 : Int32)) r 8) (fun x15 => cs x15 none (fun k16 => gd (okA (sI (sI u r 1 (0 : Int32)) r 0 (0 : Int32)) k16 9 p2) ((if (gI (sI (sI u r 1 (0 : Int32)) r 0 (0 : Int32)) k16 (Int32.toNatClampNeg p2)) = (3 : Int32) then bb (gR (sI (sI u r 1 (0 : Int32)) r 0 (0 : Int32)) r 11) (fun x19 => cs x19 none (fun k20 => gd (okA (sI (sI u r 1 (0 : Int32)) r 0 (0 : Int32)) k20 9 p1) (bb (gR (sI (sI u r 1 (0 : Int32)) r 0 (0 : Int32)) r 11) (fun x22 => cs x22 none (fun k23 => gd (okA (sI (sI u r 1 (0 : Int32)) r 0 (0 : Int32)) k23 9 p2) ((if (gI (sI (sI u r 1 (0 : Int32)) r 0 (0 : Int32)) k20 (Int32.toNatClampNeg p1)) = (gI (sI (sI u r 1 (0 : Int32)) r 0 (0 : Int32)) k23 (Int32.toNatClampNeg p2)) then bd (f_X8_no r (10 : Int32) (sI (sI u r 1 (0 : Int32)) r 0 (0 : Int32))) (fun w53 => gd (isB w53.1) (some (w53.1, w53.2))) else bb (gR (sI (sI u r 1 (0 : Int32)) r 0 (0 : Int32)) r 11) (fun x26 => cs x26 none (fun k27 => gd (okA (sI (sI u r 1 (0 : Int32)) r 0 (0 : Int32)) k27 9 p1) (bb (gR (sI (sI u r 1 (0 : Int32)) r 0 (0 : Int32)) r 11) (fun x29 => cs x29 none (fun k30 => gd (okA (sI (sI u r 1 (0 : Int32)) r 0 (0 : Int32)) k30 9 p2) (bb ((if (gI (sI (sI u r 1 (0 : Int32)) r 0 (0 : Int32)) k30 (Int32.toNatClampNeg p2)) < (gI (sI (sI u r 1 (0 : Int32)) r 0 (0 : Int32)) k27 (Int32.toNatClampNeg p1)) then (gI (sI (sI u r 1 (0 : Int32)) r 0 (0 : Int32)) k30 (Int32.toNatClampNeg p2)) else (gI (sI (sI u r 1 (0 : Int32)) r 0 (0 : Int32)) k27 (Int32.toNatClampNeg p1)))) (fun v32 => bb (gR (sI (sI u r 1 (0 : Int32)) r 0 (0 : Int32)) r 11) (fun x33 => cs x33 none (fun k34 => gd (okA (sI (sI u r 1 (0 : Int32)) r 0 (0 : Int32)) k34 9 p1) (bb (gR (sI (sI u r 1 (0 : Int32)) r 0 (0 : Int32)) r 11) (fun x36 => cs x36 none (fun k37 => gd (okA (sI (sI u r 1 (0 : Int32)) r 0 (0 : Int32)) k37 9 p2) (bb ((if (gI (sI (sI u r 1 (0 : Int32)) r 0 (0 : Int32)) k34 (Int32.toNatClampNeg p1)) < (gI (sI (sI u r 1 (0 : Int32)) r 0 (0 : Int32)) k37 (Int32.toNatClampNeg p2)) then (gI (sI (sI u r 1 (0 : Int32)) r 0 (0 : Int32)) k37 (Int32.toNatClampNeg p2)) else (gI (sI (sI u r 1 (0 : Int32)) r 0 (0 : Int32)) k34 (Int32.toNatClampNeg p1)))) (fun v39 => L_X8_join_128 r p1 p2 v32 v39  (fun a51 u52 => some ((1 : Int32), u52)) 1000 (0 : Int32) (sI (sI u r 1 (0 : Int32)) r 0 (0 : Int32))))))))))))))))))))))) else bd (f_X8_no r (8 : Int32) (sI (sI u r 1 (0 : Int32)) r 0 (0 : Int32))) (fun w55 => gd (isB w55.1) (some (w55.1, w55.2))))))) else bd (f_X8_no r (8 : Int32) (sI (sI u r 1 (0 : Int32)) r 0 (0 : Int32))) (fun w13 => gd (isB w13.1) (some (w13.1, w13.2)))))))))))))
set_option maxHeartbeats 4000000 in
set_option maxRecDepth 100000 in
theorem c_X8_join (l : Launch) (D : va_G) (cy : Nat → ClassId) (sz : Nat) (H0 : Heap) (u : Mm) (r : Nat) (p1 : Int32) (p2 : Int32) {res : (Int32) × Mm} (h : f_X8_join r p1 p2 u = some res) : Ctr l yX8_join cX8_join 6 (some .boolean) rm_X8_join 0 0 D cy sz H0 u [.ref (sz + r), .int p1, .int p2] (some (.int res.1)) res.2 := by
  refine m_start (lv := [(0, .ref (sz + r)), (1, .int p1), (2, .int p2)]) (by decide) (by first | exact Nat.le_of_ble_eq_true rfl | simp [lg_sl, rv_cat, cat_i, cat_l, cat_r, cat_n]) (by first | rfl | simp [lv_args, rv_cat, cat_i, cat_l, cat_r, cat_n]) ?_
  intro p e s m below meth c ls E hr hlk hinit hM hl
  obtain ⟨hx, hb, hml, hown, hts, hKK⟩ := id E
  obtain ⟨H, hH⟩ : ∃ H, H = s.heap := ⟨_, rfl⟩
  obtain ⟨locs, hlocs⟩ : ∃ L : List Loc, L = [] := ⟨_, rfl⟩
  rw [← hH, ← hlocs] at hM ⊢
  unfold f_X8_join at h
  refine lv_aload_n hx hb dX8_join_0 rfl (lv_at hl 0 rfl) ?_
  refine lv_iconst (v := 0) hx hb dX8_join_1 (by decide) ?_
  obtain ⟨ok1, h⟩ := k_gd h
  refine ps_X8_93 (v := (0 : Int32)) E hM ok1 dX8_join_2 (fun H locs hM => ?_)
  refine lv_aload_n hx hb dX8_join_5 rfl (lv_at hl 0 rfl) ?_
  refine lv_iconst (v := 0) hx hb dX8_join_6 (by decide) ?_
  refine ps_X8_97 (v := (0 : Int32)) E hM ok1 dX8_join_7 (fun H locs hM => ?_)
  refine lv_aload_n hx hb dX8_join_10 rfl (lv_at hl 0 rfl) ?_
  refine lv_iload_n hx hb dX8_join_11 rfl (lv_at hl 1 rfl) ?_
  obtain ⟨w2, hzw2, h⟩ := k_bd h
  refine m_callV (C := RX8) (T := TX8) (N := 33) (ci := 8) (n := 1) (As := [.int p1]) (rest := []) (st1 := (.int w2 :: [])) E hM hl.1 ok1 (by decide) rfl rfl (c_X8_isThing l D cy sz H0 (sI (sI u r 1 (0 : Int32)) r 0 (0 : Int32)) r p1 hzw2) wl_X8_124 wm_X8_isThing ws_X8_isThing wi_X8 wd_X8_isThing rfl rfl (by decide +kernel) ⟨by decide, by decide⟩ rfl rfl (by first | exact Nat.le_of_ble_eq_true rfl | simp [rv_cat, cat_i, cat_l, cat_r, cat_n]) dX8_join_12 ⟨by decide, by decide⟩ rfl (fun H locs hM => ?_)
  refine lv_if_eq (tgt := 26) hx hb dX8_join_15 (by decide) (fun c3 => ?_) (fun c3 => ?_)
  · replace h := (k_if h).1 c3
    refine lv_aload_n hx hb dX8_join_26 rfl (lv_at hl 0 rfl) ?_
    refine lv_iconst (v := 2) hx hb dX8_join_27 (by decide) ?_
    obtain ⟨w4, hzw4, h⟩ := k_bd h
    refine m_callV (C := RX8) (T := TX8) (N := 33) (ci := 8) (n := 1) (As := [.int (2 : Int32)]) (rest := []) (st1 := (.int w4.1 :: [])) E hM hl.1 ok1 (by decide) rfl rfl (c_X8_no l D cy sz H0 (sI (sI u r 1 (0 : Int32)) r 0 (0 : Int32)) r (2 : Int32) hzw4) wl_X8_100 wm_X8_no ws_X8_no wi_X8 wd_X8_no rfl rfl (by decide +kernel) ⟨by decide, by decide⟩ rfl rfl (by first | exact Nat.le_of_ble_eq_true rfl | simp [rv_cat, cat_i, cat_l, cat_r, cat_n]) dX8_join_28 ⟨by decide, by decide⟩ rfl (fun H locs hM => ?_)
    obtain ⟨hB5, h⟩ := k_gd h
    cases h
    exact m_zret hx hb hr hlk hM hB5 rfl rfl dX8_join_31
  · replace h := (k_if h).2 c3
    refine lv_aload_n hx hb dX8_join_18 rfl (lv_at hl 0 rfl) ?_
    refine lv_iload_n hx hb dX8_join_19 rfl (lv_at hl 2 rfl) ?_
    obtain ⟨w6, hzw6, h⟩ := k_bd h
    refine m_callV (C := RX8) (T := TX8) (N := 33) (ci := 8) (n := 1) (As := [.int p2]) (rest := []) (st1 := (.int w6 :: [])) E hM hl.1 ok1 (by decide) rfl rfl (c_X8_isThing l D cy sz H0 (sI (sI u r 1 (0 : Int32)) r 0 (0 : Int32)) r p2 hzw6) wl_X8_124 wm_X8_isThing ws_X8_isThing wi_X8 wd_X8_isThing rfl rfl (by decide +kernel) ⟨by decide, by decide⟩ rfl rfl (by first | exact Nat.le_of_ble_eq_true rfl | simp [rv_cat, cat_i, cat_l, cat_r, cat_n]) dX8_join_20 ⟨by decide, by decide⟩ rfl (fun H locs hM => ?_)
    refine lv_if_ne (tgt := 32) hx hb dX8_join_23 (by decide) (fun c7 => ?_) (fun c7 => ?_)
    · replace h := (k_if h).2 c7
      refine lv_iload_n hx hb dX8_join_32 rfl (lv_at hl 1 rfl) ?_
      refine lv_iload_n hx hb dX8_join_33 rfl (lv_at hl 2 rfl) ?_
      refine lv_icmp_ne (tgt := 43) hx hb dX8_join_34 (by decide) (fun c8 => ?_) (fun c8 => ?_)
      · replace h := (k_if h).2 c8
        refine lv_aload_n hx hb dX8_join_43 rfl (lv_at hl 0 rfl) ?_
        refine gs_X8_24 E hM ok1 dX8_join_44 (fun x9 hxx9 => ?_)
        replace h := k_bb h x9 hxx9.symm
        refine lv_iload_n hx hb dX8_join_47 rfl (lv_at hl 1 rfl) ?_
        rcases x9 with _ | k10
        · cases h
        rw [cs_s] at h
        obtain ⟨ok11, h⟩ := k_gd h
        refine m_iald E hM ok11 dX8_join_48 ?_
        refine lv_iconst (v := 3) hx hb dX8_join_49 (by decide) ?_
        refine lv_icmp_ne (tgt := 63) hx hb dX8_join_50 (by decide) (fun c12 => ?_) (fun c12 => ?_)
        · replace h := (k_if h).2 c12
          refine lv_aload_n hx hb dX8_join_63 rfl (lv_at hl 0 rfl) ?_
          refine lv_bipush (v := 8) hx hb dX8_join_64 (by decide) ?_
          obtain ⟨w13, hzw13, h⟩ := k_bd h
          refine m_callV (C := RX8) (T := TX8) (N := 33) (ci := 8) (n := 1) (As := [.int (8 : Int32)]) (rest := []) (st1 := (.int w13.1 :: [])) E hM hl.1 ok1 (by decide) rfl rfl (c_X8_no l D cy sz H0 (sI (sI u r 1 (0 : Int32)) r 0 (0 : Int32)) r (8 : Int32) hzw13) wl_X8_100 wm_X8_no ws_X8_no wi_X8 wd_X8_no rfl rfl (by decide +kernel) ⟨by decide, by decide⟩ rfl rfl (by first | exact Nat.le_of_ble_eq_true rfl | simp [rv_cat, cat_i, cat_l, cat_r, cat_n]) dX8_join_66 ⟨by decide, by decide⟩ rfl (fun H locs hM => ?_)
          obtain ⟨hB14, h⟩ := k_gd h
          cases h
          exact m_zret hx hb hr hlk hM hB14 rfl rfl dX8_join_69
        · replace h := (k_if h).1 c12
          refine lv_aload_n hx hb dX8_join_53 rfl (lv_at hl 0 rfl) ?_
          refine gs_X8_24 E hM ok1 dX8_join_54 (fun x15 hxx15 => ?_)
          replace h := k_bb h x15 hxx15.symm
          refine lv_iload_n hx hb dX8_join_57 rfl (lv_at hl 2 rfl) ?_
          rcases x15 with _ | k16
          · cases h
          rw [cs_s] at h
          obtain ⟨ok17, h⟩ := k_gd h
          refine m_iald E hM ok17 dX8_join_58 ?_
          refine lv_iconst (v := 3) hx hb dX8_join_59 (by decide) ?_
          refine lv_icmp_eq (tgt := 70) hx hb dX8_join_60 (by decide) (fun c18 => ?_) (fun c18 => ?_)
          · replace h := (k_if h).1 c18
            refine lv_aload_n hx hb dX8_join_70 rfl (lv_at hl 0 rfl) ?_
            refine gs_X8_33 E hM ok1 dX8_join_71 (fun x19 hxx19 => ?_)
            replace h := k_bb h x19 hxx19.symm
            refine lv_iload_n hx hb dX8_join_74 rfl (lv_at hl 1 rfl) ?_
            rcases x19 with _ | k20
            · cases h
            rw [cs_s] at h
            obtain ⟨ok21, h⟩ := k_gd h
            refine m_iald E hM ok21 dX8_join_75 ?_
            refine lv_aload_n hx hb dX8_join_76 rfl (lv_at hl 0 rfl) ?_
            refine gs_X8_33 E hM ok1 dX8_join_77 (fun x22 hxx22 => ?_)
            replace h := k_bb h x22 hxx22.symm
            refine lv_iload_n hx hb dX8_join_80 rfl (lv_at hl 2 rfl) ?_
            rcases x22 with _ | k23
            · cases h
            rw [cs_s] at h
            obtain ⟨ok24, h⟩ := k_gd h
            refine m_iald E hM ok24 dX8_join_81 ?_
            refine lv_icmp_ne (tgt := 92) hx hb dX8_join_82 (by decide) (fun c25 => ?_) (fun c25 => ?_)
            · replace h := (k_if h).2 c25
              refine lv_aload_n hx hb dX8_join_92 rfl (lv_at hl 0 rfl) ?_
              refine gs_X8_33 E hM ok1 dX8_join_93 (fun x26 hxx26 => ?_)
              replace h := k_bb h x26 hxx26.symm
              refine lv_iload_n hx hb dX8_join_96 rfl (lv_at hl 1 rfl) ?_
              rcases x26 with _ | k27
              · cases h
              rw [cs_s] at h
              obtain ⟨ok28, h⟩ := k_gd h
              refine m_iald E hM ok28 dX8_join_97 ?_
              refine lv_aload_n hx hb dX8_join_98 rfl (lv_at hl 0 rfl) ?_
              refine gs_X8_33 E hM ok1 dX8_join_99 (fun x29 hxx29 => ?_)
              replace h := k_bb h x29 hxx29.symm
              refine lv_iload_n hx hb dX8_join_102 rfl (lv_at hl 2 rfl) ?_
              rcases x29 with _ | k30
              · cases h
              rw [cs_s] at h
              obtain ⟨ok31, h⟩ := k_gd h
              refine m_iald E hM ok31 dX8_join_103 ?_
              refine va_mmin hx hb (hml.trans hl.1.symm) hown (hts _ wl_X8_134) (hts _ wst_J9_min_7cf53) (hts _ wi_J9) (hts _ wd_J9_min_7cf53) (by decide) (by first | exact Nat.le_of_ble_eq_true rfl | simp [rv_cat, cat_i, cat_l, cat_r, cat_n]) (by decide) (by decide) dX8_join_104 ?_
              refine lv_topi (fun v32 hvv32 => ?_)
              replace h := k_bb h v32 hvv32
              refine lv_istore_n (i := 3) (lv' := [(3, .int v32), (0, .ref (sz + r)), (1, .int p1), (2, .int p2)]) hx hb dX8_join_107 rfl hl (by decide) (by first | rfl | simp [rv_cat, cat_i, cat_l, cat_r, cat_n]) (fun ls hl => ?_)
              refine lv_aload_n hx hb dX8_join_108 rfl (lv_at hl 1 rfl) ?_
              refine gs_X8_33 E hM ok1 dX8_join_109 (fun x33 hxx33 => ?_)
              replace h := k_bb h x33 hxx33.symm
              refine lv_iload_n hx hb dX8_join_112 rfl (lv_at hl 2 rfl) ?_
              rcases x33 with _ | k34
              · cases h
              rw [cs_s] at h
              obtain ⟨ok35, h⟩ := k_gd h
              refine m_iald E hM ok35 dX8_join_113 ?_
              refine lv_aload_n hx hb dX8_join_114 rfl (lv_at hl 1 rfl) ?_
              refine gs_X8_33 E hM ok1 dX8_join_115 (fun x36 hxx36 => ?_)
              replace h := k_bb h x36 hxx36.symm
              refine lv_iload_n hx hb dX8_join_118 rfl (lv_at hl 3 rfl) ?_
              rcases x36 with _ | k37
              · cases h
              rw [cs_s] at h
              obtain ⟨ok38, h⟩ := k_gd h
              refine m_iald E hM ok38 dX8_join_119 ?_
              refine va_mmax hx hb (hml.trans hl.1.symm) hown (hts _ wl_X8_139) (hts _ wst_J9_max_7cf53) (hts _ wi_J9) (hts _ wd_J9_max_7cf53) (by decide) (by first | exact Nat.le_of_ble_eq_true rfl | simp [rv_cat, cat_i, cat_l, cat_r, cat_n]) (by decide) (by decide) dX8_join_120 ?_
              refine lv_topi (fun v39 hvv39 => ?_)
              replace h := k_bb h v39 hvv39
              refine lv_istore (i := 4) (lv' := [(4, .int v39), (3, .int v32), (0, .ref (sz + r)), (1, .int p1), (2, .int p2)]) hx hb dX8_join_123 hl (by decide) (by first | rfl | simp [rv_cat, cat_i, cat_l, cat_r, cat_n]) (fun ls hl => ?_)
              refine lv_iconst (v := 0) hx hb dX8_join_125 (by decide) ?_
              refine lv_istore (i := 5) (lv' := [(5, .int (0 : Int32)), (4, .int v39), (3, .int v32), (0, .ref (sz + r)), (1, .int p1), (2, .int p2)]) hx hb dX8_join_126 hl (by decide) (by first | rfl | simp [rv_cat, cat_i, cat_l, cat_r, cat_n]) (fun ls hl => ?_)
              refine lp_X8_join_128 hr hlk  E 1000 (0 : Int32) (sI (sI u r 1 (0 : Int32)) r 0 (0 : Int32)) H locs ls hM (lv_sub hl [3, 4, 5, 2, 1, 0] rfl) h (fun a51 u52 H locs ls hM hl h => ?_)
              refine lv_iconst (v := 1) hx hb dX8_join_163 (by decide) ?_
              cases h
              exact m_zret hx hb hr hlk hM (by decide) rfl rfl dX8_join_164
            · replace h := (k_if h).1 c25
              refine lv_aload_n hx hb dX8_join_85 rfl (lv_at hl 0 rfl) ?_
              refine lv_bipush (v := 10) hx hb dX8_join_86 (by decide) ?_
              obtain ⟨w53, hzw53, h⟩ := k_bd h
              refine m_callV (C := RX8) (T := TX8) (N := 33) (ci := 8) (n := 1) (As := [.int (10 : Int32)]) (rest := []) (st1 := (.int w53.1 :: [])) E hM hl.1 ok1 (by decide) rfl rfl (c_X8_no l D cy sz H0 (sI (sI u r 1 (0 : Int32)) r 0 (0 : Int32)) r (10 : Int32) hzw53) wl_X8_100 wm_X8_no ws_X8_no wi_X8 wd_X8_no rfl rfl (by decide +kernel) ⟨by decide, by decide⟩ rfl rfl (by first | exact Nat.le_of_ble_eq_true rfl | simp [rv_cat, cat_i, cat_l, cat_r, cat_n]) dX8_join_88 ⟨by decide, by decide⟩ rfl (fun H locs hM => ?_)
              obtain ⟨hB54, h⟩ := k_gd h
              cases h
              exact m_zret hx hb hr hlk hM hB54 rfl rfl dX8_join_91
          · replace h := (k_if h).2 c18
            refine lv_aload_n hx hb dX8_join_63 rfl (lv_at hl 0 rfl) ?_
            refine lv_bipush (v := 8) hx hb dX8_join_64 (by decide) ?_
            obtain ⟨w55, hzw55, h⟩ := k_bd h
            refine m_callV (C := RX8) (T := TX8) (N := 33) (ci := 8) (n := 1) (As := [.int (8 : Int32)]) (rest := []) (st1 := (.int w55.1 :: [])) E hM hl.1 ok1 (by decide) rfl rfl (c_X8_no l D cy sz H0 (sI (sI u r 1 (0 : Int32)) r 0 (0 : Int32)) r (8 : Int32) hzw55) wl_X8_100 wm_X8_no ws_X8_no wi_X8 wd_X8_no rfl rfl (by decide +kernel) ⟨by decide, by decide⟩ rfl rfl (by first | exact Nat.le_of_ble_eq_true rfl | simp [rv_cat, cat_i, cat_l, cat_r, cat_n]) dX8_join_66 ⟨by decide, by decide⟩ rfl (fun H locs hM => ?_)
            obtain ⟨hB56, h⟩ := k_gd h
            cases h
            exact m_zret hx hb hr hlk hM hB56 rfl rfl dX8_join_69
      · replace h := (k_if h).1 c8
        refine lv_aload_n hx hb dX8_join_37 rfl (lv_at hl 0 rfl) ?_
        refine lv_iconst (v := 5) hx hb dX8_join_38 (by decide) ?_
        obtain ⟨w57, hzw57, h⟩ := k_bd h
        refine m_callV (C := RX8) (T := TX8) (N := 33) (ci := 8) (n := 1) (As := [.int (5 : Int32)]) (rest := []) (st1 := (.int w57.1 :: [])) E hM hl.1 ok1 (by decide) rfl rfl (c_X8_no l D cy sz H0 (sI (sI u r 1 (0 : Int32)) r 0 (0 : Int32)) r (5 : Int32) hzw57) wl_X8_100 wm_X8_no ws_X8_no wi_X8 wd_X8_no rfl rfl (by decide +kernel) ⟨by decide, by decide⟩ rfl rfl (by first | exact Nat.le_of_ble_eq_true rfl | simp [rv_cat, cat_i, cat_l, cat_r, cat_n]) dX8_join_39 ⟨by decide, by decide⟩ rfl (fun H locs hM => ?_)
        obtain ⟨hB58, h⟩ := k_gd h
        cases h
        exact m_zret hx hb hr hlk hM hB58 rfl rfl dX8_join_42
    · replace h := (k_if h).1 c7
      refine lv_aload_n hx hb dX8_join_26 rfl (lv_at hl 0 rfl) ?_
      refine lv_iconst (v := 2) hx hb dX8_join_27 (by decide) ?_
      obtain ⟨w59, hzw59, h⟩ := k_bd h
      refine m_callV (C := RX8) (T := TX8) (N := 33) (ci := 8) (n := 1) (As := [.int (2 : Int32)]) (rest := []) (st1 := (.int w59.1 :: [])) E hM hl.1 ok1 (by decide) rfl rfl (c_X8_no l D cy sz H0 (sI (sI u r 1 (0 : Int32)) r 0 (0 : Int32)) r (2 : Int32) hzw59) wl_X8_100 wm_X8_no ws_X8_no wi_X8 wd_X8_no rfl rfl (by decide +kernel) ⟨by decide, by decide⟩ rfl rfl (by first | exact Nat.le_of_ble_eq_true rfl | simp [rv_cat, cat_i, cat_l, cat_r, cat_n]) dX8_join_28 ⟨by decide, by decide⟩ rfl (fun H locs hM => ?_)
      obtain ⟨hB60, h⟩ := k_gd h
      cases h
      exact m_zret hx hb hr hlk hM hB60 rfl rfl dX8_join_31

abbrev rm_X8_isPerson : Room := { frames := 0, cells := 0, slots := 0, locals := 0 }
def f_X8_isPerson (p1 : Int32) (u : Mm) : Option (Int32) := (if p1 < 0 then some (0 : Int32) else (if (16 : Int32) ≤ p1 then some (0 : Int32) else some (1 : Int32)))
set_option maxHeartbeats 4000000 in
set_option maxRecDepth 100000 in
theorem c_X8_isPerson (l : Launch) (D : va_G) (cy : Nat → ClassId) (sz : Nat) (H0 : Heap) (u : Mm) (p1 : Int32) {res : Int32} (h : f_X8_isPerson p1 u = some res) : Ctr l yX8_isPerson cX8_isPerson 1 (some .boolean) rm_X8_isPerson 0 0 D cy sz H0 u [.int p1] (some (.int res)) u := by
  refine m_start (lv := [(0, .int p1)]) (by decide) (by first | exact Nat.le_of_ble_eq_true rfl | simp [lg_sl, rv_cat, cat_i, cat_l, cat_r, cat_n]) (by first | rfl | simp [lv_args, rv_cat, cat_i, cat_l, cat_r, cat_n]) ?_
  intro p e s m below meth c ls E hr hlk hinit hM hl
  obtain ⟨hx, hb, hml, hown, hts, hKK⟩ := id E
  obtain ⟨H, hH⟩ : ∃ H, H = s.heap := ⟨_, rfl⟩
  obtain ⟨locs, hlocs⟩ : ∃ L : List Loc, L = [] := ⟨_, rfl⟩
  rw [← hH, ← hlocs] at hM ⊢
  unfold f_X8_isPerson at h
  refine lv_iload_n hx hb dX8_isPerson_0 rfl (lv_at hl 0 rfl) ?_
  refine lv_if_lt (tgt := 14) hx hb dX8_isPerson_1 (by decide) (fun c1 => ?_) (fun c1 => ?_)
  · replace h := (k_if h).1 c1
    refine lv_iconst (v := 0) hx hb dX8_isPerson_14 (by decide) ?_
    cases h
    exact m_zret hx hb hr hlk hM (by decide) rfl rfl dX8_isPerson_15
  · replace h := (k_if h).2 c1
    refine lv_iload_n hx hb dX8_isPerson_4 rfl (lv_at hl 0 rfl) ?_
    refine lv_bipush (v := 16) hx hb dX8_isPerson_5 (by decide) ?_
    refine lv_icmp_ge (tgt := 14) hx hb dX8_isPerson_7 (by decide) (fun c2 => ?_) (fun c2 => ?_)
    · replace h := (k_if h).1 c2
      refine lv_iconst (v := 0) hx hb dX8_isPerson_14 (by decide) ?_
      cases h
      exact m_zret hx hb hr hlk hM (by decide) rfl rfl dX8_isPerson_15
    · replace h := (k_if h).2 c2
      refine lv_iconst (v := 1) hx hb dX8_isPerson_10 (by decide) ?_
      refine lv_goto (tgt := 15) hx hb dX8_isPerson_11 (by decide) ?_
      cases h
      exact m_zret hx hb hr hlk hM (by decide) rfl rfl dX8_isPerson_15

abbrev rm_X8_isDay : Room := { frames := 0, cells := 0, slots := 0, locals := 0 }
def f_X8_isDay (p1 : Int32) (u : Mm) : Option (Int32) := (if p1 < 0 then some (0 : Int32) else (if (300000 : Int32) < p1 then some (0 : Int32) else some (1 : Int32)))
set_option maxHeartbeats 4000000 in
set_option maxRecDepth 100000 in
theorem c_X8_isDay (l : Launch) (D : va_G) (cy : Nat → ClassId) (sz : Nat) (H0 : Heap) (u : Mm) (p1 : Int32) {res : Int32} (h : f_X8_isDay p1 u = some res) : Ctr l yX8_isDay cX8_isDay 1 (some .boolean) rm_X8_isDay 0 0 D cy sz H0 u [.int p1] (some (.int res)) u := by
  refine m_start (lv := [(0, .int p1)]) (by decide) (by first | exact Nat.le_of_ble_eq_true rfl | simp [lg_sl, rv_cat, cat_i, cat_l, cat_r, cat_n]) (by first | rfl | simp [lv_args, rv_cat, cat_i, cat_l, cat_r, cat_n]) ?_
  intro p e s m below meth c ls E hr hlk hinit hM hl
  obtain ⟨hx, hb, hml, hown, hts, hKK⟩ := id E
  obtain ⟨H, hH⟩ : ∃ H, H = s.heap := ⟨_, rfl⟩
  obtain ⟨locs, hlocs⟩ : ∃ L : List Loc, L = [] := ⟨_, rfl⟩
  rw [← hH, ← hlocs] at hM ⊢
  unfold f_X8_isDay at h
  refine lv_iload_n hx hb dX8_isDay_0 rfl (lv_at hl 0 rfl) ?_
  refine lv_if_lt (tgt := 14) hx hb dX8_isDay_1 (by decide) (fun c1 => ?_) (fun c1 => ?_)
  · replace h := (k_if h).1 c1
    refine lv_iconst (v := 0) hx hb dX8_isDay_14 (by decide) ?_
    cases h
    exact m_zret hx hb hr hlk hM (by decide) rfl rfl dX8_isDay_15
  · replace h := (k_if h).2 c1
    refine lv_iload_n hx hb dX8_isDay_4 rfl (lv_at hl 0 rfl) ?_
    refine lv_ldc hx hb hown (hts _ wk_X8_145) dX8_isDay_5 ?_
    refine lv_icmp_gt (tgt := 14) hx hb dX8_isDay_7 (by decide) (fun c2 => ?_) (fun c2 => ?_)
    · replace h := (k_if h).1 c2
      refine lv_iconst (v := 0) hx hb dX8_isDay_14 (by decide) ?_
      cases h
      exact m_zret hx hb hr hlk hM (by decide) rfl rfl dX8_isDay_15
    · replace h := (k_if h).2 c2
      refine lv_iconst (v := 1) hx hb dX8_isDay_10 (by decide) ?_
      refine lv_goto (tgt := 15) hx hb dX8_isDay_11 (by decide) ?_
      cases h
      exact m_zret hx hb hr hlk hM (by decide) rfl rfl dX8_isDay_15

abbrev rm_X8_close : Room := { frames := 1, cells := 0, slots := 0, locals := 36 }
def f_X8_close (r : Nat) (p1 : Int32) (p2 : Int32) (p3 : Int32) (u : Mm) : Option ((Int32) × Mm) := gd (okO u r 8) (bd (f_X8_isThing r p1 (sI (sI u r 1 (0 : Int32)) r 0 (0 : Int32))) (fun w2 => (if w2 = 0 then bd (f_X8_no r (2 : Int32) (sI (sI u r 1 (0 : Int32)) r 0 (0 : Int32))) (fun w22 => gd (isB w22.1) (some (w22.1, w22.2))) else (if p2 < (-1 : Int32) then bd (f_X8_no r (5 : Int32) (sI (sI u r 1 (0 : Int32)) r 0 (0 : Int32))) (fun w5 => gd (isB w5.1) (some (w5.1, w5.2))) else (if (200000 : Int32) < p2 then bd (f_X8_no r (5 : Int32) (sI (sI u r 1 (0 : Int32)) r 0 (0 : Int32))) (fun w8 => gd (isB w8.1) (some (w8.1, w8.2))) else (if p3 < 0 then bd (f_X8_no r (5 : Int32) (sI (sI u r 1 (0 : Int32)) r 0 (0 : Int32))) (fun w11 => gd (isB w11.1) (some (w11.1, w11.2))) else (if p3 ≤ (65535 : Int32) then bb (gR (sI (sI u r 1 (0 : Int32)) r 0 (0 : Int32)) r 15) (fun x14 => cs x14 none (fun k15 => gd (okA (sI (sI u r 1 (0 : Int32)) r 0 (0 : Int32)) k15 9 p1) (bb (gR (sI (sI (sI u r 1 (0 : Int32)) r 0 (0 : Int32)) k15 (Int32.toNatClampNeg p1) p2) r 16) (fun x17 => cs x17 none (fun k18 => gd (okA (sI (sI (sI u r 1 (0 : Int32)) r 0 (0 : Int32)) k15 (Int32.toNatClampNeg p1) p2) k18 9 p1) (some ((1 : Int32), (sI (sI (sI (sI u r 1 (0 : Int32)) r 0 (0 : Int32)) k15 (Int32.toNatClampNeg p1) p2) k18 (Int32.toNatClampNeg p1) p3)))))))) else bd (f_X8_no r (5 : Int32) (sI (sI u r 1 (0 : Int32)) r 0 (0 : Int32))) (fun w20 => gd (isB w20.1) (some (w20.1, w20.2))))))))))
set_option maxHeartbeats 4000000 in
set_option maxRecDepth 100000 in
theorem c_X8_close (l : Launch) (D : va_G) (cy : Nat → ClassId) (sz : Nat) (H0 : Heap) (u : Mm) (r : Nat) (p1 : Int32) (p2 : Int32) (p3 : Int32) {res : (Int32) × Mm} (h : f_X8_close r p1 p2 p3 u = some res) : Ctr l yX8_close cX8_close 4 (some .boolean) rm_X8_close 0 0 D cy sz H0 u [.ref (sz + r), .int p1, .int p2, .int p3] (some (.int res.1)) res.2 := by
  refine m_start (lv := [(0, .ref (sz + r)), (1, .int p1), (2, .int p2), (3, .int p3)]) (by decide) (by first | exact Nat.le_of_ble_eq_true rfl | simp [lg_sl, rv_cat, cat_i, cat_l, cat_r, cat_n]) (by first | rfl | simp [lv_args, rv_cat, cat_i, cat_l, cat_r, cat_n]) ?_
  intro p e s m below meth c ls E hr hlk hinit hM hl
  obtain ⟨hx, hb, hml, hown, hts, hKK⟩ := id E
  obtain ⟨H, hH⟩ : ∃ H, H = s.heap := ⟨_, rfl⟩
  obtain ⟨locs, hlocs⟩ : ∃ L : List Loc, L = [] := ⟨_, rfl⟩
  rw [← hH, ← hlocs] at hM ⊢
  unfold f_X8_close at h
  refine lv_aload_n hx hb dX8_close_0 rfl (lv_at hl 0 rfl) ?_
  refine lv_iconst (v := 0) hx hb dX8_close_1 (by decide) ?_
  obtain ⟨ok1, h⟩ := k_gd h
  refine ps_X8_93 (v := (0 : Int32)) E hM ok1 dX8_close_2 (fun H locs hM => ?_)
  refine lv_aload_n hx hb dX8_close_5 rfl (lv_at hl 0 rfl) ?_
  refine lv_iconst (v := 0) hx hb dX8_close_6 (by decide) ?_
  refine ps_X8_97 (v := (0 : Int32)) E hM ok1 dX8_close_7 (fun H locs hM => ?_)
  refine lv_aload_n hx hb dX8_close_10 rfl (lv_at hl 0 rfl) ?_
  refine lv_iload_n hx hb dX8_close_11 rfl (lv_at hl 1 rfl) ?_
  obtain ⟨w2, hzw2, h⟩ := k_bd h
  refine m_callV (C := RX8) (T := TX8) (N := 33) (ci := 8) (n := 1) (As := [.int p1]) (rest := []) (st1 := (.int w2 :: [])) E hM hl.1 ok1 (by decide) rfl rfl (c_X8_isThing l D cy sz H0 (sI (sI u r 1 (0 : Int32)) r 0 (0 : Int32)) r p1 hzw2) wl_X8_124 wm_X8_isThing ws_X8_isThing wi_X8 wd_X8_isThing rfl rfl (by decide +kernel) ⟨by decide, by decide⟩ rfl rfl (by first | exact Nat.le_of_ble_eq_true rfl | simp [rv_cat, cat_i, cat_l, cat_r, cat_n]) dX8_close_12 ⟨by decide, by decide⟩ rfl (fun H locs hM => ?_)
  refine lv_if_ne (tgt := 24) hx hb dX8_close_15 (by decide) (fun c3 => ?_) (fun c3 => ?_)
  · replace h := (k_if h).2 c3
    refine lv_iload_n hx hb dX8_close_24 rfl (lv_at hl 2 rfl) ?_
    refine lv_iconst (v := (-1)) hx hb dX8_close_25 (by decide) ?_
    refine lv_icmp_lt (tgt := 45) hx hb dX8_close_26 (by decide) (fun c4 => ?_) (fun c4 => ?_)
    · replace h := (k_if h).1 c4
      refine lv_aload_n hx hb dX8_close_45 rfl (lv_at hl 0 rfl) ?_
      refine lv_iconst (v := 5) hx hb dX8_close_46 (by decide) ?_
      obtain ⟨w5, hzw5, h⟩ := k_bd h
      refine m_callV (C := RX8) (T := TX8) (N := 33) (ci := 8) (n := 1) (As := [.int (5 : Int32)]) (rest := []) (st1 := (.int w5.1 :: [])) E hM hl.1 ok1 (by decide) rfl rfl (c_X8_no l D cy sz H0 (sI (sI u r 1 (0 : Int32)) r 0 (0 : Int32)) r (5 : Int32) hzw5) wl_X8_100 wm_X8_no ws_X8_no wi_X8 wd_X8_no rfl rfl (by decide +kernel) ⟨by decide, by decide⟩ rfl rfl (by first | exact Nat.le_of_ble_eq_true rfl | simp [rv_cat, cat_i, cat_l, cat_r, cat_n]) dX8_close_47 ⟨by decide, by decide⟩ rfl (fun H locs hM => ?_)
      obtain ⟨hB6, h⟩ := k_gd h
      cases h
      exact m_zret hx hb hr hlk hM hB6 rfl rfl dX8_close_50
    · replace h := (k_if h).2 c4
      refine lv_iload_n hx hb dX8_close_29 rfl (lv_at hl 2 rfl) ?_
      refine lv_ldc hx hb hown (hts _ wk_X8_146) dX8_close_30 ?_
      refine lv_icmp_gt (tgt := 45) hx hb dX8_close_32 (by decide) (fun c7 => ?_) (fun c7 => ?_)
      · replace h := (k_if h).1 c7
        refine lv_aload_n hx hb dX8_close_45 rfl (lv_at hl 0 rfl) ?_
        refine lv_iconst (v := 5) hx hb dX8_close_46 (by decide) ?_
        obtain ⟨w8, hzw8, h⟩ := k_bd h
        refine m_callV (C := RX8) (T := TX8) (N := 33) (ci := 8) (n := 1) (As := [.int (5 : Int32)]) (rest := []) (st1 := (.int w8.1 :: [])) E hM hl.1 ok1 (by decide) rfl rfl (c_X8_no l D cy sz H0 (sI (sI u r 1 (0 : Int32)) r 0 (0 : Int32)) r (5 : Int32) hzw8) wl_X8_100 wm_X8_no ws_X8_no wi_X8 wd_X8_no rfl rfl (by decide +kernel) ⟨by decide, by decide⟩ rfl rfl (by first | exact Nat.le_of_ble_eq_true rfl | simp [rv_cat, cat_i, cat_l, cat_r, cat_n]) dX8_close_47 ⟨by decide, by decide⟩ rfl (fun H locs hM => ?_)
        obtain ⟨hB9, h⟩ := k_gd h
        cases h
        exact m_zret hx hb hr hlk hM hB9 rfl rfl dX8_close_50
      · replace h := (k_if h).2 c7
        refine lv_iload_n hx hb dX8_close_35 rfl (lv_at hl 3 rfl) ?_
        refine lv_if_lt (tgt := 45) hx hb dX8_close_36 (by decide) (fun c10 => ?_) (fun c10 => ?_)
        · replace h := (k_if h).1 c10
          refine lv_aload_n hx hb dX8_close_45 rfl (lv_at hl 0 rfl) ?_
          refine lv_iconst (v := 5) hx hb dX8_close_46 (by decide) ?_
          obtain ⟨w11, hzw11, h⟩ := k_bd h
          refine m_callV (C := RX8) (T := TX8) (N := 33) (ci := 8) (n := 1) (As := [.int (5 : Int32)]) (rest := []) (st1 := (.int w11.1 :: [])) E hM hl.1 ok1 (by decide) rfl rfl (c_X8_no l D cy sz H0 (sI (sI u r 1 (0 : Int32)) r 0 (0 : Int32)) r (5 : Int32) hzw11) wl_X8_100 wm_X8_no ws_X8_no wi_X8 wd_X8_no rfl rfl (by decide +kernel) ⟨by decide, by decide⟩ rfl rfl (by first | exact Nat.le_of_ble_eq_true rfl | simp [rv_cat, cat_i, cat_l, cat_r, cat_n]) dX8_close_47 ⟨by decide, by decide⟩ rfl (fun H locs hM => ?_)
          obtain ⟨hB12, h⟩ := k_gd h
          cases h
          exact m_zret hx hb hr hlk hM hB12 rfl rfl dX8_close_50
        · replace h := (k_if h).2 c10
          refine lv_iload_n hx hb dX8_close_39 rfl (lv_at hl 3 rfl) ?_
          refine lv_ldc hx hb hown (hts _ wk_X8_147) dX8_close_40 ?_
          refine lv_icmp_le (tgt := 51) hx hb dX8_close_42 (by decide) (fun c13 => ?_) (fun c13 => ?_)
          · replace h := (k_if h).1 c13
            refine lv_aload_n hx hb dX8_close_51 rfl (lv_at hl 0 rfl) ?_
            refine gs_X8_45 E hM ok1 dX8_close_52 (fun x14 hxx14 => ?_)
            replace h := k_bb h x14 hxx14.symm
            refine lv_iload_n hx hb dX8_close_55 rfl (lv_at hl 1 rfl) ?_
            refine lv_iload_n hx hb dX8_close_56 rfl (lv_at hl 2 rfl) ?_
            rcases x14 with _ | k15
            · cases h
            rw [cs_s] at h
            obtain ⟨ok16, h⟩ := k_gd h
            refine m_iast E hM ok16 dX8_close_57 (fun H locs hM => ?_)
            refine lv_aload_n hx hb dX8_close_58 rfl (lv_at hl 0 rfl) ?_
            refine gs_X8_48 E hM ok1 dX8_close_59 (fun x17 hxx17 => ?_)
            replace h := k_bb h x17 hxx17.symm
            refine lv_iload_n hx hb dX8_close_62 rfl (lv_at hl 1 rfl) ?_
            refine lv_iload_n hx hb dX8_close_63 rfl (lv_at hl 3 rfl) ?_
            rcases x17 with _ | k18
            · cases h
            rw [cs_s] at h
            obtain ⟨ok19, h⟩ := k_gd h
            refine m_iast E hM ok19 dX8_close_64 (fun H locs hM => ?_)
            refine lv_iconst (v := 1) hx hb dX8_close_65 (by decide) ?_
            cases h
            exact m_zret hx hb hr hlk hM (by decide) rfl rfl dX8_close_66
          · replace h := (k_if h).2 c13
            refine lv_aload_n hx hb dX8_close_45 rfl (lv_at hl 0 rfl) ?_
            refine lv_iconst (v := 5) hx hb dX8_close_46 (by decide) ?_
            obtain ⟨w20, hzw20, h⟩ := k_bd h
            refine m_callV (C := RX8) (T := TX8) (N := 33) (ci := 8) (n := 1) (As := [.int (5 : Int32)]) (rest := []) (st1 := (.int w20.1 :: [])) E hM hl.1 ok1 (by decide) rfl rfl (c_X8_no l D cy sz H0 (sI (sI u r 1 (0 : Int32)) r 0 (0 : Int32)) r (5 : Int32) hzw20) wl_X8_100 wm_X8_no ws_X8_no wi_X8 wd_X8_no rfl rfl (by decide +kernel) ⟨by decide, by decide⟩ rfl rfl (by first | exact Nat.le_of_ble_eq_true rfl | simp [rv_cat, cat_i, cat_l, cat_r, cat_n]) dX8_close_47 ⟨by decide, by decide⟩ rfl (fun H locs hM => ?_)
            obtain ⟨hB21, h⟩ := k_gd h
            cases h
            exact m_zret hx hb hr hlk hM hB21 rfl rfl dX8_close_50
  · replace h := (k_if h).1 c3
    refine lv_aload_n hx hb dX8_close_18 rfl (lv_at hl 0 rfl) ?_
    refine lv_iconst (v := 2) hx hb dX8_close_19 (by decide) ?_
    obtain ⟨w22, hzw22, h⟩ := k_bd h
    refine m_callV (C := RX8) (T := TX8) (N := 33) (ci := 8) (n := 1) (As := [.int (2 : Int32)]) (rest := []) (st1 := (.int w22.1 :: [])) E hM hl.1 ok1 (by decide) rfl rfl (c_X8_no l D cy sz H0 (sI (sI u r 1 (0 : Int32)) r 0 (0 : Int32)) r (2 : Int32) hzw22) wl_X8_100 wm_X8_no ws_X8_no wi_X8 wd_X8_no rfl rfl (by decide +kernel) ⟨by decide, by decide⟩ rfl rfl (by first | exact Nat.le_of_ble_eq_true rfl | simp [rv_cat, cat_i, cat_l, cat_r, cat_n]) dX8_close_20 ⟨by decide, by decide⟩ rfl (fun H locs hM => ?_)
    obtain ⟨hB23, h⟩ := k_gd h
    cases h
    exact m_zret hx hb hr hlk hM hB23 rfl rfl dX8_close_23

abbrev rm_X8_seesOf : Room := { frames := 0, cells := 0, slots := 0, locals := 0 }
def L_X8_seesOf_3 (b0 : Nat) (b1 : Int32) (b2 : Int32) (b3 : Int32) (u : Mm) (k : Int32 → Option (Int32)) : Nat → Int32 → Option (Int32)
  | 0, _ => none
  | n + 1, a4 => (if a4 < 0 then k a4 else gd (okO u b0 8) (bb (gR u b0 15) (fun x3 => cs x3 none (fun k4 => gd (okA u k4 9 a4) ((if (gI u k4 (Int32.toNatClampNeg a4)) ≤ b3 then bb (gR u b0 9) (fun x7 => cs x7 none (fun k8 => gd (okA u k8 9 a4) (bb ((gI u k8 (Int32.toNatClampNeg a4))) (fun v10 => L_X8_seesOf_3 b0 b1 b2 b3 u k n v10)))) else bb (gR u b0 16) (fun x11 => cs x11 none (fun k12 => gd (okA u k12 9 a4) ((if (((gI u k12 (Int32.toNatClampNeg a4)) >>> (b2 &&& 31)) &&& (1 : Int32)) = 0 then some (0 : Int32) else bb (gR u b0 9) (fun x15 => cs x15 none (fun k16 => gd (okA u k16 9 a4) (bb ((gI u k16 (Int32.toNatClampNeg a4))) (fun v18 => L_X8_seesOf_3 b0 b1 b2 b3 u k n v18))))))))))))))
set_option maxHeartbeats 4000000 in
set_option maxRecDepth 100000 in
theorem lp_X8_seesOf_3 {p : Program} {l : Launch} {e : Env} {s : State} {m : MethodId} {args : Array Value} {below : List Frame} {meth : Method} {c : Code} {D : va_G} {cy : Nat → ClassId} {sz : Nat} {H0 : Heap} {b0 : Nat} {b1 : Int32} {b2 : Int32} {b3 : Int32} {u : Mm} {k : Int32 → Option (Int32)} {res : Int32} (hr : meth.sig.returnType = (some .boolean)) (hlk : meth.locks = false) (E : EE p s m args c cX8_seesOf 5 RX8 D cy) : ∀ (n : Nat) (a4 : Int32) (H : Heap) (locs : List Loc) (ls : Array Slot), MM D cy sz H0 u H locs → lv_has ls 5 [(0, .ref (sz + b0)), (1, .int b1), (2, .int b2), (3, .int b3), (4, .int a4)] → L_X8_seesOf_3 b0 b1 b2 b3 u k n a4 = some res → (∀ (a4 : Int32) (H : Heap) (locs : List Loc) (ls : Array Slot), MM D cy sz H0 u H locs → lv_has ls 5 [(0, .ref (sz + b0)), (1, .int b1), (2, .int b2), (3, .int b3), (4, .int a4)] → k a4 = some res → W p l e rm_X8_seesOf s m args below meth c H locs 0 0 (MQ below (Post D cy sz H0 (some (.int res)) u) args s 0 0 (fun q => sz ≤ q)) (F0 m 47 ls [])) → W p l e rm_X8_seesOf s m args below meth c H locs 0 0 (MQ below (Post D cy sz H0 (some (.int res)) u) args s 0 0 (fun q => sz ≤ q)) (F0 m 3 ls []) := by
  obtain ⟨hx, hb, hml, hown, hts, hKK⟩ := id E
  intro n
  induction n with
  | zero => intros; rename_i h _; cases h
  | succ n ih =>
    intro a4 H locs ls hM hl h hk
    rw [L_X8_seesOf_3] at h
    refine lv_iload hx hb dX8_seesOf_3 (lv_at hl 4 rfl) ?_
    refine lv_if_lt (tgt := 47) hx hb dX8_seesOf_5 (by decide) (fun c1 => ?_) (fun c1 => ?_)
    · replace h := (k_if h).1 c1
      exact hk a4 H locs ls hM (lv_sub hl [0, 1, 2, 3, 4] rfl) h
    · replace h := (k_if h).2 c1
      refine lv_aload_n hx hb dX8_seesOf_8 rfl (lv_at hl 0 rfl) ?_
      obtain ⟨ok2, h⟩ := k_gd h
      refine gs_X8_45 E hM ok2 dX8_seesOf_9 (fun x3 hxx3 => ?_)
      replace h := k_bb h x3 hxx3.symm
      refine lv_iload hx hb dX8_seesOf_12 (lv_at hl 4 rfl) ?_
      rcases x3 with _ | k4
      · cases h
      rw [cs_s] at h
      obtain ⟨ok5, h⟩ := k_gd h
      refine m_iald E hM ok5 dX8_seesOf_14 ?_
      refine lv_iload_n hx hb dX8_seesOf_15 rfl (lv_at hl 3 rfl) ?_
      refine lv_icmp_le (tgt := 35) hx hb dX8_seesOf_16 (by decide) (fun c6 => ?_) (fun c6 => ?_)
      · replace h := (k_if h).1 c6
        refine lv_aload_n hx hb dX8_seesOf_35 rfl (lv_at hl 0 rfl) ?_
        refine gs_X8_27 E hM ok2 dX8_seesOf_36 (fun x7 hxx7 => ?_)
        replace h := k_bb h x7 hxx7.symm
        refine lv_iload hx hb dX8_seesOf_39 (lv_at hl 4 rfl) ?_
        rcases x7 with _ | k8
        · cases h
        rw [cs_s] at h
        obtain ⟨ok9, h⟩ := k_gd h
        refine m_iald E hM ok9 dX8_seesOf_41 ?_
        refine lv_topi (fun v10 hvv10 => ?_)
        replace h := k_bb h v10 hvv10
        refine lv_istore (i := 4) (lv' := [(4, .int v10), (0, .ref (sz + b0)), (1, .int b1), (2, .int b2), (3, .int b3)]) hx hb dX8_seesOf_42 hl (by decide) (by first | rfl | simp [rv_cat, cat_i, cat_l, cat_r, cat_n]) (fun ls hl => ?_)
        refine lv_goto (tgt := 3) hx hb dX8_seesOf_44 (by decide) ?_
        exact ih v10 H locs ls hM (lv_sub hl [1, 2, 3, 4, 0] rfl) h hk
      · replace h := (k_if h).2 c6
        refine lv_aload_n hx hb dX8_seesOf_19 rfl (lv_at hl 0 rfl) ?_
        refine gs_X8_48 E hM ok2 dX8_seesOf_20 (fun x11 hxx11 => ?_)
        replace h := k_bb h x11 hxx11.symm
        refine lv_iload hx hb dX8_seesOf_23 (lv_at hl 4 rfl) ?_
        rcases x11 with _ | k12
        · cases h
        rw [cs_s] at h
        obtain ⟨ok13, h⟩ := k_gd h
        refine m_iald E hM ok13 dX8_seesOf_25 ?_
        refine lv_iload_n hx hb dX8_seesOf_26 rfl (lv_at hl 2 rfl) ?_
        refine lv_ishr hx hb dX8_seesOf_27 ?_
        refine lv_iconst (v := 1) hx hb dX8_seesOf_28 (by decide) ?_
        refine lv_iand hx hb dX8_seesOf_29 ?_
        refine lv_if_ne (tgt := 35) hx hb dX8_seesOf_30 (by decide) (fun c14 => ?_) (fun c14 => ?_)
        · replace h := (k_if h).2 c14
          refine lv_aload_n hx hb dX8_seesOf_35 rfl (lv_at hl 0 rfl) ?_
          refine gs_X8_27 E hM ok2 dX8_seesOf_36 (fun x15 hxx15 => ?_)
          replace h := k_bb h x15 hxx15.symm
          refine lv_iload hx hb dX8_seesOf_39 (lv_at hl 4 rfl) ?_
          rcases x15 with _ | k16
          · cases h
          rw [cs_s] at h
          obtain ⟨ok17, h⟩ := k_gd h
          refine m_iald E hM ok17 dX8_seesOf_41 ?_
          refine lv_topi (fun v18 hvv18 => ?_)
          replace h := k_bb h v18 hvv18
          refine lv_istore (i := 4) (lv' := [(4, .int v18), (0, .ref (sz + b0)), (1, .int b1), (2, .int b2), (3, .int b3)]) hx hb dX8_seesOf_42 hl (by decide) (by first | rfl | simp [rv_cat, cat_i, cat_l, cat_r, cat_n]) (fun ls hl => ?_)
          refine lv_goto (tgt := 3) hx hb dX8_seesOf_44 (by decide) ?_
          exact ih v18 H locs ls hM (lv_sub hl [1, 2, 3, 4, 0] rfl) h hk
        · replace h := (k_if h).1 c14
          refine lv_iconst (v := 0) hx hb dX8_seesOf_33 (by decide) ?_
          cases h
          exact m_zret hx hb hr hlk hM (by decide) rfl rfl dX8_seesOf_34

def f_X8_seesOf (r : Nat) (p1 : Int32) (p2 : Int32) (p3 : Int32) (u : Mm) : Option (Int32) := L_X8_seesOf_3 r p1 p2 p3 u (fun a19 => some (1 : Int32)) 1000 p1 
set_option maxHeartbeats 4000000 in
set_option maxRecDepth 100000 in
theorem c_X8_seesOf (l : Launch) (D : va_G) (cy : Nat → ClassId) (sz : Nat) (H0 : Heap) (u : Mm) (r : Nat) (p1 : Int32) (p2 : Int32) (p3 : Int32) {res : Int32} (h : f_X8_seesOf r p1 p2 p3 u = some res) : Ctr l yX8_seesOf cX8_seesOf 5 (some .boolean) rm_X8_seesOf 0 0 D cy sz H0 u [.ref (sz + r), .int p1, .int p2, .int p3] (some (.int res)) u := by
  refine m_start (lv := [(0, .ref (sz + r)), (1, .int p1), (2, .int p2), (3, .int p3)]) (by decide) (by first | exact Nat.le_of_ble_eq_true rfl | simp [lg_sl, rv_cat, cat_i, cat_l, cat_r, cat_n]) (by first | rfl | simp [lv_args, rv_cat, cat_i, cat_l, cat_r, cat_n]) ?_
  intro p e s m below meth c ls E hr hlk hinit hM hl
  obtain ⟨hx, hb, hml, hown, hts, hKK⟩ := id E
  obtain ⟨H, hH⟩ : ∃ H, H = s.heap := ⟨_, rfl⟩
  obtain ⟨locs, hlocs⟩ : ∃ L : List Loc, L = [] := ⟨_, rfl⟩
  rw [← hH, ← hlocs] at hM ⊢
  unfold f_X8_seesOf at h
  refine lv_iload_n hx hb dX8_seesOf_0 rfl (lv_at hl 1 rfl) ?_
  refine lv_istore (i := 4) (lv' := [(4, .int p1), (0, .ref (sz + r)), (1, .int p1), (2, .int p2), (3, .int p3)]) hx hb dX8_seesOf_1 hl (by decide) (by first | rfl | simp [rv_cat, cat_i, cat_l, cat_r, cat_n]) (fun ls hl => ?_)
  refine lp_X8_seesOf_3 hr hlk  E 1000 p1 H locs ls hM (lv_sub hl [1, 2, 3, 4, 0] rfl) h (fun a19 H locs ls hM hl h => ?_)
  refine lv_iconst (v := 1) hx hb dX8_seesOf_47 (by decide) ?_
  cases h
  exact m_zret hx hb hr hlk hM (by decide) rfl rfl dX8_seesOf_48

abbrev rm_X8_sees : Room := { frames := 1, cells := 0, slots := 0, locals := 36 }
def f_X8_sees (r : Nat) (p1 : Int32) (p2 : Int32) (p3 : Int32) (u : Mm) : Option ((Int32) × Mm) := gd (okO u r 8) (bd (f_X8_isThing r p1 (sI (sI u r 1 (0 : Int32)) r 0 (0 : Int32))) (fun w2 => (if w2 = 0 then bd (f_X8_refuse r (2 : Int32) (sI (sI u r 1 (0 : Int32)) r 0 (0 : Int32))) (fun w4 => some (w4.1, w4.2)) else bd (f_X8_isPerson p2 (sI (sI u r 1 (0 : Int32)) r 0 (0 : Int32))) (fun w5 => (if w5 = 0 then bd (f_X8_refuse r (2 : Int32) (sI (sI u r 1 (0 : Int32)) r 0 (0 : Int32))) (fun w12 => some (w12.1, w12.2)) else bd (f_X8_isDay p3 (sI (sI u r 1 (0 : Int32)) r 0 (0 : Int32))) (fun w7 => (if w7 = 0 then bd (f_X8_refuse r (5 : Int32) (sI (sI u r 1 (0 : Int32)) r 0 (0 : Int32))) (fun w11 => some (w11.1, w11.2)) else bd (f_X8_seesOf r p1 p2 p3 (sI (sI u r 1 (0 : Int32)) r 0 (0 : Int32))) (fun w9 => (if w9 = 0 then some ((0 : Int32), (sI (sI u r 1 (0 : Int32)) r 0 (0 : Int32))) else some ((1 : Int32), (sI (sI u r 1 (0 : Int32)) r 0 (0 : Int32))))))))))))
set_option maxHeartbeats 4000000 in
set_option maxRecDepth 100000 in
theorem c_X8_sees (l : Launch) (D : va_G) (cy : Nat → ClassId) (sz : Nat) (H0 : Heap) (u : Mm) (r : Nat) (p1 : Int32) (p2 : Int32) (p3 : Int32) {res : (Int32) × Mm} (h : f_X8_sees r p1 p2 p3 u = some res) : Ctr l yX8_sees cX8_sees 4 (some .int) rm_X8_sees 0 0 D cy sz H0 u [.ref (sz + r), .int p1, .int p2, .int p3] (some (.int res.1)) res.2 := by
  refine m_start (lv := [(0, .ref (sz + r)), (1, .int p1), (2, .int p2), (3, .int p3)]) (by decide) (by first | exact Nat.le_of_ble_eq_true rfl | simp [lg_sl, rv_cat, cat_i, cat_l, cat_r, cat_n]) (by first | rfl | simp [lv_args, rv_cat, cat_i, cat_l, cat_r, cat_n]) ?_
  intro p e s m below meth c ls E hr hlk hinit hM hl
  obtain ⟨hx, hb, hml, hown, hts, hKK⟩ := id E
  obtain ⟨H, hH⟩ : ∃ H, H = s.heap := ⟨_, rfl⟩
  obtain ⟨locs, hlocs⟩ : ∃ L : List Loc, L = [] := ⟨_, rfl⟩
  rw [← hH, ← hlocs] at hM ⊢
  unfold f_X8_sees at h
  refine lv_aload_n hx hb dX8_sees_0 rfl (lv_at hl 0 rfl) ?_
  refine lv_iconst (v := 0) hx hb dX8_sees_1 (by decide) ?_
  obtain ⟨ok1, h⟩ := k_gd h
  refine ps_X8_93 (v := (0 : Int32)) E hM ok1 dX8_sees_2 (fun H locs hM => ?_)
  refine lv_aload_n hx hb dX8_sees_5 rfl (lv_at hl 0 rfl) ?_
  refine lv_iconst (v := 0) hx hb dX8_sees_6 (by decide) ?_
  refine ps_X8_97 (v := (0 : Int32)) E hM ok1 dX8_sees_7 (fun H locs hM => ?_)
  refine lv_aload_n hx hb dX8_sees_10 rfl (lv_at hl 0 rfl) ?_
  refine lv_iload_n hx hb dX8_sees_11 rfl (lv_at hl 1 rfl) ?_
  obtain ⟨w2, hzw2, h⟩ := k_bd h
  refine m_callV (C := RX8) (T := TX8) (N := 33) (ci := 8) (n := 1) (As := [.int p1]) (rest := []) (st1 := (.int w2 :: [])) E hM hl.1 ok1 (by decide) rfl rfl (c_X8_isThing l D cy sz H0 (sI (sI u r 1 (0 : Int32)) r 0 (0 : Int32)) r p1 hzw2) wl_X8_124 wm_X8_isThing ws_X8_isThing wi_X8 wd_X8_isThing rfl rfl (by decide +kernel) ⟨by decide, by decide⟩ rfl rfl (by first | exact Nat.le_of_ble_eq_true rfl | simp [rv_cat, cat_i, cat_l, cat_r, cat_n]) dX8_sees_12 ⟨by decide, by decide⟩ rfl (fun H locs hM => ?_)
  refine lv_if_eq (tgt := 25) hx hb dX8_sees_15 (by decide) (fun c3 => ?_) (fun c3 => ?_)
  · replace h := (k_if h).1 c3
    refine lv_aload_n hx hb dX8_sees_25 rfl (lv_at hl 0 rfl) ?_
    refine lv_iconst (v := 2) hx hb dX8_sees_26 (by decide) ?_
    obtain ⟨w4, hzw4, h⟩ := k_bd h
    refine m_callV (C := RX8) (T := TX8) (N := 33) (ci := 8) (n := 1) (As := [.int (2 : Int32)]) (rest := []) (st1 := (.int w4.1 :: [])) E hM hl.1 ok1 (by decide) rfl rfl (c_X8_refuse l D cy sz H0 (sI (sI u r 1 (0 : Int32)) r 0 (0 : Int32)) r (2 : Int32) hzw4) wl_X8_121 wm_X8_refuse ws_X8_refuse wi_X8 wd_X8_refuse rfl rfl (by decide +kernel) ⟨by decide, by decide⟩ rfl rfl (by first | exact Nat.le_of_ble_eq_true rfl | simp [rv_cat, cat_i, cat_l, cat_r, cat_n]) dX8_sees_27 ⟨by decide, by decide⟩ rfl (fun H locs hM => ?_)
    cases h
    exact m_iret hx hb hr hlk hM rfl rfl dX8_sees_30
  · replace h := (k_if h).2 c3
    refine lv_iload_n hx hb dX8_sees_18 rfl (lv_at hl 2 rfl) ?_
    obtain ⟨w5, hzw5, h⟩ := k_bd h
    refine m_callS (n := 1) (As := [.int p2]) (rest := []) (st1 := (.int w5 :: [])) E hM hl.1 (c_X8_isPerson l D cy sz H0 (sI (sI u r 1 (0 : Int32)) r 0 (0 : Int32)) p2 hzw5) wl_X8_148 wst_X8_isPerson wi_X8 wd_X8_isPerson rfl rfl (by decide +kernel) ⟨by decide, by decide⟩ rfl rfl (by first | exact Nat.le_of_ble_eq_true rfl | simp [rv_cat, cat_i, cat_l, cat_r, cat_n]) dX8_sees_19 ⟨by decide, by decide⟩ rfl (fun H locs hM => ?_)
    refine lv_if_ne (tgt := 31) hx hb dX8_sees_22 (by decide) (fun c6 => ?_) (fun c6 => ?_)
    · replace h := (k_if h).2 c6
      refine lv_iload_n hx hb dX8_sees_31 rfl (lv_at hl 3 rfl) ?_
      obtain ⟨w7, hzw7, h⟩ := k_bd h
      refine m_callS (n := 1) (As := [.int p3]) (rest := []) (st1 := (.int w7 :: [])) E hM hl.1 (c_X8_isDay l D cy sz H0 (sI (sI u r 1 (0 : Int32)) r 0 (0 : Int32)) p3 hzw7) wl_X8_151 wst_X8_isDay wi_X8 wd_X8_isDay rfl rfl (by decide +kernel) ⟨by decide, by decide⟩ rfl rfl (by first | exact Nat.le_of_ble_eq_true rfl | simp [rv_cat, cat_i, cat_l, cat_r, cat_n]) dX8_sees_32 ⟨by decide, by decide⟩ rfl (fun H locs hM => ?_)
      refine lv_if_ne (tgt := 44) hx hb dX8_sees_35 (by decide) (fun c8 => ?_) (fun c8 => ?_)
      · replace h := (k_if h).2 c8
        refine lv_aload_n hx hb dX8_sees_44 rfl (lv_at hl 0 rfl) ?_
        refine lv_iload_n hx hb dX8_sees_45 rfl (lv_at hl 1 rfl) ?_
        refine lv_iload_n hx hb dX8_sees_46 rfl (lv_at hl 2 rfl) ?_
        refine lv_iload_n hx hb dX8_sees_47 rfl (lv_at hl 3 rfl) ?_
        obtain ⟨w9, hzw9, h⟩ := k_bd h
        refine m_callV (C := RX8) (T := TX8) (N := 33) (ci := 8) (n := 3) (As := [.int p1, .int p2, .int p3]) (rest := []) (st1 := (.int w9 :: [])) E hM hl.1 ok1 (by decide) rfl rfl (c_X8_seesOf l D cy sz H0 (sI (sI u r 1 (0 : Int32)) r 0 (0 : Int32)) r p1 p2 p3 hzw9) wl_X8_154 wm_X8_seesOf ws_X8_seesOf wi_X8 wd_X8_seesOf rfl rfl (by decide +kernel) ⟨by decide, by decide⟩ rfl rfl (by first | exact Nat.le_of_ble_eq_true rfl | simp [rv_cat, cat_i, cat_l, cat_r, cat_n]) dX8_sees_48 ⟨by decide, by decide⟩ rfl (fun H locs hM => ?_)
        refine lv_if_eq (tgt := 58) hx hb dX8_sees_51 (by decide) (fun c10 => ?_) (fun c10 => ?_)
        · replace h := (k_if h).1 c10
          refine lv_iconst (v := 0) hx hb dX8_sees_58 (by decide) ?_
          cases h
          exact m_iret hx hb hr hlk hM rfl rfl dX8_sees_59
        · replace h := (k_if h).2 c10
          refine lv_iconst (v := 1) hx hb dX8_sees_54 (by decide) ?_
          refine lv_goto (tgt := 59) hx hb dX8_sees_55 (by decide) ?_
          cases h
          exact m_iret hx hb hr hlk hM rfl rfl dX8_sees_59
      · replace h := (k_if h).1 c8
        refine lv_aload_n hx hb dX8_sees_38 rfl (lv_at hl 0 rfl) ?_
        refine lv_iconst (v := 5) hx hb dX8_sees_39 (by decide) ?_
        obtain ⟨w11, hzw11, h⟩ := k_bd h
        refine m_callV (C := RX8) (T := TX8) (N := 33) (ci := 8) (n := 1) (As := [.int (5 : Int32)]) (rest := []) (st1 := (.int w11.1 :: [])) E hM hl.1 ok1 (by decide) rfl rfl (c_X8_refuse l D cy sz H0 (sI (sI u r 1 (0 : Int32)) r 0 (0 : Int32)) r (5 : Int32) hzw11) wl_X8_121 wm_X8_refuse ws_X8_refuse wi_X8 wd_X8_refuse rfl rfl (by decide +kernel) ⟨by decide, by decide⟩ rfl rfl (by first | exact Nat.le_of_ble_eq_true rfl | simp [rv_cat, cat_i, cat_l, cat_r, cat_n]) dX8_sees_40 ⟨by decide, by decide⟩ rfl (fun H locs hM => ?_)
        cases h
        exact m_iret hx hb hr hlk hM rfl rfl dX8_sees_43
    · replace h := (k_if h).1 c6
      refine lv_aload_n hx hb dX8_sees_25 rfl (lv_at hl 0 rfl) ?_
      refine lv_iconst (v := 2) hx hb dX8_sees_26 (by decide) ?_
      obtain ⟨w12, hzw12, h⟩ := k_bd h
      refine m_callV (C := RX8) (T := TX8) (N := 33) (ci := 8) (n := 1) (As := [.int (2 : Int32)]) (rest := []) (st1 := (.int w12.1 :: [])) E hM hl.1 ok1 (by decide) rfl rfl (c_X8_refuse l D cy sz H0 (sI (sI u r 1 (0 : Int32)) r 0 (0 : Int32)) r (2 : Int32) hzw12) wl_X8_121 wm_X8_refuse ws_X8_refuse wi_X8 wd_X8_refuse rfl rfl (by decide +kernel) ⟨by decide, by decide⟩ rfl rfl (by first | exact Nat.le_of_ble_eq_true rfl | simp [rv_cat, cat_i, cat_l, cat_r, cat_n]) dX8_sees_27 ⟨by decide, by decide⟩ rfl (fun H locs hM => ?_)
      cases h
      exact m_iret hx hb hr hlk hM rfl rfl dX8_sees_30

abbrev rm_X8_isPart : Room := { frames := 0, cells := 0, slots := 0, locals := 0 }
def L_X8_isPart_2 (b0 : Nat) (b1 : Int32) (b2 : Int32) (u : Mm) (k : Int32 → Option (Int32)) : Nat → Int32 → Option (Int32)
  | 0, _ => none
  | n + 1, a3 => (if a3 < 0 then k a3 else (if a3 = b2 then k a3 else gd (okO u b0 8) (bb (gR u b0 9) (fun x4 => cs x4 none (fun k5 => gd (okA u k5 9 a3) (bb ((gI u k5 (Int32.toNatClampNeg a3))) (fun v7 => L_X8_isPart_2 b0 b1 b2 u k n v7)))))))
set_option maxHeartbeats 4000000 in
set_option maxRecDepth 100000 in
theorem lp_X8_isPart_2 {p : Program} {l : Launch} {e : Env} {s : State} {m : MethodId} {args : Array Value} {below : List Frame} {meth : Method} {c : Code} {D : va_G} {cy : Nat → ClassId} {sz : Nat} {H0 : Heap} {b0 : Nat} {b1 : Int32} {b2 : Int32} {u : Mm} {k : Int32 → Option (Int32)} {res : Int32} (hr : meth.sig.returnType = (some .boolean)) (hlk : meth.locks = false) (E : EE p s m args c cX8_isPart 4 RX8 D cy) : ∀ (n : Nat) (a3 : Int32) (H : Heap) (locs : List Loc) (ls : Array Slot), MM D cy sz H0 u H locs → lv_has ls 4 [(0, .ref (sz + b0)), (1, .int b1), (2, .int b2), (3, .int a3)] → L_X8_isPart_2 b0 b1 b2 u k n a3 = some res → (∀ (a3 : Int32) (H : Heap) (locs : List Loc) (ls : Array Slot), MM D cy sz H0 u H locs → lv_has ls 4 [(0, .ref (sz + b0)), (1, .int b1), (2, .int b2), (3, .int a3)] → k a3 = some res → W p l e rm_X8_isPart s m args below meth c H locs 0 0 (MQ below (Post D cy sz H0 (some (.int res)) u) args s 0 0 (fun q => sz ≤ q)) (F0 m 21 ls [])) → W p l e rm_X8_isPart s m args below meth c H locs 0 0 (MQ below (Post D cy sz H0 (some (.int res)) u) args s 0 0 (fun q => sz ≤ q)) (F0 m 2 ls []) := by
  obtain ⟨hx, hb, hml, hown, hts, hKK⟩ := id E
  intro n
  induction n with
  | zero => intros; rename_i h _; cases h
  | succ n ih =>
    intro a3 H locs ls hM hl h hk
    rw [L_X8_isPart_2] at h
    refine lv_iload_n hx hb dX8_isPart_2 rfl (lv_at hl 3 rfl) ?_
    refine lv_if_lt (tgt := 21) hx hb dX8_isPart_3 (by decide) (fun c1 => ?_) (fun c1 => ?_)
    · replace h := (k_if h).1 c1
      exact hk a3 H locs ls hM (lv_sub hl [0, 1, 2, 3] rfl) h
    · replace h := (k_if h).2 c1
      refine lv_iload_n hx hb dX8_isPart_6 rfl (lv_at hl 3 rfl) ?_
      refine lv_iload_n hx hb dX8_isPart_7 rfl (lv_at hl 2 rfl) ?_
      refine lv_icmp_eq (tgt := 21) hx hb dX8_isPart_8 (by decide) (fun c2 => ?_) (fun c2 => ?_)
      · replace h := (k_if h).1 c2
        exact hk a3 H locs ls hM (lv_sub hl [0, 1, 2, 3] rfl) h
      · replace h := (k_if h).2 c2
        refine lv_aload_n hx hb dX8_isPart_11 rfl (lv_at hl 0 rfl) ?_
        obtain ⟨ok3, h⟩ := k_gd h
        refine gs_X8_27 E hM ok3 dX8_isPart_12 (fun x4 hxx4 => ?_)
        replace h := k_bb h x4 hxx4.symm
        refine lv_iload_n hx hb dX8_isPart_15 rfl (lv_at hl 3 rfl) ?_
        rcases x4 with _ | k5
        · cases h
        rw [cs_s] at h
        obtain ⟨ok6, h⟩ := k_gd h
        refine m_iald E hM ok6 dX8_isPart_16 ?_
        refine lv_topi (fun v7 hvv7 => ?_)
        replace h := k_bb h v7 hvv7
        refine lv_istore_n (i := 3) (lv' := [(3, .int v7), (0, .ref (sz + b0)), (1, .int b1), (2, .int b2)]) hx hb dX8_isPart_17 rfl hl (by decide) (by first | rfl | simp [rv_cat, cat_i, cat_l, cat_r, cat_n]) (fun ls hl => ?_)
        refine lv_goto (tgt := 2) hx hb dX8_isPart_18 (by decide) ?_
        exact ih v7 H locs ls hM (lv_sub hl [1, 2, 3, 0] rfl) h hk

def f_X8_isPart (r : Nat) (p1 : Int32) (p2 : Int32) (u : Mm) : Option (Int32) := L_X8_isPart_2 r p1 p2 u (fun a8 => (if a8 = p2 then some (1 : Int32) else some (0 : Int32))) 1000 p1 
set_option maxHeartbeats 4000000 in
set_option maxRecDepth 100000 in
theorem c_X8_isPart (l : Launch) (D : va_G) (cy : Nat → ClassId) (sz : Nat) (H0 : Heap) (u : Mm) (r : Nat) (p1 : Int32) (p2 : Int32) {res : Int32} (h : f_X8_isPart r p1 p2 u = some res) : Ctr l yX8_isPart cX8_isPart 4 (some .boolean) rm_X8_isPart 0 0 D cy sz H0 u [.ref (sz + r), .int p1, .int p2] (some (.int res)) u := by
  refine m_start (lv := [(0, .ref (sz + r)), (1, .int p1), (2, .int p2)]) (by decide) (by first | exact Nat.le_of_ble_eq_true rfl | simp [lg_sl, rv_cat, cat_i, cat_l, cat_r, cat_n]) (by first | rfl | simp [lv_args, rv_cat, cat_i, cat_l, cat_r, cat_n]) ?_
  intro p e s m below meth c ls E hr hlk hinit hM hl
  obtain ⟨hx, hb, hml, hown, hts, hKK⟩ := id E
  obtain ⟨H, hH⟩ : ∃ H, H = s.heap := ⟨_, rfl⟩
  obtain ⟨locs, hlocs⟩ : ∃ L : List Loc, L = [] := ⟨_, rfl⟩
  rw [← hH, ← hlocs] at hM ⊢
  unfold f_X8_isPart at h
  refine lv_iload_n hx hb dX8_isPart_0 rfl (lv_at hl 1 rfl) ?_
  refine lv_istore_n (i := 3) (lv' := [(3, .int p1), (0, .ref (sz + r)), (1, .int p1), (2, .int p2)]) hx hb dX8_isPart_1 rfl hl (by decide) (by first | rfl | simp [rv_cat, cat_i, cat_l, cat_r, cat_n]) (fun ls hl => ?_)
  refine lp_X8_isPart_2 hr hlk  E 1000 p1 H locs ls hM (lv_sub hl [1, 2, 3, 0] rfl) h (fun a8 H locs ls hM hl h => ?_)
  refine lv_iload_n hx hb dX8_isPart_21 rfl (lv_at hl 3 rfl) ?_
  refine lv_iload_n hx hb dX8_isPart_22 rfl (lv_at hl 2 rfl) ?_
  refine lv_icmp_ne (tgt := 30) hx hb dX8_isPart_23 (by decide) (fun c9 => ?_) (fun c9 => ?_)
  · replace h := (k_if h).2 c9
    refine lv_iconst (v := 0) hx hb dX8_isPart_30 (by decide) ?_
    cases h
    exact m_zret hx hb hr hlk hM (by decide) rfl rfl dX8_isPart_31
  · replace h := (k_if h).1 c9
    refine lv_iconst (v := 1) hx hb dX8_isPart_26 (by decide) ?_
    refine lv_goto (tgt := 31) hx hb dX8_isPart_27 (by decide) ?_
    cases h
    exact m_zret hx hb hr hlk hM (by decide) rfl rfl dX8_isPart_31

abbrev rm_X8_isFirst : Room := { frames := 1, cells := 0, slots := 0, locals := 36 }
def L_X8_isFirst_3 (b0 : Nat) (b1 : Int32) (b2 : Int32) (b3 : Int32) (b4 : Int32) (u : Mm) (k : Int32 → Option (Int32)) : Nat → Int32 → Option (Int32)
  | 0, _ => none
  | n + 1, a5 => (if b1 ≤ a5 then k a5 else gd (okO u b0 8) (bb (gR u b0 8) (fun x3 => cs x3 none (fun k4 => gd (okA u k4 9 a5) ((if (gI u k4 (Int32.toNatClampNeg a5)) = (3 : Int32) then bb (gR u b0 11) (fun x8 => cs x8 none (fun k9 => gd (okA u k9 9 a5) (bb (gR u b0 11) (fun x11 => cs x11 none (fun k12 => gd (okA u k12 9 b1) ((if (gI u k9 (Int32.toNatClampNeg a5)) = (gI u k12 (Int32.toNatClampNeg b1)) then bd (f_X8_isPart b0 a5 b2 u) (fun w16 => (if w16 = 0 then bb (a5 + (1)) (fun v18 => L_X8_isFirst_3 b0 b1 b2 b3 b4 u k n v18) else bd (f_X8_seesOf b0 a5 b3 b4 u) (fun w19 => (if w19 = 0 then bb (a5 + (1)) (fun v21 => L_X8_isFirst_3 b0 b1 b2 b3 b4 u k n v21) else some (0 : Int32))))) else bb (a5 + (1)) (fun v15 => L_X8_isFirst_3 b0 b1 b2 b3 b4 u k n v15)))))))) else bb (a5 + (1)) (fun v7 => L_X8_isFirst_3 b0 b1 b2 b3 b4 u k n v7)))))))
set_option maxHeartbeats 4000000 in
set_option maxRecDepth 100000 in
theorem lp_X8_isFirst_3 {p : Program} {l : Launch} {e : Env} {s : State} {m : MethodId} {args : Array Value} {below : List Frame} {meth : Method} {c : Code} {D : va_G} {cy : Nat → ClassId} {sz : Nat} {H0 : Heap} {b0 : Nat} {b1 : Int32} {b2 : Int32} {b3 : Int32} {b4 : Int32} {u : Mm} {k : Int32 → Option (Int32)} {res : Int32} (hr : meth.sig.returnType = (some .boolean)) (hlk : meth.locks = false) (E : EE p s m args c cX8_isFirst 6 RX8 D cy) : ∀ (n : Nat) (a5 : Int32) (H : Heap) (locs : List Loc) (ls : Array Slot), MM D cy sz H0 u H locs → lv_has ls 6 [(0, .ref (sz + b0)), (1, .int b1), (2, .int b2), (3, .int b3), (4, .int b4), (5, .int a5)] → L_X8_isFirst_3 b0 b1 b2 b3 b4 u k n a5 = some res → (∀ (a5 : Int32) (H : Heap) (locs : List Loc) (ls : Array Slot), MM D cy sz H0 u H locs → lv_has ls 6 [(0, .ref (sz + b0)), (1, .int b1), (2, .int b2), (3, .int b3), (4, .int b4), (5, .int a5)] → k a5 = some res → W p l e rm_X8_isFirst s m args below meth c H locs 0 0 (MQ below (Post D cy sz H0 (some (.int res)) u) args s 0 0 (fun q => sz ≤ q)) (F0 m 66 ls [])) → W p l e rm_X8_isFirst s m args below meth c H locs 0 0 (MQ below (Post D cy sz H0 (some (.int res)) u) args s 0 0 (fun q => sz ≤ q)) (F0 m 3 ls []) := by
  obtain ⟨hx, hb, hml, hown, hts, hKK⟩ := id E
  intro n
  induction n with
  | zero => intros; rename_i h _; cases h
  | succ n ih =>
    intro a5 H locs ls hM hl h hk
    rw [L_X8_isFirst_3] at h
    refine lv_iload hx hb dX8_isFirst_3 (lv_at hl 5 rfl) ?_
    refine lv_iload_n hx hb dX8_isFirst_5 rfl (lv_at hl 1 rfl) ?_
    refine lv_icmp_ge (tgt := 66) hx hb dX8_isFirst_6 (by decide) (fun c1 => ?_) (fun c1 => ?_)
    · replace h := (k_if h).1 c1
      exact hk a5 H locs ls hM (lv_sub hl [0, 1, 2, 3, 4, 5] rfl) h
    · replace h := (k_if h).2 c1
      refine lv_aload_n hx hb dX8_isFirst_9 rfl (lv_at hl 0 rfl) ?_
      obtain ⟨ok2, h⟩ := k_gd h
      refine gs_X8_24 E hM ok2 dX8_isFirst_10 (fun x3 hxx3 => ?_)
      replace h := k_bb h x3 hxx3.symm
      refine lv_iload hx hb dX8_isFirst_13 (lv_at hl 5 rfl) ?_
      rcases x3 with _ | k4
      · cases h
      rw [cs_s] at h
      obtain ⟨ok5, h⟩ := k_gd h
      refine m_iald E hM ok5 dX8_isFirst_15 ?_
      refine lv_iconst (v := 3) hx hb dX8_isFirst_16 (by decide) ?_
      refine lv_icmp_ne (tgt := 60) hx hb dX8_isFirst_17 (by decide) (fun c6 => ?_) (fun c6 => ?_)
      · replace h := (k_if h).2 c6
        obtain ⟨v7, hvv7⟩ : ∃ y : Int32, y = a5 + (1) := ⟨_, rfl⟩
        replace h := k_bb h v7 hvv7
        refine lv_iinc (v := v7) (lv' := [(5, .int v7), (0, .ref (sz + b0)), (1, .int b1), (2, .int b2), (3, .int b3), (4, .int b4)]) hx hb dX8_isFirst_60 hl (k := 5) rfl (by rw [hvv7]; rfl) (by decide) (by first | rfl | simp [rv_cat, cat_i, cat_l, cat_r, cat_n]) (fun ls hl => ?_)
        refine lv_goto (tgt := 3) hx hb dX8_isFirst_63 (by decide) ?_
        exact ih v7 H locs ls hM (lv_sub hl [1, 2, 3, 4, 5, 0] rfl) h hk
      · replace h := (k_if h).1 c6
        refine lv_aload_n hx hb dX8_isFirst_20 rfl (lv_at hl 0 rfl) ?_
        refine gs_X8_33 E hM ok2 dX8_isFirst_21 (fun x8 hxx8 => ?_)
        replace h := k_bb h x8 hxx8.symm
        refine lv_iload hx hb dX8_isFirst_24 (lv_at hl 5 rfl) ?_
        rcases x8 with _ | k9
        · cases h
        rw [cs_s] at h
        obtain ⟨ok10, h⟩ := k_gd h
        refine m_iald E hM ok10 dX8_isFirst_26 ?_
        refine lv_aload_n hx hb dX8_isFirst_27 rfl (lv_at hl 0 rfl) ?_
        refine gs_X8_33 E hM ok2 dX8_isFirst_28 (fun x11 hxx11 => ?_)
        replace h := k_bb h x11 hxx11.symm
        refine lv_iload_n hx hb dX8_isFirst_31 rfl (lv_at hl 1 rfl) ?_
        rcases x11 with _ | k12
        · cases h
        rw [cs_s] at h
        obtain ⟨ok13, h⟩ := k_gd h
        refine m_iald E hM ok13 dX8_isFirst_32 ?_
        refine lv_icmp_ne (tgt := 60) hx hb dX8_isFirst_33 (by decide) (fun c14 => ?_) (fun c14 => ?_)
        · replace h := (k_if h).2 c14
          obtain ⟨v15, hvv15⟩ : ∃ y : Int32, y = a5 + (1) := ⟨_, rfl⟩
          replace h := k_bb h v15 hvv15
          refine lv_iinc (v := v15) (lv' := [(5, .int v15), (0, .ref (sz + b0)), (1, .int b1), (2, .int b2), (3, .int b3), (4, .int b4)]) hx hb dX8_isFirst_60 hl (k := 5) rfl (by rw [hvv15]; rfl) (by decide) (by first | rfl | simp [rv_cat, cat_i, cat_l, cat_r, cat_n]) (fun ls hl => ?_)
          refine lv_goto (tgt := 3) hx hb dX8_isFirst_63 (by decide) ?_
          exact ih v15 H locs ls hM (lv_sub hl [1, 2, 3, 4, 5, 0] rfl) h hk
        · replace h := (k_if h).1 c14
          refine lv_aload_n hx hb dX8_isFirst_36 rfl (lv_at hl 0 rfl) ?_
          refine lv_iload hx hb dX8_isFirst_37 (lv_at hl 5 rfl) ?_
          refine lv_iload_n hx hb dX8_isFirst_39 rfl (lv_at hl 2 rfl) ?_
          obtain ⟨w16, hzw16, h⟩ := k_bd h
          refine m_callV (C := RX8) (T := TX8) (N := 33) (ci := 8) (n := 2) (As := [.int a5, .int b2]) (rest := []) (st1 := (.int w16 :: [])) E hM hl.1 ok2 (by decide) rfl rfl (c_X8_isPart l D cy sz H0 u b0 a5 b2 hzw16) wl_X8_158 wm_X8_isPart ws_X8_isPart wi_X8 wd_X8_isPart rfl rfl (by decide +kernel) ⟨by decide, by decide⟩ rfl rfl (by first | exact Nat.le_of_ble_eq_true rfl | simp [rv_cat, cat_i, cat_l, cat_r, cat_n]) dX8_isFirst_40 ⟨by decide, by decide⟩ rfl (fun H locs hM => ?_)
          refine lv_if_eq (tgt := 60) hx hb dX8_isFirst_43 (by decide) (fun c17 => ?_) (fun c17 => ?_)
          · replace h := (k_if h).1 c17
            obtain ⟨v18, hvv18⟩ : ∃ y : Int32, y = a5 + (1) := ⟨_, rfl⟩
            replace h := k_bb h v18 hvv18
            refine lv_iinc (v := v18) (lv' := [(5, .int v18), (0, .ref (sz + b0)), (1, .int b1), (2, .int b2), (3, .int b3), (4, .int b4)]) hx hb dX8_isFirst_60 hl (k := 5) rfl (by rw [hvv18]; rfl) (by decide) (by first | rfl | simp [rv_cat, cat_i, cat_l, cat_r, cat_n]) (fun ls hl => ?_)
            refine lv_goto (tgt := 3) hx hb dX8_isFirst_63 (by decide) ?_
            exact ih v18 H locs ls hM (lv_sub hl [1, 2, 3, 4, 5, 0] rfl) h hk
          · replace h := (k_if h).2 c17
            refine lv_aload_n hx hb dX8_isFirst_46 rfl (lv_at hl 0 rfl) ?_
            refine lv_iload hx hb dX8_isFirst_47 (lv_at hl 5 rfl) ?_
            refine lv_iload_n hx hb dX8_isFirst_49 rfl (lv_at hl 3 rfl) ?_
            refine lv_iload hx hb dX8_isFirst_50 (lv_at hl 4 rfl) ?_
            obtain ⟨w19, hzw19, h⟩ := k_bd h
            refine m_callV (C := RX8) (T := TX8) (N := 33) (ci := 8) (n := 3) (As := [.int a5, .int b3, .int b4]) (rest := []) (st1 := (.int w19 :: [])) E hM hl.1 ok2 (by decide) rfl rfl (c_X8_seesOf l D cy sz H0 u b0 a5 b3 b4 hzw19) wl_X8_154 wm_X8_seesOf ws_X8_seesOf wi_X8 wd_X8_seesOf rfl rfl (by decide +kernel) ⟨by decide, by decide⟩ rfl rfl (by first | exact Nat.le_of_ble_eq_true rfl | simp [rv_cat, cat_i, cat_l, cat_r, cat_n]) dX8_isFirst_52 ⟨by decide, by decide⟩ rfl (fun H locs hM => ?_)
            refine lv_if_eq (tgt := 60) hx hb dX8_isFirst_55 (by decide) (fun c20 => ?_) (fun c20 => ?_)
            · replace h := (k_if h).1 c20
              obtain ⟨v21, hvv21⟩ : ∃ y : Int32, y = a5 + (1) := ⟨_, rfl⟩
              replace h := k_bb h v21 hvv21
              refine lv_iinc (v := v21) (lv' := [(5, .int v21), (0, .ref (sz + b0)), (1, .int b1), (2, .int b2), (3, .int b3), (4, .int b4)]) hx hb dX8_isFirst_60 hl (k := 5) rfl (by rw [hvv21]; rfl) (by decide) (by first | rfl | simp [rv_cat, cat_i, cat_l, cat_r, cat_n]) (fun ls hl => ?_)
              refine lv_goto (tgt := 3) hx hb dX8_isFirst_63 (by decide) ?_
              exact ih v21 H locs ls hM (lv_sub hl [1, 2, 3, 4, 5, 0] rfl) h hk
            · replace h := (k_if h).2 c20
              refine lv_iconst (v := 0) hx hb dX8_isFirst_58 (by decide) ?_
              cases h
              exact m_zret hx hb hr hlk hM (by decide) rfl rfl dX8_isFirst_59

def f_X8_isFirst (r : Nat) (p1 : Int32) (p2 : Int32) (p3 : Int32) (p4 : Int32) (u : Mm) : Option (Int32) := L_X8_isFirst_3 r p1 p2 p3 p4 u (fun a22 => some (1 : Int32)) 1000 (0 : Int32) 
set_option maxHeartbeats 4000000 in
set_option maxRecDepth 100000 in
theorem c_X8_isFirst (l : Launch) (D : va_G) (cy : Nat → ClassId) (sz : Nat) (H0 : Heap) (u : Mm) (r : Nat) (p1 : Int32) (p2 : Int32) (p3 : Int32) (p4 : Int32) {res : Int32} (h : f_X8_isFirst r p1 p2 p3 p4 u = some res) : Ctr l yX8_isFirst cX8_isFirst 6 (some .boolean) rm_X8_isFirst 0 0 D cy sz H0 u [.ref (sz + r), .int p1, .int p2, .int p3, .int p4] (some (.int res)) u := by
  refine m_start (lv := [(0, .ref (sz + r)), (1, .int p1), (2, .int p2), (3, .int p3), (4, .int p4)]) (by decide) (by first | exact Nat.le_of_ble_eq_true rfl | simp [lg_sl, rv_cat, cat_i, cat_l, cat_r, cat_n]) (by first | rfl | simp [lv_args, rv_cat, cat_i, cat_l, cat_r, cat_n]) ?_
  intro p e s m below meth c ls E hr hlk hinit hM hl
  obtain ⟨hx, hb, hml, hown, hts, hKK⟩ := id E
  obtain ⟨H, hH⟩ : ∃ H, H = s.heap := ⟨_, rfl⟩
  obtain ⟨locs, hlocs⟩ : ∃ L : List Loc, L = [] := ⟨_, rfl⟩
  rw [← hH, ← hlocs] at hM ⊢
  unfold f_X8_isFirst at h
  refine lv_iconst (v := 0) hx hb dX8_isFirst_0 (by decide) ?_
  refine lv_istore (i := 5) (lv' := [(5, .int (0 : Int32)), (0, .ref (sz + r)), (1, .int p1), (2, .int p2), (3, .int p3), (4, .int p4)]) hx hb dX8_isFirst_1 hl (by decide) (by first | rfl | simp [rv_cat, cat_i, cat_l, cat_r, cat_n]) (fun ls hl => ?_)
  refine lp_X8_isFirst_3 hr hlk  E 1000 (0 : Int32) H locs ls hM (lv_sub hl [1, 2, 3, 4, 5, 0] rfl) h (fun a22 H locs ls hM hl h => ?_)
  refine lv_iconst (v := 1) hx hb dX8_isFirst_66 (by decide) ?_
  cases h
  exact m_zret hx hb hr hlk hM (by decide) rfl rfl dX8_isFirst_67

