abbrev rm_X8_number : Room := { frames := 2, cells := 0, slots := 0, locals := 72 }
def L_X8_number_60 (b0 : Nat) (b1 : Int32) (b2 : Int32) (b3 : Int32) (b4 : Int32) (u : Mm) (k : Int32 → Int32 → Option ((Int32) × Mm)) : Nat → Int32 → Int32 → Option ((Int32) × Mm)
  | 0, _, _ => none
  | n + 1, a5, a6 => gd (okO u b0 8) ((if (gI u b0 7) ≤ a6 then k a5 a6 else bd (f_X8_isPart b0 a6 b1 u) (fun w15 => (if w15 = 0 then bb (a6 + (1)) (fun v17 => L_X8_number_60 b0 b1 b2 b3 b4 u k n a5 v17) else bd (f_X8_seesOf b0 a6 b3 b4 u) (fun w18 => (if w18 = 0 then bb (a6 + (1)) (fun v49 => L_X8_number_60 b0 b1 b2 b3 b4 u k n a5 v49) else (if (3 : Int32) ≤ b2 then bb (gR u b0 8) (fun x21 => cs x21 none (fun k22 => gd (okA u k22 9 a6) ((if (gI u k22 (Int32.toNatClampNeg a6)) = (2 : Int32) then bb (gR u b0 10) (fun x36 => cs x36 none (fun k37 => gd (okA u k37 9 a6) (bb ((a5 + (if (0 : Int32) < (gI u k37 (Int32.toNatClampNeg a6)) then (gI u k37 (Int32.toNatClampNeg a6)) else (0 : Int32)))) (fun v39 => bb (a6 + (1)) (fun v40 => L_X8_number_60 b0 b1 b2 b3 b4 u k n v39 v40))))) else bb (gR u b0 8) (fun x25 => cs x25 none (fun k26 => gd (okA u k26 9 a6) ((if (gI u k26 (Int32.toNatClampNeg a6)) = (3 : Int32) then bd (f_X8_isFirst b0 a6 b1 b3 b4 u) (fun w30 => (if w30 = 0 then bb ((a5 + (0 : Int32))) (fun v32 => bb (a6 + (1)) (fun v33 => L_X8_number_60 b0 b1 b2 b3 b4 u k n v32 v33)) else bb ((a5 + (1 : Int32))) (fun v34 => bb (a6 + (1)) (fun v35 => L_X8_number_60 b0 b1 b2 b3 b4 u k n v34 v35)))) else bb (a6 + (1)) (fun v29 => L_X8_number_60 b0 b1 b2 b3 b4 u k n a5 v29))))))))) else bb (gR u b0 8) (fun x41 => cs x41 none (fun k42 => gd (okA u k42 9 a6) ((if (gI u k42 (Int32.toNatClampNeg a6)) = b2 then bb ((a5 + (1 : Int32))) (fun v47 => bb (a6 + (1)) (fun v48 => L_X8_number_60 b0 b1 b2 b3 b4 u k n v47 v48)) else bb ((a5 + (0 : Int32))) (fun v45 => bb (a6 + (1)) (fun v46 => L_X8_number_60 b0 b1 b2 b3 b4 u k n v45 v46)))))))))))))
set_option maxHeartbeats 4000000 in
set_option maxRecDepth 100000 in
theorem lp_X8_number_60 {p : Program} {l : Launch} {e : Env} {s : State} {m : MethodId} {args : Array Value} {below : List Frame} {meth : Method} {c : Code} {D : va_G} {cy : Nat → ClassId} {sz : Nat} {H0 : Heap} {b0 : Nat} {b1 : Int32} {b2 : Int32} {b3 : Int32} {b4 : Int32} {u : Mm} {k : Int32 → Int32 → Option ((Int32) × Mm)} {res : (Int32) × Mm} (hr : meth.sig.returnType = (some .int)) (hlk : meth.locks = false) (E : EE p s m args c cX8_number 7 RX8 D cy) : ∀ (n : Nat) (a5 : Int32) (a6 : Int32) (H : Heap) (locs : List Loc) (ls : Array Slot), MM D cy sz H0 u H locs → lv_has ls 7 [(0, .ref (sz + b0)), (1, .int b1), (2, .int b2), (3, .int b3), (4, .int b4), (5, .int a5), (6, .int a6)] → L_X8_number_60 b0 b1 b2 b3 b4 u k n a5 a6 = some res → (∀ (a5 : Int32) (a6 : Int32) (H : Heap) (locs : List Loc) (ls : Array Slot), MM D cy sz H0 u H locs → lv_has ls 7 [(0, .ref (sz + b0)), (1, .int b1), (2, .int b2), (3, .int b3), (4, .int b4), (5, .int a5), (6, .int a6)] → k a5 a6 = some res → W p l e rm_X8_number s m args below meth c H locs 0 0 (MQ below (Post D cy sz H0 (some (.int res.1)) res.2) args s 0 0 (fun q => sz ≤ q)) (F0 m 193 ls [])) → W p l e rm_X8_number s m args below meth c H locs 0 0 (MQ below (Post D cy sz H0 (some (.int res.1)) res.2) args s 0 0 (fun q => sz ≤ q)) (F0 m 60 ls []) := by
  obtain ⟨hx, hb, hml, hown, hts, hKK⟩ := id E
  intro n
  induction n with
  | zero => intros; rename_i h _; cases h
  | succ n ih =>
    intro a5 a6 H locs ls hM hl h hk
    rw [L_X8_number_60] at h
    refine lv_iload hx hb dX8_number_60 (lv_at hl 6 rfl) ?_
    refine lv_aload_n hx hb dX8_number_62 rfl (lv_at hl 0 rfl) ?_
    obtain ⟨ok13, h⟩ := k_gd h
    refine gs_X8_118 E hM ok13 dX8_number_63 ?_
    refine lv_icmp_ge (tgt := 193) hx hb dX8_number_66 (by decide) (fun c14 => ?_) (fun c14 => ?_)
    · replace h := (k_if h).1 c14
      exact hk a5 a6 H locs ls hM (lv_sub hl [0, 1, 2, 3, 4, 5, 6] rfl) h
    · replace h := (k_if h).2 c14
      refine lv_aload_n hx hb dX8_number_69 rfl (lv_at hl 0 rfl) ?_
      refine lv_iload hx hb dX8_number_70 (lv_at hl 6 rfl) ?_
      refine lv_iload_n hx hb dX8_number_72 rfl (lv_at hl 1 rfl) ?_
      obtain ⟨w15, hzw15, h⟩ := k_bd h
      refine m_callV (C := RX8) (T := TX8) (N := 33) (ci := 8) (n := 2) (As := [.int a6, .int b1]) (rest := []) (st1 := (.int w15 :: [])) E hM hl.1 ok13 (by decide) rfl rfl (c_X8_isPart l D cy sz H0 u b0 a6 b1 hzw15) wl_X8_158 wm_X8_isPart ws_X8_isPart wi_X8 wd_X8_isPart rfl rfl (by decide +kernel) ⟨by decide, by decide⟩ rfl rfl (by first | exact Nat.le_of_ble_eq_true rfl | simp [rv_cat, cat_i, cat_l, cat_r, cat_n]) dX8_number_73 ⟨by decide, by decide⟩ rfl (fun H locs hM => ?_)
      refine lv_if_eq (tgt := 187) hx hb dX8_number_76 (by decide) (fun c16 => ?_) (fun c16 => ?_)
      · replace h := (k_if h).1 c16
        obtain ⟨v17, hvv17⟩ : ∃ y : Int32, y = a6 + (1) := ⟨_, rfl⟩
        replace h := k_bb h v17 hvv17
        refine lv_iinc (v := v17) (lv' := [(6, .int v17), (0, .ref (sz + b0)), (1, .int b1), (2, .int b2), (3, .int b3), (4, .int b4), (5, .int a5)]) hx hb dX8_number_187 hl (k := 6) rfl (by rw [hvv17]; rfl) (by decide) (by first | rfl | simp [rv_cat, cat_i, cat_l, cat_r, cat_n]) (fun ls hl => ?_)
        refine lv_goto (tgt := 60) hx hb dX8_number_190 (by decide) ?_
        exact ih a5 v17 H locs ls hM (lv_sub hl [1, 2, 3, 4, 5, 6, 0] rfl) h hk
      · replace h := (k_if h).2 c16
        refine lv_aload_n hx hb dX8_number_79 rfl (lv_at hl 0 rfl) ?_
        refine lv_iload hx hb dX8_number_80 (lv_at hl 6 rfl) ?_
        refine lv_iload_n hx hb dX8_number_82 rfl (lv_at hl 3 rfl) ?_
        refine lv_iload hx hb dX8_number_83 (lv_at hl 4 rfl) ?_
        obtain ⟨w18, hzw18, h⟩ := k_bd h
        refine m_callV (C := RX8) (T := TX8) (N := 33) (ci := 8) (n := 3) (As := [.int a6, .int b3, .int b4]) (rest := []) (st1 := (.int w18 :: [])) E hM hl.1 ok13 (by decide) rfl rfl (c_X8_seesOf l D cy sz H0 u b0 a6 b3 b4 hzw18) wl_X8_154 wm_X8_seesOf ws_X8_seesOf wi_X8 wd_X8_seesOf rfl rfl (by decide +kernel) ⟨by decide, by decide⟩ rfl rfl (by first | exact Nat.le_of_ble_eq_true rfl | simp [rv_cat, cat_i, cat_l, cat_r, cat_n]) dX8_number_85 ⟨by decide, by decide⟩ rfl (fun H locs hM => ?_)
        refine lv_if_ne (tgt := 94) hx hb dX8_number_88 (by decide) (fun c19 => ?_) (fun c19 => ?_)
        · replace h := (k_if h).2 c19
          refine lv_iload_n hx hb dX8_number_94 rfl (lv_at hl 2 rfl) ?_
          refine lv_iconst (v := 3) hx hb dX8_number_95 (by decide) ?_
          refine lv_icmp_ge (tgt := 123) hx hb dX8_number_96 (by decide) (fun c20 => ?_) (fun c20 => ?_)
          · replace h := (k_if h).1 c20
            refine lv_aload_n hx hb dX8_number_123 rfl (lv_at hl 0 rfl) ?_
            refine gs_X8_24 E hM ok13 dX8_number_124 (fun x21 hxx21 => ?_)
            replace h := k_bb h x21 hxx21.symm
            refine lv_iload hx hb dX8_number_127 (lv_at hl 6 rfl) ?_
            rcases x21 with _ | k22
            · cases h
            rw [cs_s] at h
            obtain ⟨ok23, h⟩ := k_gd h
            refine m_iald E hM ok23 dX8_number_129 ?_
            refine lv_iconst (v := 2) hx hb dX8_number_130 (by decide) ?_
            refine lv_icmp_ne (tgt := 153) hx hb dX8_number_131 (by decide) (fun c24 => ?_) (fun c24 => ?_)
            · replace h := (k_if h).2 c24
              refine lv_aload_n hx hb dX8_number_153 rfl (lv_at hl 0 rfl) ?_
              refine gs_X8_24 E hM ok13 dX8_number_154 (fun x25 hxx25 => ?_)
              replace h := k_bb h x25 hxx25.symm
              refine lv_iload hx hb dX8_number_157 (lv_at hl 6 rfl) ?_
              rcases x25 with _ | k26
              · cases h
              rw [cs_s] at h
              obtain ⟨ok27, h⟩ := k_gd h
              refine m_iald E hM ok27 dX8_number_159 ?_
              refine lv_iconst (v := 3) hx hb dX8_number_160 (by decide) ?_
              refine lv_icmp_ne (tgt := 187) hx hb dX8_number_161 (by decide) (fun c28 => ?_) (fun c28 => ?_)
              · replace h := (k_if h).2 c28
                obtain ⟨v29, hvv29⟩ : ∃ y : Int32, y = a6 + (1) := ⟨_, rfl⟩
                replace h := k_bb h v29 hvv29
                refine lv_iinc (v := v29) (lv' := [(6, .int v29), (0, .ref (sz + b0)), (1, .int b1), (2, .int b2), (3, .int b3), (4, .int b4), (5, .int a5)]) hx hb dX8_number_187 hl (k := 6) rfl (by rw [hvv29]; rfl) (by decide) (by first | rfl | simp [rv_cat, cat_i, cat_l, cat_r, cat_n]) (fun ls hl => ?_)
                refine lv_goto (tgt := 60) hx hb dX8_number_190 (by decide) ?_
                exact ih a5 v29 H locs ls hM (lv_sub hl [1, 2, 3, 4, 5, 6, 0] rfl) h hk
              · replace h := (k_if h).1 c28
                refine lv_iload hx hb dX8_number_164 (lv_at hl 5 rfl) ?_
                refine lv_aload_n hx hb dX8_number_166 rfl (lv_at hl 0 rfl) ?_
                refine lv_iload hx hb dX8_number_167 (lv_at hl 6 rfl) ?_
                refine lv_iload_n hx hb dX8_number_169 rfl (lv_at hl 1 rfl) ?_
                refine lv_iload_n hx hb dX8_number_170 rfl (lv_at hl 3 rfl) ?_
                refine lv_iload hx hb dX8_number_171 (lv_at hl 4 rfl) ?_
                obtain ⟨w30, hzw30, h⟩ := k_bd h
                refine m_callV (C := RX8) (T := TX8) (N := 33) (ci := 8) (n := 4) (As := [.int a6, .int b1, .int b3, .int b4]) (rest := [.int a5]) (st1 := (.int w30 :: [.int a5])) E hM hl.1 ok13 (by decide) rfl rfl (c_X8_isFirst l D cy sz H0 u b0 a6 b1 b3 b4 hzw30) wl_X8_162 wm_X8_isFirst ws_X8_isFirst wi_X8 wd_X8_isFirst rfl rfl (by decide +kernel) ⟨by decide, by decide⟩ rfl rfl (by first | exact Nat.le_of_ble_eq_true rfl | simp [rv_cat, cat_i, cat_l, cat_r, cat_n]) dX8_number_173 ⟨by decide, by decide⟩ rfl (fun H locs hM => ?_)
                refine lv_if_eq (tgt := 183) hx hb dX8_number_176 (by decide) (fun c31 => ?_) (fun c31 => ?_)
                · replace h := (k_if h).1 c31
                  refine lv_iconst (v := 0) hx hb dX8_number_183 (by decide) ?_
                  refine lv_iadd hx hb dX8_number_184 ?_
                  refine lv_topi (fun v32 hvv32 => ?_)
                  replace h := k_bb h v32 hvv32
                  refine lv_istore (i := 5) (lv' := [(5, .int v32), (0, .ref (sz + b0)), (1, .int b1), (2, .int b2), (3, .int b3), (4, .int b4), (6, .int a6)]) hx hb dX8_number_185 hl (by decide) (by first | rfl | simp [rv_cat, cat_i, cat_l, cat_r, cat_n]) (fun ls hl => ?_)
                  obtain ⟨v33, hvv33⟩ : ∃ y : Int32, y = a6 + (1) := ⟨_, rfl⟩
                  replace h := k_bb h v33 hvv33
                  refine lv_iinc (v := v33) (lv' := [(6, .int v33), (5, .int v32), (0, .ref (sz + b0)), (1, .int b1), (2, .int b2), (3, .int b3), (4, .int b4)]) hx hb dX8_number_187 hl (k := 6) rfl (by rw [hvv33]; rfl) (by decide) (by first | rfl | simp [rv_cat, cat_i, cat_l, cat_r, cat_n]) (fun ls hl => ?_)
                  refine lv_goto (tgt := 60) hx hb dX8_number_190 (by decide) ?_
                  exact ih v32 v33 H locs ls hM (lv_sub hl [2, 3, 4, 5, 6, 1, 0] rfl) h hk
                · replace h := (k_if h).2 c31
                  refine lv_iconst (v := 1) hx hb dX8_number_179 (by decide) ?_
                  refine lv_goto (tgt := 184) hx hb dX8_number_180 (by decide) ?_
                  refine lv_iadd hx hb dX8_number_184 ?_
                  refine lv_topi (fun v34 hvv34 => ?_)
                  replace h := k_bb h v34 hvv34
                  refine lv_istore (i := 5) (lv' := [(5, .int v34), (0, .ref (sz + b0)), (1, .int b1), (2, .int b2), (3, .int b3), (4, .int b4), (6, .int a6)]) hx hb dX8_number_185 hl (by decide) (by first | rfl | simp [rv_cat, cat_i, cat_l, cat_r, cat_n]) (fun ls hl => ?_)
                  obtain ⟨v35, hvv35⟩ : ∃ y : Int32, y = a6 + (1) := ⟨_, rfl⟩
                  replace h := k_bb h v35 hvv35
                  refine lv_iinc (v := v35) (lv' := [(6, .int v35), (5, .int v34), (0, .ref (sz + b0)), (1, .int b1), (2, .int b2), (3, .int b3), (4, .int b4)]) hx hb dX8_number_187 hl (k := 6) rfl (by rw [hvv35]; rfl) (by decide) (by first | rfl | simp [rv_cat, cat_i, cat_l, cat_r, cat_n]) (fun ls hl => ?_)
                  refine lv_goto (tgt := 60) hx hb dX8_number_190 (by decide) ?_
                  exact ih v34 v35 H locs ls hM (lv_sub hl [2, 3, 4, 5, 6, 1, 0] rfl) h hk
            · replace h := (k_if h).1 c24
              refine lv_iload hx hb dX8_number_134 (lv_at hl 5 rfl) ?_
              refine lv_iconst (v := 0) hx hb dX8_number_136 (by decide) ?_
              refine lv_aload_n hx hb dX8_number_137 rfl (lv_at hl 0 rfl) ?_
              refine gs_X8_30 E hM ok13 dX8_number_138 (fun x36 hxx36 => ?_)
              replace h := k_bb h x36 hxx36.symm
              refine lv_iload hx hb dX8_number_141 (lv_at hl 6 rfl) ?_
              rcases x36 with _ | k37
              · cases h
              rw [cs_s] at h
              obtain ⟨ok38, h⟩ := k_gd h
              refine m_iald E hM ok38 dX8_number_143 ?_
              refine va_mmax hx hb (hml.trans hl.1.symm) hown (hts _ wl_X8_139) (hts _ wst_J9_max_7cf53) (hts _ wi_J9) (hts _ wd_J9_max_7cf53) (by decide) (by first | exact Nat.le_of_ble_eq_true rfl | simp [rv_cat, cat_i, cat_l, cat_r, cat_n]) (by decide) (by decide) dX8_number_144 ?_
              refine lv_iadd hx hb dX8_number_147 ?_
              refine lv_topi (fun v39 hvv39 => ?_)
              replace h := k_bb h v39 hvv39
              refine lv_istore (i := 5) (lv' := [(5, .int v39), (0, .ref (sz + b0)), (1, .int b1), (2, .int b2), (3, .int b3), (4, .int b4), (6, .int a6)]) hx hb dX8_number_148 hl (by decide) (by first | rfl | simp [rv_cat, cat_i, cat_l, cat_r, cat_n]) (fun ls hl => ?_)
              refine lv_goto (tgt := 187) hx hb dX8_number_150 (by decide) ?_
              obtain ⟨v40, hvv40⟩ : ∃ y : Int32, y = a6 + (1) := ⟨_, rfl⟩
              replace h := k_bb h v40 hvv40
              refine lv_iinc (v := v40) (lv' := [(6, .int v40), (5, .int v39), (0, .ref (sz + b0)), (1, .int b1), (2, .int b2), (3, .int b3), (4, .int b4)]) hx hb dX8_number_187 hl (k := 6) rfl (by rw [hvv40]; rfl) (by decide) (by first | rfl | simp [rv_cat, cat_i, cat_l, cat_r, cat_n]) (fun ls hl => ?_)
              refine lv_goto (tgt := 60) hx hb dX8_number_190 (by decide) ?_
              exact ih v39 v40 H locs ls hM (lv_sub hl [2, 3, 4, 5, 6, 1, 0] rfl) h hk
          · replace h := (k_if h).2 c20
            refine lv_iload hx hb dX8_number_99 (lv_at hl 5 rfl) ?_
            refine lv_aload_n hx hb dX8_number_101 rfl (lv_at hl 0 rfl) ?_
            refine gs_X8_24 E hM ok13 dX8_number_102 (fun x41 hxx41 => ?_)
            replace h := k_bb h x41 hxx41.symm
            refine lv_iload hx hb dX8_number_105 (lv_at hl 6 rfl) ?_
            rcases x41 with _ | k42
            · cases h
            rw [cs_s] at h
            obtain ⟨ok43, h⟩ := k_gd h
            refine m_iald E hM ok43 dX8_number_107 ?_
            refine lv_iload_n hx hb dX8_number_108 rfl (lv_at hl 2 rfl) ?_
            refine lv_icmp_ne (tgt := 116) hx hb dX8_number_109 (by decide) (fun c44 => ?_) (fun c44 => ?_)
            · replace h := (k_if h).2 c44
              refine lv_iconst (v := 0) hx hb dX8_number_116 (by decide) ?_
              refine lv_iadd hx hb dX8_number_117 ?_
              refine lv_topi (fun v45 hvv45 => ?_)
              replace h := k_bb h v45 hvv45
              refine lv_istore (i := 5) (lv' := [(5, .int v45), (0, .ref (sz + b0)), (1, .int b1), (2, .int b2), (3, .int b3), (4, .int b4), (6, .int a6)]) hx hb dX8_number_118 hl (by decide) (by first | rfl | simp [rv_cat, cat_i, cat_l, cat_r, cat_n]) (fun ls hl => ?_)
              refine lv_goto (tgt := 187) hx hb dX8_number_120 (by decide) ?_
              obtain ⟨v46, hvv46⟩ : ∃ y : Int32, y = a6 + (1) := ⟨_, rfl⟩
              replace h := k_bb h v46 hvv46
              refine lv_iinc (v := v46) (lv' := [(6, .int v46), (5, .int v45), (0, .ref (sz + b0)), (1, .int b1), (2, .int b2), (3, .int b3), (4, .int b4)]) hx hb dX8_number_187 hl (k := 6) rfl (by rw [hvv46]; rfl) (by decide) (by first | rfl | simp [rv_cat, cat_i, cat_l, cat_r, cat_n]) (fun ls hl => ?_)
              refine lv_goto (tgt := 60) hx hb dX8_number_190 (by decide) ?_
              exact ih v45 v46 H locs ls hM (lv_sub hl [2, 3, 4, 5, 6, 1, 0] rfl) h hk
            · replace h := (k_if h).1 c44
              refine lv_iconst (v := 1) hx hb dX8_number_112 (by decide) ?_
              refine lv_goto (tgt := 117) hx hb dX8_number_113 (by decide) ?_
              refine lv_iadd hx hb dX8_number_117 ?_
              refine lv_topi (fun v47 hvv47 => ?_)
              replace h := k_bb h v47 hvv47
              refine lv_istore (i := 5) (lv' := [(5, .int v47), (0, .ref (sz + b0)), (1, .int b1), (2, .int b2), (3, .int b3), (4, .int b4), (6, .int a6)]) hx hb dX8_number_118 hl (by decide) (by first | rfl | simp [rv_cat, cat_i, cat_l, cat_r, cat_n]) (fun ls hl => ?_)
              refine lv_goto (tgt := 187) hx hb dX8_number_120 (by decide) ?_
              obtain ⟨v48, hvv48⟩ : ∃ y : Int32, y = a6 + (1) := ⟨_, rfl⟩
              replace h := k_bb h v48 hvv48
              refine lv_iinc (v := v48) (lv' := [(6, .int v48), (5, .int v47), (0, .ref (sz + b0)), (1, .int b1), (2, .int b2), (3, .int b3), (4, .int b4)]) hx hb dX8_number_187 hl (k := 6) rfl (by rw [hvv48]; rfl) (by decide) (by first | rfl | simp [rv_cat, cat_i, cat_l, cat_r, cat_n]) (fun ls hl => ?_)
              refine lv_goto (tgt := 60) hx hb dX8_number_190 (by decide) ?_
              exact ih v47 v48 H locs ls hM (lv_sub hl [2, 3, 4, 5, 6, 1, 0] rfl) h hk
        · replace h := (k_if h).1 c19
          refine lv_goto (tgt := 187) hx hb dX8_number_91 (by decide) ?_
          obtain ⟨v49, hvv49⟩ : ∃ y : Int32, y = a6 + (1) := ⟨_, rfl⟩
          replace h := k_bb h v49 hvv49
          refine lv_iinc (v := v49) (lv' := [(6, .int v49), (0, .ref (sz + b0)), (1, .int b1), (2, .int b2), (3, .int b3), (4, .int b4), (5, .int a5)]) hx hb dX8_number_187 hl (k := 6) rfl (by rw [hvv49]; rfl) (by decide) (by first | rfl | simp [rv_cat, cat_i, cat_l, cat_r, cat_n]) (fun ls hl => ?_)
          refine lv_goto (tgt := 60) hx hb dX8_number_190 (by decide) ?_
          exact ih a5 v49 H locs ls hM (lv_sub hl [1, 2, 3, 4, 5, 6, 0] rfl) h hk

def f_X8_number (r : Nat) (p1 : Int32) (p2 : Int32) (p3 : Int32) (p4 : Int32) (u : Mm) : Option ((Int32) × Mm) := gd (okO u r 8) (bd (f_X8_isThing r p1 (sI (sI u r 1 (0 : Int32)) r 0 (0 : Int32))) (fun w2 => (if w2 = 0 then bd (f_X8_refuse r (2 : Int32) (sI (sI u r 1 (0 : Int32)) r 0 (0 : Int32))) (fun w4 => some (w4.1, w4.2)) else bd (f_X8_isPerson p3 (sI (sI u r 1 (0 : Int32)) r 0 (0 : Int32))) (fun w5 => (if w5 = 0 then bd (f_X8_refuse r (2 : Int32) (sI (sI u r 1 (0 : Int32)) r 0 (0 : Int32))) (fun w53 => some (w53.1, w53.2)) else (if p2 < 0 then bd (f_X8_refuse r (5 : Int32) (sI (sI u r 1 (0 : Int32)) r 0 (0 : Int32))) (fun w8 => some (w8.1, w8.2)) else (if (3 : Int32) < p2 then bd (f_X8_refuse r (5 : Int32) (sI (sI u r 1 (0 : Int32)) r 0 (0 : Int32))) (fun w10 => some (w10.1, w10.2)) else bd (f_X8_isDay p4 (sI (sI u r 1 (0 : Int32)) r 0 (0 : Int32))) (fun w11 => (if w11 = 0 then bd (f_X8_refuse r (5 : Int32) (sI (sI u r 1 (0 : Int32)) r 0 (0 : Int32))) (fun w52 => some (w52.1, w52.2)) else L_X8_number_60 r p1 p2 p3 p4 (sI (sI u r 1 (0 : Int32)) r 0 (0 : Int32)) (fun a50 a51 => some (a50, (sI (sI u r 1 (0 : Int32)) r 0 (0 : Int32)))) 1000 (0 : Int32) (0 : Int32) )))))))))
set_option maxHeartbeats 4000000 in
set_option maxRecDepth 100000 in
theorem c_X8_number (l : Launch) (D : va_G) (cy : Nat → ClassId) (sz : Nat) (H0 : Heap) (u : Mm) (r : Nat) (p1 : Int32) (p2 : Int32) (p3 : Int32) (p4 : Int32) {res : (Int32) × Mm} (h : f_X8_number r p1 p2 p3 p4 u = some res) : Ctr l yX8_number cX8_number 7 (some .int) rm_X8_number 0 0 D cy sz H0 u [.ref (sz + r), .int p1, .int p2, .int p3, .int p4] (some (.int res.1)) res.2 := by
  refine m_start (lv := [(0, .ref (sz + r)), (1, .int p1), (2, .int p2), (3, .int p3), (4, .int p4)]) (by decide) (by first | exact Nat.le_of_ble_eq_true rfl | simp [lg_sl, rv_cat, cat_i, cat_l, cat_r, cat_n]) (by first | rfl | simp [lv_args, rv_cat, cat_i, cat_l, cat_r, cat_n]) ?_
  intro p e s m below meth c ls E hr hlk hinit hM hl
  obtain ⟨hx, hb, hml, hown, hts, hKK⟩ := id E
  obtain ⟨H, hH⟩ : ∃ H, H = s.heap := ⟨_, rfl⟩
  obtain ⟨locs, hlocs⟩ : ∃ L : List Loc, L = [] := ⟨_, rfl⟩
  rw [← hH, ← hlocs] at hM ⊢
  unfold f_X8_number at h
  refine lv_aload_n hx hb dX8_number_0 rfl (lv_at hl 0 rfl) ?_
  refine lv_iconst (v := 0) hx hb dX8_number_1 (by decide) ?_
  obtain ⟨ok1, h⟩ := k_gd h
  refine ps_X8_93 (v := (0 : Int32)) E hM ok1 dX8_number_2 (fun H locs hM => ?_)
  refine lv_aload_n hx hb dX8_number_5 rfl (lv_at hl 0 rfl) ?_
  refine lv_iconst (v := 0) hx hb dX8_number_6 (by decide) ?_
  refine ps_X8_97 (v := (0 : Int32)) E hM ok1 dX8_number_7 (fun H locs hM => ?_)
  refine lv_aload_n hx hb dX8_number_10 rfl (lv_at hl 0 rfl) ?_
  refine lv_iload_n hx hb dX8_number_11 rfl (lv_at hl 1 rfl) ?_
  obtain ⟨w2, hzw2, h⟩ := k_bd h
  refine m_callV (C := RX8) (T := TX8) (N := 33) (ci := 8) (n := 1) (As := [.int p1]) (rest := []) (st1 := (.int w2 :: [])) E hM hl.1 ok1 (by decide) rfl rfl (c_X8_isThing l D cy sz H0 (sI (sI u r 1 (0 : Int32)) r 0 (0 : Int32)) r p1 hzw2) wl_X8_124 wm_X8_isThing ws_X8_isThing wi_X8 wd_X8_isThing rfl rfl (by decide +kernel) ⟨by decide, by decide⟩ rfl rfl (by first | exact Nat.le_of_ble_eq_true rfl | simp [rv_cat, cat_i, cat_l, cat_r, cat_n]) dX8_number_12 ⟨by decide, by decide⟩ rfl (fun H locs hM => ?_)
  refine lv_if_eq (tgt := 25) hx hb dX8_number_15 (by decide) (fun c3 => ?_) (fun c3 => ?_)
  · replace h := (k_if h).1 c3
    refine lv_aload_n hx hb dX8_number_25 rfl (lv_at hl 0 rfl) ?_
    refine lv_iconst (v := 2) hx hb dX8_number_26 (by decide) ?_
    obtain ⟨w4, hzw4, h⟩ := k_bd h
    refine m_callV (C := RX8) (T := TX8) (N := 33) (ci := 8) (n := 1) (As := [.int (2 : Int32)]) (rest := []) (st1 := (.int w4.1 :: [])) E hM hl.1 ok1 (by decide) rfl rfl (c_X8_refuse l D cy sz H0 (sI (sI u r 1 (0 : Int32)) r 0 (0 : Int32)) r (2 : Int32) hzw4) wl_X8_121 wm_X8_refuse ws_X8_refuse wi_X8 wd_X8_refuse rfl rfl (by decide +kernel) ⟨by decide, by decide⟩ rfl rfl (by first | exact Nat.le_of_ble_eq_true rfl | simp [rv_cat, cat_i, cat_l, cat_r, cat_n]) dX8_number_27 ⟨by decide, by decide⟩ rfl (fun H locs hM => ?_)
    cases h
    exact m_iret hx hb hr hlk hM rfl rfl dX8_number_30
  · replace h := (k_if h).2 c3
    refine lv_iload_n hx hb dX8_number_18 rfl (lv_at hl 3 rfl) ?_
    obtain ⟨w5, hzw5, h⟩ := k_bd h
    refine m_callS (n := 1) (As := [.int p3]) (rest := []) (st1 := (.int w5 :: [])) E hM hl.1 (c_X8_isPerson l D cy sz H0 (sI (sI u r 1 (0 : Int32)) r 0 (0 : Int32)) p3 hzw5) wl_X8_148 wst_X8_isPerson wi_X8 wd_X8_isPerson rfl rfl (by decide +kernel) ⟨by decide, by decide⟩ rfl rfl (by first | exact Nat.le_of_ble_eq_true rfl | simp [rv_cat, cat_i, cat_l, cat_r, cat_n]) dX8_number_19 ⟨by decide, by decide⟩ rfl (fun H locs hM => ?_)
    refine lv_if_ne (tgt := 31) hx hb dX8_number_22 (by decide) (fun c6 => ?_) (fun c6 => ?_)
    · replace h := (k_if h).2 c6
      refine lv_iload_n hx hb dX8_number_31 rfl (lv_at hl 2 rfl) ?_
      refine lv_if_lt (tgt := 48) hx hb dX8_number_32 (by decide) (fun c7 => ?_) (fun c7 => ?_)
      · replace h := (k_if h).1 c7
        refine lv_aload_n hx hb dX8_number_48 rfl (lv_at hl 0 rfl) ?_
        refine lv_iconst (v := 5) hx hb dX8_number_49 (by decide) ?_
        obtain ⟨w8, hzw8, h⟩ := k_bd h
        refine m_callV (C := RX8) (T := TX8) (N := 33) (ci := 8) (n := 1) (As := [.int (5 : Int32)]) (rest := []) (st1 := (.int w8.1 :: [])) E hM hl.1 ok1 (by decide) rfl rfl (c_X8_refuse l D cy sz H0 (sI (sI u r 1 (0 : Int32)) r 0 (0 : Int32)) r (5 : Int32) hzw8) wl_X8_121 wm_X8_refuse ws_X8_refuse wi_X8 wd_X8_refuse rfl rfl (by decide +kernel) ⟨by decide, by decide⟩ rfl rfl (by first | exact Nat.le_of_ble_eq_true rfl | simp [rv_cat, cat_i, cat_l, cat_r, cat_n]) dX8_number_50 ⟨by decide, by decide⟩ rfl (fun H locs hM => ?_)
        cases h
        exact m_iret hx hb hr hlk hM rfl rfl dX8_number_53
      · replace h := (k_if h).2 c7
        refine lv_iload_n hx hb dX8_number_35 rfl (lv_at hl 2 rfl) ?_
        refine lv_iconst (v := 3) hx hb dX8_number_36 (by decide) ?_
        refine lv_icmp_gt (tgt := 48) hx hb dX8_number_37 (by decide) (fun c9 => ?_) (fun c9 => ?_)
        · replace h := (k_if h).1 c9
          refine lv_aload_n hx hb dX8_number_48 rfl (lv_at hl 0 rfl) ?_
          refine lv_iconst (v := 5) hx hb dX8_number_49 (by decide) ?_
          obtain ⟨w10, hzw10, h⟩ := k_bd h
          refine m_callV (C := RX8) (T := TX8) (N := 33) (ci := 8) (n := 1) (As := [.int (5 : Int32)]) (rest := []) (st1 := (.int w10.1 :: [])) E hM hl.1 ok1 (by decide) rfl rfl (c_X8_refuse l D cy sz H0 (sI (sI u r 1 (0 : Int32)) r 0 (0 : Int32)) r (5 : Int32) hzw10) wl_X8_121 wm_X8_refuse ws_X8_refuse wi_X8 wd_X8_refuse rfl rfl (by decide +kernel) ⟨by decide, by decide⟩ rfl rfl (by first | exact Nat.le_of_ble_eq_true rfl | simp [rv_cat, cat_i, cat_l, cat_r, cat_n]) dX8_number_50 ⟨by decide, by decide⟩ rfl (fun H locs hM => ?_)
          cases h
          exact m_iret hx hb hr hlk hM rfl rfl dX8_number_53
        · replace h := (k_if h).2 c9
          refine lv_iload hx hb dX8_number_40 (lv_at hl 4 rfl) ?_
          obtain ⟨w11, hzw11, h⟩ := k_bd h
          refine m_callS (n := 1) (As := [.int p4]) (rest := []) (st1 := (.int w11 :: [])) E hM hl.1 (c_X8_isDay l D cy sz H0 (sI (sI u r 1 (0 : Int32)) r 0 (0 : Int32)) p4 hzw11) wl_X8_151 wst_X8_isDay wi_X8 wd_X8_isDay rfl rfl (by decide +kernel) ⟨by decide, by decide⟩ rfl rfl (by first | exact Nat.le_of_ble_eq_true rfl | simp [rv_cat, cat_i, cat_l, cat_r, cat_n]) dX8_number_42 ⟨by decide, by decide⟩ rfl (fun H locs hM => ?_)
          refine lv_if_ne (tgt := 54) hx hb dX8_number_45 (by decide) (fun c12 => ?_) (fun c12 => ?_)
          · replace h := (k_if h).2 c12
            refine lv_iconst (v := 0) hx hb dX8_number_54 (by decide) ?_
            refine lv_istore (i := 5) (lv' := [(5, .int (0 : Int32)), (0, .ref (sz + r)), (1, .int p1), (2, .int p2), (3, .int p3), (4, .int p4)]) hx hb dX8_number_55 hl (by decide) (by first | rfl | simp [rv_cat, cat_i, cat_l, cat_r, cat_n]) (fun ls hl => ?_)
            refine lv_iconst (v := 0) hx hb dX8_number_57 (by decide) ?_
            refine lv_istore (i := 6) (lv' := [(6, .int (0 : Int32)), (5, .int (0 : Int32)), (0, .ref (sz + r)), (1, .int p1), (2, .int p2), (3, .int p3), (4, .int p4)]) hx hb dX8_number_58 hl (by decide) (by first | rfl | simp [rv_cat, cat_i, cat_l, cat_r, cat_n]) (fun ls hl => ?_)
            refine lp_X8_number_60 hr hlk  E 1000 (0 : Int32) (0 : Int32) H locs ls hM (lv_sub hl [2, 3, 4, 5, 6, 1, 0] rfl) h (fun a50 a51 H locs ls hM hl h => ?_)
            refine lv_iload hx hb dX8_number_193 (lv_at hl 5 rfl) ?_
            cases h
            exact m_iret hx hb hr hlk hM rfl rfl dX8_number_195
          · replace h := (k_if h).1 c12
            refine lv_aload_n hx hb dX8_number_48 rfl (lv_at hl 0 rfl) ?_
            refine lv_iconst (v := 5) hx hb dX8_number_49 (by decide) ?_
            obtain ⟨w52, hzw52, h⟩ := k_bd h
            refine m_callV (C := RX8) (T := TX8) (N := 33) (ci := 8) (n := 1) (As := [.int (5 : Int32)]) (rest := []) (st1 := (.int w52.1 :: [])) E hM hl.1 ok1 (by decide) rfl rfl (c_X8_refuse l D cy sz H0 (sI (sI u r 1 (0 : Int32)) r 0 (0 : Int32)) r (5 : Int32) hzw52) wl_X8_121 wm_X8_refuse ws_X8_refuse wi_X8 wd_X8_refuse rfl rfl (by decide +kernel) ⟨by decide, by decide⟩ rfl rfl (by first | exact Nat.le_of_ble_eq_true rfl | simp [rv_cat, cat_i, cat_l, cat_r, cat_n]) dX8_number_50 ⟨by decide, by decide⟩ rfl (fun H locs hM => ?_)
            cases h
            exact m_iret hx hb hr hlk hM rfl rfl dX8_number_53
    · replace h := (k_if h).1 c6
      refine lv_aload_n hx hb dX8_number_25 rfl (lv_at hl 0 rfl) ?_
      refine lv_iconst (v := 2) hx hb dX8_number_26 (by decide) ?_
      obtain ⟨w53, hzw53, h⟩ := k_bd h
      refine m_callV (C := RX8) (T := TX8) (N := 33) (ci := 8) (n := 1) (As := [.int (2 : Int32)]) (rest := []) (st1 := (.int w53.1 :: [])) E hM hl.1 ok1 (by decide) rfl rfl (c_X8_refuse l D cy sz H0 (sI (sI u r 1 (0 : Int32)) r 0 (0 : Int32)) r (2 : Int32) hzw53) wl_X8_121 wm_X8_refuse ws_X8_refuse wi_X8 wd_X8_refuse rfl rfl (by decide +kernel) ⟨by decide, by decide⟩ rfl rfl (by first | exact Nat.le_of_ble_eq_true rfl | simp [rv_cat, cat_i, cat_l, cat_r, cat_n]) dX8_number_27 ⟨by decide, by decide⟩ rfl (fun H locs hM => ?_)
      cases h
      exact m_iret hx hb hr hlk hM rfl rfl dX8_number_30

abbrev rm_X8_find : Room := { frames := 1, cells := 0, slots := 0, locals := 36 }
def L_X8_find_94 (b0 : Nat) (b1 : Int32) (b2 : Int32) (b3 : Int32) (b4 : Int32) (b5 : Int32) (k : Int32 → Int32 → Mm → Option ((Int32) × Mm)) : Nat → Int32 → Int32 → Mm → Option ((Int32) × Mm)
  | 0, _, _, _ => none
  | n + 1, a6, a7, u => gd (okO u b0 8) ((if (gI u b0 7) ≤ a7 then k a6 a7 u else bb (gR u b0 8) (fun x22 => cs x22 none (fun k23 => gd (okA u k23 9 a7) ((if (gI u k23 (Int32.toNatClampNeg a7)) = (3 : Int32) then bd (f_X8_hasOf b0 a7 b1 u) (fun w27 => (if w27 = b2 then bd (f_X8_seesOf b0 a7 b3 b4 u) (fun w30 => (if w30 = 0 then bb (a7 + (1)) (fun v47 => L_X8_find_94 b0 b1 b2 b3 b4 b5 k n a6 v47 u) else bb (gR u b0 5) (fun x32 => cs x32 none (fun k33 => gd (okA u k33 9 b5) ((if (gI u k33 (Int32.toNatClampNeg b5)) ≤ a6 then bb (a6 + (1)) (fun v36 => bb (a7 + (1)) (fun v37 => L_X8_find_94 b0 b1 b2 b3 b4 b5 k n v36 v37 u)) else bb (gR u b0 6) (fun x38 => bb (gR u b0 4) (fun x39 => cs x39 none (fun k40 => gd (okA u k40 9 b5) (bd (f_X8_cut (gI u k40 (Int32.toNatClampNeg b5)) (Int32.toInt64 a7) u) (fun w42 => cs x38 none (fun k43 => gd (okA u k43 10 (((40 : Int32) * b5) + a6)) (bb (a6 + (1)) (fun v45 => bb (a7 + (1)) (fun v46 => L_X8_find_94 b0 b1 b2 b3 b4 b5 k n v45 v46 (sL u k43 (Int32.toNatClampNeg (((40 : Int32) * b5) + a6)) w42)))))))))))))))) else bb (a7 + (1)) (fun v29 => L_X8_find_94 b0 b1 b2 b3 b4 b5 k n a6 v29 u))) else bb (a7 + (1)) (fun v26 => L_X8_find_94 b0 b1 b2 b3 b4 b5 k n a6 v26 u)))))))
set_option maxHeartbeats 4000000 in
set_option maxRecDepth 100000 in
theorem lp_X8_find_94 {p : Program} {l : Launch} {e : Env} {s : State} {m : MethodId} {args : Array Value} {below : List Frame} {meth : Method} {c : Code} {D : va_G} {cy : Nat → ClassId} {sz : Nat} {H0 : Heap} {b0 : Nat} {b1 : Int32} {b2 : Int32} {b3 : Int32} {b4 : Int32} {b5 : Int32} {k : Int32 → Int32 → Mm → Option ((Int32) × Mm)} {res : (Int32) × Mm} (hr : meth.sig.returnType = (some .int)) (hlk : meth.locks = false) (E : EE p s m args c cX8_find 8 RX8 D cy) : ∀ (n : Nat) (a6 : Int32) (a7 : Int32) (u : Mm) (H : Heap) (locs : List Loc) (ls : Array Slot), MM D cy sz H0 u H locs → lv_has ls 8 [(0, .ref (sz + b0)), (1, .int b1), (2, .int b2), (3, .int b3), (4, .int b4), (5, .int b5), (6, .int a6), (7, .int a7)] → L_X8_find_94 b0 b1 b2 b3 b4 b5 k n a6 a7 u = some res → (∀ (a6 : Int32) (a7 : Int32) (u : Mm) (H : Heap) (locs : List Loc) (ls : Array Slot), MM D cy sz H0 u H locs → lv_has ls 8 [(0, .ref (sz + b0)), (1, .int b1), (2, .int b2), (3, .int b3), (4, .int b4), (5, .int b5), (6, .int a6), (7, .int a7)] → k a6 a7 u = some res → W p l e rm_X8_find s m args below meth c H locs 0 0 (MQ below (Post D cy sz H0 (some (.int res.1)) res.2) args s 0 0 (fun q => sz ≤ q)) (F0 m 187 ls [])) → W p l e rm_X8_find s m args below meth c H locs 0 0 (MQ below (Post D cy sz H0 (some (.int res.1)) res.2) args s 0 0 (fun q => sz ≤ q)) (F0 m 94 ls []) := by
  obtain ⟨hx, hb, hml, hown, hts, hKK⟩ := id E
  intro n
  induction n with
  | zero => intros; rename_i h _; cases h
  | succ n ih =>
    intro a6 a7 u H locs ls hM hl h hk
    rw [L_X8_find_94] at h
    refine lv_iload hx hb dX8_find_94 (lv_at hl 7 rfl) ?_
    refine lv_aload_n hx hb dX8_find_96 rfl (lv_at hl 0 rfl) ?_
    obtain ⟨ok20, h⟩ := k_gd h
    refine gs_X8_118 E hM ok20 dX8_find_97 ?_
    refine lv_icmp_ge (tgt := 187) hx hb dX8_find_100 (by decide) (fun c21 => ?_) (fun c21 => ?_)
    · replace h := (k_if h).1 c21
      exact hk a6 a7 u H locs ls hM (lv_sub hl [0, 1, 2, 3, 4, 5, 6, 7] rfl) h
    · replace h := (k_if h).2 c21
      refine lv_aload_n hx hb dX8_find_103 rfl (lv_at hl 0 rfl) ?_
      refine gs_X8_24 E hM ok20 dX8_find_104 (fun x22 hxx22 => ?_)
      replace h := k_bb h x22 hxx22.symm
      refine lv_iload hx hb dX8_find_107 (lv_at hl 7 rfl) ?_
      rcases x22 with _ | k23
      · cases h
      rw [cs_s] at h
      obtain ⟨ok24, h⟩ := k_gd h
      refine m_iald E hM ok24 dX8_find_109 ?_
      refine lv_iconst (v := 3) hx hb dX8_find_110 (by decide) ?_
      refine lv_icmp_ne (tgt := 181) hx hb dX8_find_111 (by decide) (fun c25 => ?_) (fun c25 => ?_)
      · replace h := (k_if h).2 c25
        obtain ⟨v26, hvv26⟩ : ∃ y : Int32, y = a7 + (1) := ⟨_, rfl⟩
        replace h := k_bb h v26 hvv26
        refine lv_iinc (v := v26) (lv' := [(7, .int v26), (0, .ref (sz + b0)), (1, .int b1), (2, .int b2), (3, .int b3), (4, .int b4), (5, .int b5), (6, .int a6)]) hx hb dX8_find_181 hl (k := 7) rfl (by rw [hvv26]; rfl) (by decide) (by first | rfl | simp [rv_cat, cat_i, cat_l, cat_r, cat_n]) (fun ls hl => ?_)
        refine lv_goto (tgt := 94) hx hb dX8_find_184 (by decide) ?_
        exact ih a6 v26 u H locs ls hM (lv_sub hl [1, 2, 3, 4, 5, 6, 7, 0] rfl) h hk
      · replace h := (k_if h).1 c25
        refine lv_aload_n hx hb dX8_find_114 rfl (lv_at hl 0 rfl) ?_
        refine lv_iload hx hb dX8_find_115 (lv_at hl 7 rfl) ?_
        refine lv_iload_n hx hb dX8_find_117 rfl (lv_at hl 1 rfl) ?_
        obtain ⟨w27, hzw27, h⟩ := k_bd h
        refine m_callV (C := RX8) (T := TX8) (N := 33) (ci := 8) (n := 2) (As := [.int a7, .int b1]) (rest := []) (st1 := (.int w27 :: [])) E hM hl.1 ok20 (by decide) rfl rfl (c_X8_hasOf l D cy sz H0 u b0 a7 b1 hzw27) wl_X8_130 wm_X8_hasOf ws_X8_hasOf wi_X8 wd_X8_hasOf rfl rfl (by decide +kernel) ⟨by decide, by decide⟩ rfl rfl (by first | exact Nat.le_of_ble_eq_true rfl | simp [rv_cat, cat_i, cat_l, cat_r, cat_n]) dX8_find_118 ⟨by decide, by decide⟩ rfl (fun H locs hM => ?_)
        refine lv_iload_n hx hb dX8_find_121 rfl (lv_at hl 2 rfl) ?_
        refine lv_icmp_ne (tgt := 181) hx hb dX8_find_122 (by decide) (fun c28 => ?_) (fun c28 => ?_)
        · replace h := (k_if h).2 c28
          obtain ⟨v29, hvv29⟩ : ∃ y : Int32, y = a7 + (1) := ⟨_, rfl⟩
          replace h := k_bb h v29 hvv29
          refine lv_iinc (v := v29) (lv' := [(7, .int v29), (0, .ref (sz + b0)), (1, .int b1), (2, .int b2), (3, .int b3), (4, .int b4), (5, .int b5), (6, .int a6)]) hx hb dX8_find_181 hl (k := 7) rfl (by rw [hvv29]; rfl) (by decide) (by first | rfl | simp [rv_cat, cat_i, cat_l, cat_r, cat_n]) (fun ls hl => ?_)
          refine lv_goto (tgt := 94) hx hb dX8_find_184 (by decide) ?_
          exact ih a6 v29 u H locs ls hM (lv_sub hl [1, 2, 3, 4, 5, 6, 7, 0] rfl) h hk
        · replace h := (k_if h).1 c28
          refine lv_aload_n hx hb dX8_find_125 rfl (lv_at hl 0 rfl) ?_
          refine lv_iload hx hb dX8_find_126 (lv_at hl 7 rfl) ?_
          refine lv_iload_n hx hb dX8_find_128 rfl (lv_at hl 3 rfl) ?_
          refine lv_iload hx hb dX8_find_129 (lv_at hl 4 rfl) ?_
          obtain ⟨w30, hzw30, h⟩ := k_bd h
          refine m_callV (C := RX8) (T := TX8) (N := 33) (ci := 8) (n := 3) (As := [.int a7, .int b3, .int b4]) (rest := []) (st1 := (.int w30 :: [])) E hM hl.1 ok20 (by decide) rfl rfl (c_X8_seesOf l D cy sz H0 u b0 a7 b3 b4 hzw30) wl_X8_154 wm_X8_seesOf ws_X8_seesOf wi_X8 wd_X8_seesOf rfl rfl (by decide +kernel) ⟨by decide, by decide⟩ rfl rfl (by first | exact Nat.le_of_ble_eq_true rfl | simp [rv_cat, cat_i, cat_l, cat_r, cat_n]) dX8_find_131 ⟨by decide, by decide⟩ rfl (fun H locs hM => ?_)
          refine lv_if_ne (tgt := 140) hx hb dX8_find_134 (by decide) (fun c31 => ?_) (fun c31 => ?_)
          · replace h := (k_if h).2 c31
            refine lv_iload hx hb dX8_find_140 (lv_at hl 6 rfl) ?_
            refine lv_aload_n hx hb dX8_find_142 rfl (lv_at hl 0 rfl) ?_
            refine gs_X8_17 E hM ok20 dX8_find_143 (fun x32 hxx32 => ?_)
            replace h := k_bb h x32 hxx32.symm
            refine lv_iload hx hb dX8_find_146 (lv_at hl 5 rfl) ?_
            rcases x32 with _ | k33
            · cases h
            rw [cs_s] at h
            obtain ⟨ok34, h⟩ := k_gd h
            refine m_iald E hM ok34 dX8_find_148 ?_
            refine lv_icmp_ge (tgt := 178) hx hb dX8_find_149 (by decide) (fun c35 => ?_) (fun c35 => ?_)
            · replace h := (k_if h).1 c35
              obtain ⟨v36, hvv36⟩ : ∃ y : Int32, y = a6 + (1) := ⟨_, rfl⟩
              replace h := k_bb h v36 hvv36
              refine lv_iinc (v := v36) (lv' := [(6, .int v36), (0, .ref (sz + b0)), (1, .int b1), (2, .int b2), (3, .int b3), (4, .int b4), (5, .int b5), (7, .int a7)]) hx hb dX8_find_178 hl (k := 6) rfl (by rw [hvv36]; rfl) (by decide) (by first | rfl | simp [rv_cat, cat_i, cat_l, cat_r, cat_n]) (fun ls hl => ?_)
              obtain ⟨v37, hvv37⟩ : ∃ y : Int32, y = a7 + (1) := ⟨_, rfl⟩
              replace h := k_bb h v37 hvv37
              refine lv_iinc (v := v37) (lv' := [(7, .int v37), (6, .int v36), (0, .ref (sz + b0)), (1, .int b1), (2, .int b2), (3, .int b3), (4, .int b4), (5, .int b5)]) hx hb dX8_find_181 hl (k := 7) rfl (by rw [hvv37]; rfl) (by decide) (by first | rfl | simp [rv_cat, cat_i, cat_l, cat_r, cat_n]) (fun ls hl => ?_)
              refine lv_goto (tgt := 94) hx hb dX8_find_184 (by decide) ?_
              exact ih v36 v37 u H locs ls hM (lv_sub hl [2, 3, 4, 5, 6, 7, 1, 0] rfl) h hk
            · replace h := (k_if h).2 c35
              refine lv_aload_n hx hb dX8_find_152 rfl (lv_at hl 0 rfl) ?_
              refine gs_X8_20 E hM ok20 dX8_find_153 (fun x38 hxx38 => ?_)
              replace h := k_bb h x38 hxx38.symm
              refine lv_bipush (v := 40) hx hb dX8_find_156 (by decide) ?_
              refine lv_iload hx hb dX8_find_158 (lv_at hl 5 rfl) ?_
              refine lv_imul hx hb dX8_find_160 ?_
              refine lv_iload hx hb dX8_find_161 (lv_at hl 6 rfl) ?_
              refine lv_iadd hx hb dX8_find_163 ?_
              refine lv_aload_n hx hb dX8_find_164 rfl (lv_at hl 0 rfl) ?_
              refine gs_X8_13 E hM ok20 dX8_find_165 (fun x39 hxx39 => ?_)
              replace h := k_bb h x39 hxx39.symm
              refine lv_iload hx hb dX8_find_168 (lv_at hl 5 rfl) ?_
              rcases x39 with _ | k40
              · cases h
              rw [cs_s] at h
              obtain ⟨ok41, h⟩ := k_gd h
              refine m_iald E hM ok41 dX8_find_170 ?_
              refine lv_iload hx hb dX8_find_171 (lv_at hl 7 rfl) ?_
              refine lv_i2l hx hb dX8_find_173 rfl ?_
              obtain ⟨w42, hzw42, h⟩ := k_bd h
              refine m_callS (n := 2) (As := [.int (gI u k40 (Int32.toNatClampNeg b5)), .long (Int32.toInt64 a7)]) (rest := [.int (((40 : Int32) * b5) + a6), rv sz x38]) (st1 := (.long w42 :: [.int (((40 : Int32) * b5) + a6), rv sz x38])) E hM hl.1 (c_X8_cut l D cy sz H0 u (gI u k40 (Int32.toNatClampNeg b5)) (Int32.toInt64 a7) hzw42) wl_X8_112 wst_X8_cut wi_X8 wd_X8_cut rfl rfl (by decide +kernel) ⟨by decide, by decide⟩ rfl rfl (by first | exact Nat.le_of_ble_eq_true rfl | simp [rv_cat, cat_i, cat_l, cat_r, cat_n]) dX8_find_174 ⟨by decide, by decide⟩ rfl (fun H locs hM => ?_)
              rcases x38 with _ | k43
              · cases h
              rw [cs_s] at h
              obtain ⟨ok44, h⟩ := k_gd h
              refine m_last E hM ok44 dX8_find_177 (fun H locs hM => ?_)
              obtain ⟨v45, hvv45⟩ : ∃ y : Int32, y = a6 + (1) := ⟨_, rfl⟩
              replace h := k_bb h v45 hvv45
              refine lv_iinc (v := v45) (lv' := [(6, .int v45), (0, .ref (sz + b0)), (1, .int b1), (2, .int b2), (3, .int b3), (4, .int b4), (5, .int b5), (7, .int a7)]) hx hb dX8_find_178 hl (k := 6) rfl (by rw [hvv45]; rfl) (by decide) (by first | rfl | simp [rv_cat, cat_i, cat_l, cat_r, cat_n]) (fun ls hl => ?_)
              obtain ⟨v46, hvv46⟩ : ∃ y : Int32, y = a7 + (1) := ⟨_, rfl⟩
              replace h := k_bb h v46 hvv46
              refine lv_iinc (v := v46) (lv' := [(7, .int v46), (6, .int v45), (0, .ref (sz + b0)), (1, .int b1), (2, .int b2), (3, .int b3), (4, .int b4), (5, .int b5)]) hx hb dX8_find_181 hl (k := 7) rfl (by rw [hvv46]; rfl) (by decide) (by first | rfl | simp [rv_cat, cat_i, cat_l, cat_r, cat_n]) (fun ls hl => ?_)
              refine lv_goto (tgt := 94) hx hb dX8_find_184 (by decide) ?_
              exact ih v45 v46 (sL u k43 (Int32.toNatClampNeg (((40 : Int32) * b5) + a6)) w42) H locs ls hM (lv_sub hl [2, 3, 4, 5, 6, 7, 1, 0] rfl) h hk
          · replace h := (k_if h).1 c31
            refine lv_goto (tgt := 181) hx hb dX8_find_137 (by decide) ?_
            obtain ⟨v47, hvv47⟩ : ∃ y : Int32, y = a7 + (1) := ⟨_, rfl⟩
            replace h := k_bb h v47 hvv47
            refine lv_iinc (v := v47) (lv' := [(7, .int v47), (0, .ref (sz + b0)), (1, .int b1), (2, .int b2), (3, .int b3), (4, .int b4), (5, .int b5), (6, .int a6)]) hx hb dX8_find_181 hl (k := 7) rfl (by rw [hvv47]; rfl) (by decide) (by first | rfl | simp [rv_cat, cat_i, cat_l, cat_r, cat_n]) (fun ls hl => ?_)
            refine lv_goto (tgt := 94) hx hb dX8_find_184 (by decide) ?_
            exact ih a6 v47 u H locs ls hM (lv_sub hl [1, 2, 3, 4, 5, 6, 7, 0] rfl) h hk

def f_X8_find (r : Nat) (p1 : Int32) (p2 : Int32) (p3 : Int32) (p4 : Int32) (p5 : Int32) (u : Mm) : Option ((Int32) × Mm) := gd (okO u r 8) ((if p5 < 0 then bd (f_X8_refuse r (1 : Int32) (sI (sI u r 1 (0 : Int32)) r 0 (0 : Int32))) (fun w3 => some (w3.1, w3.2)) else (if p5 < (4 : Int32) then bd (f_X8_isField p1 (sI (sI u r 1 (0 : Int32)) r 0 (0 : Int32))) (fun w5 => (if w5 = 0 then bd (f_X8_refuse r (2 : Int32) (sI (sI u r 1 (0 : Int32)) r 0 (0 : Int32))) (fun w7 => some (w7.1, w7.2)) else bd (f_X8_isPerson p3 (sI (sI u r 1 (0 : Int32)) r 0 (0 : Int32))) (fun w8 => (if w8 = 0 then bd (f_X8_refuse r (2 : Int32) (sI (sI u r 1 (0 : Int32)) r 0 (0 : Int32))) (fun w53 => some (w53.1, w53.2)) else bb (gR (sI (sI u r 1 (0 : Int32)) r 0 (0 : Int32)) r 5) (fun x10 => cs x10 none (fun k11 => gd (okA (sI (sI u r 1 (0 : Int32)) r 0 (0 : Int32)) k11 9 p5) ((if 0 ≤ (gI (sI (sI u r 1 (0 : Int32)) r 0 (0 : Int32)) k11 (Int32.toNatClampNeg p5)) then (if p2 < 0 then bd (f_X8_refuse r (5 : Int32) (sI (sI u r 1 (0 : Int32)) r 0 (0 : Int32))) (fun w15 => some (w15.1, w15.2)) else (if (999 : Int32) < p2 then bd (f_X8_refuse r (5 : Int32) (sI (sI u r 1 (0 : Int32)) r 0 (0 : Int32))) (fun w17 => some (w17.1, w17.2)) else bd (f_X8_isDay p4 (sI (sI u r 1 (0 : Int32)) r 0 (0 : Int32))) (fun w18 => (if w18 = 0 then bd (f_X8_refuse r (5 : Int32) (sI (sI u r 1 (0 : Int32)) r 0 (0 : Int32))) (fun w51 => some (w51.1, w51.2)) else L_X8_find_94 r p1 p2 p3 p4 p5  (fun a48 a49 u50 => some (a48, u50)) 1000 (0 : Int32) (0 : Int32) (sI (sI u r 1 (0 : Int32)) r 0 (0 : Int32)))))) else bd (f_X8_refuse r (3 : Int32) (sI (sI u r 1 (0 : Int32)) r 0 (0 : Int32))) (fun w52 => some (w52.1, w52.2)))))))))) else bd (f_X8_refuse r (1 : Int32) (sI (sI u r 1 (0 : Int32)) r 0 (0 : Int32))) (fun w54 => some (w54.1, w54.2)))))
set_option maxHeartbeats 4000000 in
set_option maxRecDepth 100000 in
theorem c_X8_find (l : Launch) (D : va_G) (cy : Nat → ClassId) (sz : Nat) (H0 : Heap) (u : Mm) (r : Nat) (p1 : Int32) (p2 : Int32) (p3 : Int32) (p4 : Int32) (p5 : Int32) {res : (Int32) × Mm} (h : f_X8_find r p1 p2 p3 p4 p5 u = some res) : Ctr l yX8_find cX8_find 8 (some .int) rm_X8_find 0 0 D cy sz H0 u [.ref (sz + r), .int p1, .int p2, .int p3, .int p4, .int p5] (some (.int res.1)) res.2 := by
  refine m_start (lv := [(0, .ref (sz + r)), (1, .int p1), (2, .int p2), (3, .int p3), (4, .int p4), (5, .int p5)]) (by decide) (by first | exact Nat.le_of_ble_eq_true rfl | simp [lg_sl, rv_cat, cat_i, cat_l, cat_r, cat_n]) (by first | rfl | simp [lv_args, rv_cat, cat_i, cat_l, cat_r, cat_n]) ?_
  intro p e s m below meth c ls E hr hlk hinit hM hl
  obtain ⟨hx, hb, hml, hown, hts, hKK⟩ := id E
  obtain ⟨H, hH⟩ : ∃ H, H = s.heap := ⟨_, rfl⟩
  obtain ⟨locs, hlocs⟩ : ∃ L : List Loc, L = [] := ⟨_, rfl⟩
  rw [← hH, ← hlocs] at hM ⊢
  unfold f_X8_find at h
  refine lv_aload_n hx hb dX8_find_0 rfl (lv_at hl 0 rfl) ?_
  refine lv_iconst (v := 0) hx hb dX8_find_1 (by decide) ?_
  obtain ⟨ok1, h⟩ := k_gd h
  refine ps_X8_93 (v := (0 : Int32)) E hM ok1 dX8_find_2 (fun H locs hM => ?_)
  refine lv_aload_n hx hb dX8_find_5 rfl (lv_at hl 0 rfl) ?_
  refine lv_iconst (v := 0) hx hb dX8_find_6 (by decide) ?_
  refine ps_X8_97 (v := (0 : Int32)) E hM ok1 dX8_find_7 (fun H locs hM => ?_)
  refine lv_iload hx hb dX8_find_10 (lv_at hl 5 rfl) ?_
  refine lv_if_lt (tgt := 21) hx hb dX8_find_12 (by decide) (fun c2 => ?_) (fun c2 => ?_)
  · replace h := (k_if h).1 c2
    refine lv_aload_n hx hb dX8_find_21 rfl (lv_at hl 0 rfl) ?_
    refine lv_iconst (v := 1) hx hb dX8_find_22 (by decide) ?_
    obtain ⟨w3, hzw3, h⟩ := k_bd h
    refine m_callV (C := RX8) (T := TX8) (N := 33) (ci := 8) (n := 1) (As := [.int (1 : Int32)]) (rest := []) (st1 := (.int w3.1 :: [])) E hM hl.1 ok1 (by decide) rfl rfl (c_X8_refuse l D cy sz H0 (sI (sI u r 1 (0 : Int32)) r 0 (0 : Int32)) r (1 : Int32) hzw3) wl_X8_121 wm_X8_refuse ws_X8_refuse wi_X8 wd_X8_refuse rfl rfl (by decide +kernel) ⟨by decide, by decide⟩ rfl rfl (by first | exact Nat.le_of_ble_eq_true rfl | simp [rv_cat, cat_i, cat_l, cat_r, cat_n]) dX8_find_23 ⟨by decide, by decide⟩ rfl (fun H locs hM => ?_)
    cases h
    exact m_iret hx hb hr hlk hM rfl rfl dX8_find_26
  · replace h := (k_if h).2 c2
    refine lv_iload hx hb dX8_find_15 (lv_at hl 5 rfl) ?_
    refine lv_iconst (v := 4) hx hb dX8_find_17 (by decide) ?_
    refine lv_icmp_lt (tgt := 27) hx hb dX8_find_18 (by decide) (fun c4 => ?_) (fun c4 => ?_)
    · replace h := (k_if h).1 c4
      refine lv_iload_n hx hb dX8_find_27 rfl (lv_at hl 1 rfl) ?_
      obtain ⟨w5, hzw5, h⟩ := k_bd h
      refine m_callS (n := 1) (As := [.int p1]) (rest := []) (st1 := (.int w5 :: [])) E hM hl.1 (c_X8_isField l D cy sz H0 (sI (sI u r 1 (0 : Int32)) r 0 (0 : Int32)) p1 hzw5) wl_X8_127 wst_X8_isField wi_X8 wd_X8_isField rfl rfl (by decide +kernel) ⟨by decide, by decide⟩ rfl rfl (by first | exact Nat.le_of_ble_eq_true rfl | simp [rv_cat, cat_i, cat_l, cat_r, cat_n]) dX8_find_28 ⟨by decide, by decide⟩ rfl (fun H locs hM => ?_)
      refine lv_if_eq (tgt := 41) hx hb dX8_find_31 (by decide) (fun c6 => ?_) (fun c6 => ?_)
      · replace h := (k_if h).1 c6
        refine lv_aload_n hx hb dX8_find_41 rfl (lv_at hl 0 rfl) ?_
        refine lv_iconst (v := 2) hx hb dX8_find_42 (by decide) ?_
        obtain ⟨w7, hzw7, h⟩ := k_bd h
        refine m_callV (C := RX8) (T := TX8) (N := 33) (ci := 8) (n := 1) (As := [.int (2 : Int32)]) (rest := []) (st1 := (.int w7.1 :: [])) E hM hl.1 ok1 (by decide) rfl rfl (c_X8_refuse l D cy sz H0 (sI (sI u r 1 (0 : Int32)) r 0 (0 : Int32)) r (2 : Int32) hzw7) wl_X8_121 wm_X8_refuse ws_X8_refuse wi_X8 wd_X8_refuse rfl rfl (by decide +kernel) ⟨by decide, by decide⟩ rfl rfl (by first | exact Nat.le_of_ble_eq_true rfl | simp [rv_cat, cat_i, cat_l, cat_r, cat_n]) dX8_find_43 ⟨by decide, by decide⟩ rfl (fun H locs hM => ?_)
        cases h
        exact m_iret hx hb hr hlk hM rfl rfl dX8_find_46
      · replace h := (k_if h).2 c6
        refine lv_iload_n hx hb dX8_find_34 rfl (lv_at hl 3 rfl) ?_
        obtain ⟨w8, hzw8, h⟩ := k_bd h
        refine m_callS (n := 1) (As := [.int p3]) (rest := []) (st1 := (.int w8 :: [])) E hM hl.1 (c_X8_isPerson l D cy sz H0 (sI (sI u r 1 (0 : Int32)) r 0 (0 : Int32)) p3 hzw8) wl_X8_148 wst_X8_isPerson wi_X8 wd_X8_isPerson rfl rfl (by decide +kernel) ⟨by decide, by decide⟩ rfl rfl (by first | exact Nat.le_of_ble_eq_true rfl | simp [rv_cat, cat_i, cat_l, cat_r, cat_n]) dX8_find_35 ⟨by decide, by decide⟩ rfl (fun H locs hM => ?_)
        refine lv_if_ne (tgt := 47) hx hb dX8_find_38 (by decide) (fun c9 => ?_) (fun c9 => ?_)
        · replace h := (k_if h).2 c9
          refine lv_aload_n hx hb dX8_find_47 rfl (lv_at hl 0 rfl) ?_
          refine gs_X8_17 E hM ok1 dX8_find_48 (fun x10 hxx10 => ?_)
          replace h := k_bb h x10 hxx10.symm
          refine lv_iload hx hb dX8_find_51 (lv_at hl 5 rfl) ?_
          rcases x10 with _ | k11
          · cases h
          rw [cs_s] at h
          obtain ⟨ok12, h⟩ := k_gd h
          refine m_iald E hM ok12 dX8_find_53 ?_
          refine lv_if_ge (tgt := 63) hx hb dX8_find_54 (by decide) (fun c13 => ?_) (fun c13 => ?_)
          · replace h := (k_if h).1 c13
            refine lv_iload_n hx hb dX8_find_63 rfl (lv_at hl 2 rfl) ?_
            refine lv_if_lt (tgt := 82) hx hb dX8_find_64 (by decide) (fun c14 => ?_) (fun c14 => ?_)
            · replace h := (k_if h).1 c14
              refine lv_aload_n hx hb dX8_find_82 rfl (lv_at hl 0 rfl) ?_
              refine lv_iconst (v := 5) hx hb dX8_find_83 (by decide) ?_
              obtain ⟨w15, hzw15, h⟩ := k_bd h
              refine m_callV (C := RX8) (T := TX8) (N := 33) (ci := 8) (n := 1) (As := [.int (5 : Int32)]) (rest := []) (st1 := (.int w15.1 :: [])) E hM hl.1 ok1 (by decide) rfl rfl (c_X8_refuse l D cy sz H0 (sI (sI u r 1 (0 : Int32)) r 0 (0 : Int32)) r (5 : Int32) hzw15) wl_X8_121 wm_X8_refuse ws_X8_refuse wi_X8 wd_X8_refuse rfl rfl (by decide +kernel) ⟨by decide, by decide⟩ rfl rfl (by first | exact Nat.le_of_ble_eq_true rfl | simp [rv_cat, cat_i, cat_l, cat_r, cat_n]) dX8_find_84 ⟨by decide, by decide⟩ rfl (fun H locs hM => ?_)
              cases h
              exact m_iret hx hb hr hlk hM rfl rfl dX8_find_87
            · replace h := (k_if h).2 c14
              refine lv_iload_n hx hb dX8_find_67 rfl (lv_at hl 2 rfl) ?_
              refine lv_sipush (v := 999) hx hb dX8_find_68 (by decide) ?_
              refine lv_icmp_gt (tgt := 82) hx hb dX8_find_71 (by decide) (fun c16 => ?_) (fun c16 => ?_)
              · replace h := (k_if h).1 c16
                refine lv_aload_n hx hb dX8_find_82 rfl (lv_at hl 0 rfl) ?_
                refine lv_iconst (v := 5) hx hb dX8_find_83 (by decide) ?_
                obtain ⟨w17, hzw17, h⟩ := k_bd h
                refine m_callV (C := RX8) (T := TX8) (N := 33) (ci := 8) (n := 1) (As := [.int (5 : Int32)]) (rest := []) (st1 := (.int w17.1 :: [])) E hM hl.1 ok1 (by decide) rfl rfl (c_X8_refuse l D cy sz H0 (sI (sI u r 1 (0 : Int32)) r 0 (0 : Int32)) r (5 : Int32) hzw17) wl_X8_121 wm_X8_refuse ws_X8_refuse wi_X8 wd_X8_refuse rfl rfl (by decide +kernel) ⟨by decide, by decide⟩ rfl rfl (by first | exact Nat.le_of_ble_eq_true rfl | simp [rv_cat, cat_i, cat_l, cat_r, cat_n]) dX8_find_84 ⟨by decide, by decide⟩ rfl (fun H locs hM => ?_)
                cases h
                exact m_iret hx hb hr hlk hM rfl rfl dX8_find_87
              · replace h := (k_if h).2 c16
                refine lv_iload hx hb dX8_find_74 (lv_at hl 4 rfl) ?_
                obtain ⟨w18, hzw18, h⟩ := k_bd h
                refine m_callS (n := 1) (As := [.int p4]) (rest := []) (st1 := (.int w18 :: [])) E hM hl.1 (c_X8_isDay l D cy sz H0 (sI (sI u r 1 (0 : Int32)) r 0 (0 : Int32)) p4 hzw18) wl_X8_151 wst_X8_isDay wi_X8 wd_X8_isDay rfl rfl (by decide +kernel) ⟨by decide, by decide⟩ rfl rfl (by first | exact Nat.le_of_ble_eq_true rfl | simp [rv_cat, cat_i, cat_l, cat_r, cat_n]) dX8_find_76 ⟨by decide, by decide⟩ rfl (fun H locs hM => ?_)
                refine lv_if_ne (tgt := 88) hx hb dX8_find_79 (by decide) (fun c19 => ?_) (fun c19 => ?_)
                · replace h := (k_if h).2 c19
                  refine lv_iconst (v := 0) hx hb dX8_find_88 (by decide) ?_
                  refine lv_istore (i := 6) (lv' := [(6, .int (0 : Int32)), (0, .ref (sz + r)), (1, .int p1), (2, .int p2), (3, .int p3), (4, .int p4), (5, .int p5)]) hx hb dX8_find_89 hl (by decide) (by first | rfl | simp [rv_cat, cat_i, cat_l, cat_r, cat_n]) (fun ls hl => ?_)
                  refine lv_iconst (v := 0) hx hb dX8_find_91 (by decide) ?_
                  refine lv_istore (i := 7) (lv' := [(7, .int (0 : Int32)), (6, .int (0 : Int32)), (0, .ref (sz + r)), (1, .int p1), (2, .int p2), (3, .int p3), (4, .int p4), (5, .int p5)]) hx hb dX8_find_92 hl (by decide) (by first | rfl | simp [rv_cat, cat_i, cat_l, cat_r, cat_n]) (fun ls hl => ?_)
                  refine lp_X8_find_94 hr hlk  E 1000 (0 : Int32) (0 : Int32) (sI (sI u r 1 (0 : Int32)) r 0 (0 : Int32)) H locs ls hM (lv_sub hl [2, 3, 4, 5, 6, 7, 1, 0] rfl) h (fun a48 a49 u50 H locs ls hM hl h => ?_)
                  refine lv_iload hx hb dX8_find_187 (lv_at hl 6 rfl) ?_
                  cases h
                  exact m_iret hx hb hr hlk hM rfl rfl dX8_find_189
                · replace h := (k_if h).1 c19
                  refine lv_aload_n hx hb dX8_find_82 rfl (lv_at hl 0 rfl) ?_
                  refine lv_iconst (v := 5) hx hb dX8_find_83 (by decide) ?_
                  obtain ⟨w51, hzw51, h⟩ := k_bd h
                  refine m_callV (C := RX8) (T := TX8) (N := 33) (ci := 8) (n := 1) (As := [.int (5 : Int32)]) (rest := []) (st1 := (.int w51.1 :: [])) E hM hl.1 ok1 (by decide) rfl rfl (c_X8_refuse l D cy sz H0 (sI (sI u r 1 (0 : Int32)) r 0 (0 : Int32)) r (5 : Int32) hzw51) wl_X8_121 wm_X8_refuse ws_X8_refuse wi_X8 wd_X8_refuse rfl rfl (by decide +kernel) ⟨by decide, by decide⟩ rfl rfl (by first | exact Nat.le_of_ble_eq_true rfl | simp [rv_cat, cat_i, cat_l, cat_r, cat_n]) dX8_find_84 ⟨by decide, by decide⟩ rfl (fun H locs hM => ?_)
                  cases h
                  exact m_iret hx hb hr hlk hM rfl rfl dX8_find_87
          · replace h := (k_if h).2 c13
            refine lv_aload_n hx hb dX8_find_57 rfl (lv_at hl 0 rfl) ?_
            refine lv_iconst (v := 3) hx hb dX8_find_58 (by decide) ?_
            obtain ⟨w52, hzw52, h⟩ := k_bd h
            refine m_callV (C := RX8) (T := TX8) (N := 33) (ci := 8) (n := 1) (As := [.int (3 : Int32)]) (rest := []) (st1 := (.int w52.1 :: [])) E hM hl.1 ok1 (by decide) rfl rfl (c_X8_refuse l D cy sz H0 (sI (sI u r 1 (0 : Int32)) r 0 (0 : Int32)) r (3 : Int32) hzw52) wl_X8_121 wm_X8_refuse ws_X8_refuse wi_X8 wd_X8_refuse rfl rfl (by decide +kernel) ⟨by decide, by decide⟩ rfl rfl (by first | exact Nat.le_of_ble_eq_true rfl | simp [rv_cat, cat_i, cat_l, cat_r, cat_n]) dX8_find_59 ⟨by decide, by decide⟩ rfl (fun H locs hM => ?_)
            cases h
            exact m_iret hx hb hr hlk hM rfl rfl dX8_find_62
        · replace h := (k_if h).1 c9
          refine lv_aload_n hx hb dX8_find_41 rfl (lv_at hl 0 rfl) ?_
          refine lv_iconst (v := 2) hx hb dX8_find_42 (by decide) ?_
          obtain ⟨w53, hzw53, h⟩ := k_bd h
          refine m_callV (C := RX8) (T := TX8) (N := 33) (ci := 8) (n := 1) (As := [.int (2 : Int32)]) (rest := []) (st1 := (.int w53.1 :: [])) E hM hl.1 ok1 (by decide) rfl rfl (c_X8_refuse l D cy sz H0 (sI (sI u r 1 (0 : Int32)) r 0 (0 : Int32)) r (2 : Int32) hzw53) wl_X8_121 wm_X8_refuse ws_X8_refuse wi_X8 wd_X8_refuse rfl rfl (by decide +kernel) ⟨by decide, by decide⟩ rfl rfl (by first | exact Nat.le_of_ble_eq_true rfl | simp [rv_cat, cat_i, cat_l, cat_r, cat_n]) dX8_find_43 ⟨by decide, by decide⟩ rfl (fun H locs hM => ?_)
          cases h
          exact m_iret hx hb hr hlk hM rfl rfl dX8_find_46
    · replace h := (k_if h).2 c4
      refine lv_aload_n hx hb dX8_find_21 rfl (lv_at hl 0 rfl) ?_
      refine lv_iconst (v := 1) hx hb dX8_find_22 (by decide) ?_
      obtain ⟨w54, hzw54, h⟩ := k_bd h
      refine m_callV (C := RX8) (T := TX8) (N := 33) (ci := 8) (n := 1) (As := [.int (1 : Int32)]) (rest := []) (st1 := (.int w54.1 :: [])) E hM hl.1 ok1 (by decide) rfl rfl (c_X8_refuse l D cy sz H0 (sI (sI u r 1 (0 : Int32)) r 0 (0 : Int32)) r (1 : Int32) hzw54) wl_X8_121 wm_X8_refuse ws_X8_refuse wi_X8 wd_X8_refuse rfl rfl (by decide +kernel) ⟨by decide, by decide⟩ rfl rfl (by first | exact Nat.le_of_ble_eq_true rfl | simp [rv_cat, cat_i, cat_l, cat_r, cat_n]) dX8_find_23 ⟨by decide, by decide⟩ rfl (fun H locs hM => ?_)
      cases h
      exact m_iret hx hb hr hlk hM rfl rfl dX8_find_26

abbrev rm_X8_mark : Room := { frames := 1, cells := 0, slots := 0, locals := 36 }
def L_X8_mark_44 (b0 : Nat) (b1 : Int32) (b2 : Int32) (u : Mm) (k : Int32 → Option ((Int32) × Mm)) : Nat → Int32 → Option ((Int32) × Mm)
  | 0, _ => none
  | n + 1, a3 => gd (okO u b0 8) ((if (gI u b0 7) ≤ a3 then k a3 else (if b2 < 0 then bb (a3 + (1)) (fun v11 => L_X8_mark_44 b0 b1 b2 u k n v11) else (if a3 = b1 then bb (a3 + (1)) (fun v13 => L_X8_mark_44 b0 b1 b2 u k n v13) else bb (gR u b0 17) (fun x14 => cs x14 none (fun k15 => gd (okA u k15 9 a3) ((if (gI u k15 (Int32.toNatClampNeg a3)) = b2 then bd (f_X8_no b0 (10 : Int32) u) (fun w19 => gd (isB w19.1) (some (w19.1, w19.2))) else bb (a3 + (1)) (fun v18 => L_X8_mark_44 b0 b1 b2 u k n v18)))))))))
set_option maxHeartbeats 4000000 in
set_option maxRecDepth 100000 in
theorem lp_X8_mark_44 {p : Program} {l : Launch} {e : Env} {s : State} {m : MethodId} {args : Array Value} {below : List Frame} {meth : Method} {c : Code} {D : va_G} {cy : Nat → ClassId} {sz : Nat} {H0 : Heap} {b0 : Nat} {b1 : Int32} {b2 : Int32} {u : Mm} {k : Int32 → Option ((Int32) × Mm)} {res : (Int32) × Mm} (hr : meth.sig.returnType = (some .boolean)) (hlk : meth.locks = false) (E : EE p s m args c cX8_mark 4 RX8 D cy) : ∀ (n : Nat) (a3 : Int32) (H : Heap) (locs : List Loc) (ls : Array Slot), MM D cy sz H0 u H locs → lv_has ls 4 [(0, .ref (sz + b0)), (1, .int b1), (2, .int b2), (3, .int a3)] → L_X8_mark_44 b0 b1 b2 u k n a3 = some res → (∀ (a3 : Int32) (H : Heap) (locs : List Loc) (ls : Array Slot), MM D cy sz H0 u H locs → lv_has ls 4 [(0, .ref (sz + b0)), (1, .int b1), (2, .int b2), (3, .int a3)] → k a3 = some res → W p l e rm_X8_mark s m args below meth c H locs 0 0 (MQ below (Post D cy sz H0 (some (.int res.1)) res.2) args s 0 0 (fun q => sz ≤ q)) (F0 m 84 ls [])) → W p l e rm_X8_mark s m args below meth c H locs 0 0 (MQ below (Post D cy sz H0 (some (.int res.1)) res.2) args s 0 0 (fun q => sz ≤ q)) (F0 m 44 ls []) := by
  obtain ⟨hx, hb, hml, hown, hts, hKK⟩ := id E
  intro n
  induction n with
  | zero => intros; rename_i h _; cases h
  | succ n ih =>
    intro a3 H locs ls hM hl h hk
    rw [L_X8_mark_44] at h
    refine lv_iload_n hx hb dX8_mark_44 rfl (lv_at hl 3 rfl) ?_
    refine lv_aload_n hx hb dX8_mark_45 rfl (lv_at hl 0 rfl) ?_
    obtain ⟨ok8, h⟩ := k_gd h
    refine gs_X8_118 E hM ok8 dX8_mark_46 ?_
    refine lv_icmp_ge (tgt := 84) hx hb dX8_mark_49 (by decide) (fun c9 => ?_) (fun c9 => ?_)
    · replace h := (k_if h).1 c9
      exact hk a3 H locs ls hM (lv_sub hl [0, 1, 2, 3] rfl) h
    · replace h := (k_if h).2 c9
      refine lv_iload_n hx hb dX8_mark_52 rfl (lv_at hl 2 rfl) ?_
      refine lv_if_lt (tgt := 78) hx hb dX8_mark_53 (by decide) (fun c10 => ?_) (fun c10 => ?_)
      · replace h := (k_if h).1 c10
        obtain ⟨v11, hvv11⟩ : ∃ y : Int32, y = a3 + (1) := ⟨_, rfl⟩
        replace h := k_bb h v11 hvv11
        refine lv_iinc (v := v11) (lv' := [(3, .int v11), (0, .ref (sz + b0)), (1, .int b1), (2, .int b2)]) hx hb dX8_mark_78 hl (k := 3) rfl (by rw [hvv11]; rfl) (by decide) (by first | rfl | simp [rv_cat, cat_i, cat_l, cat_r, cat_n]) (fun ls hl => ?_)
        refine lv_goto (tgt := 44) hx hb dX8_mark_81 (by decide) ?_
        exact ih v11 H locs ls hM (lv_sub hl [1, 2, 3, 0] rfl) h hk
      · replace h := (k_if h).2 c10
        refine lv_iload_n hx hb dX8_mark_56 rfl (lv_at hl 3 rfl) ?_
        refine lv_iload_n hx hb dX8_mark_57 rfl (lv_at hl 1 rfl) ?_
        refine lv_icmp_eq (tgt := 78) hx hb dX8_mark_58 (by decide) (fun c12 => ?_) (fun c12 => ?_)
        · replace h := (k_if h).1 c12
          obtain ⟨v13, hvv13⟩ : ∃ y : Int32, y = a3 + (1) := ⟨_, rfl⟩
          replace h := k_bb h v13 hvv13
          refine lv_iinc (v := v13) (lv' := [(3, .int v13), (0, .ref (sz + b0)), (1, .int b1), (2, .int b2)]) hx hb dX8_mark_78 hl (k := 3) rfl (by rw [hvv13]; rfl) (by decide) (by first | rfl | simp [rv_cat, cat_i, cat_l, cat_r, cat_n]) (fun ls hl => ?_)
          refine lv_goto (tgt := 44) hx hb dX8_mark_81 (by decide) ?_
          exact ih v13 H locs ls hM (lv_sub hl [1, 2, 3, 0] rfl) h hk
        · replace h := (k_if h).2 c12
          refine lv_aload_n hx hb dX8_mark_61 rfl (lv_at hl 0 rfl) ?_
          refine gs_X8_51 E hM ok8 dX8_mark_62 (fun x14 hxx14 => ?_)
          replace h := k_bb h x14 hxx14.symm
          refine lv_iload_n hx hb dX8_mark_65 rfl (lv_at hl 3 rfl) ?_
          rcases x14 with _ | k15
          · cases h
          rw [cs_s] at h
          obtain ⟨ok16, h⟩ := k_gd h
          refine m_iald E hM ok16 dX8_mark_66 ?_
          refine lv_iload_n hx hb dX8_mark_67 rfl (lv_at hl 2 rfl) ?_
          refine lv_icmp_ne (tgt := 78) hx hb dX8_mark_68 (by decide) (fun c17 => ?_) (fun c17 => ?_)
          · replace h := (k_if h).2 c17
            obtain ⟨v18, hvv18⟩ : ∃ y : Int32, y = a3 + (1) := ⟨_, rfl⟩
            replace h := k_bb h v18 hvv18
            refine lv_iinc (v := v18) (lv' := [(3, .int v18), (0, .ref (sz + b0)), (1, .int b1), (2, .int b2)]) hx hb dX8_mark_78 hl (k := 3) rfl (by rw [hvv18]; rfl) (by decide) (by first | rfl | simp [rv_cat, cat_i, cat_l, cat_r, cat_n]) (fun ls hl => ?_)
            refine lv_goto (tgt := 44) hx hb dX8_mark_81 (by decide) ?_
            exact ih v18 H locs ls hM (lv_sub hl [1, 2, 3, 0] rfl) h hk
          · replace h := (k_if h).1 c17
            refine lv_aload_n hx hb dX8_mark_71 rfl (lv_at hl 0 rfl) ?_
            refine lv_bipush (v := 10) hx hb dX8_mark_72 (by decide) ?_
            obtain ⟨w19, hzw19, h⟩ := k_bd h
            refine m_callV (C := RX8) (T := TX8) (N := 33) (ci := 8) (n := 1) (As := [.int (10 : Int32)]) (rest := []) (st1 := (.int w19.1 :: [])) E hM hl.1 ok8 (by decide) rfl rfl (c_X8_no l D cy sz H0 u b0 (10 : Int32) hzw19) wl_X8_100 wm_X8_no ws_X8_no wi_X8 wd_X8_no rfl rfl (by decide +kernel) ⟨by decide, by decide⟩ rfl rfl (by first | exact Nat.le_of_ble_eq_true rfl | simp [rv_cat, cat_i, cat_l, cat_r, cat_n]) dX8_mark_74 ⟨by decide, by decide⟩ rfl (fun H locs hM => ?_)
            obtain ⟨hB20, h⟩ := k_gd h
            cases h
            exact m_zret hx hb hr hlk hM hB20 rfl rfl dX8_mark_77

def f_X8_mark (r : Nat) (p1 : Int32) (p2 : Int32) (u : Mm) : Option ((Int32) × Mm) := gd (okO u r 8) (bd (f_X8_isThing r p1 (sI (sI u r 1 (0 : Int32)) r 0 (0 : Int32))) (fun w2 => (if w2 = 0 then bd (f_X8_no r (2 : Int32) (sI (sI u r 1 (0 : Int32)) r 0 (0 : Int32))) (fun w27 => gd (isB w27.1) (some (w27.1, w27.2))) else (if p2 < (-1 : Int32) then bd (f_X8_no r (5 : Int32) (sI (sI u r 1 (0 : Int32)) r 0 (0 : Int32))) (fun w5 => gd (isB w5.1) (some (w5.1, w5.2))) else (if p2 ≤ (9999 : Int32) then L_X8_mark_44 r p1 p2 (sI (sI u r 1 (0 : Int32)) r 0 (0 : Int32)) (fun a21 => bb (gR (sI (sI u r 1 (0 : Int32)) r 0 (0 : Int32)) r 17) (fun x22 => cs x22 none (fun k23 => gd (okA (sI (sI u r 1 (0 : Int32)) r 0 (0 : Int32)) k23 9 p1) (some ((1 : Int32), (sI (sI (sI u r 1 (0 : Int32)) r 0 (0 : Int32)) k23 (Int32.toNatClampNeg p1) p2)))))) 1000 (0 : Int32)  else bd (f_X8_no r (5 : Int32) (sI (sI u r 1 (0 : Int32)) r 0 (0 : Int32))) (fun w25 => gd (isB w25.1) (some (w25.1, w25.2))))))))
set_option maxHeartbeats 4000000 in
set_option maxRecDepth 100000 in
theorem c_X8_mark (l : Launch) (D : va_G) (cy : Nat → ClassId) (sz : Nat) (H0 : Heap) (u : Mm) (r : Nat) (p1 : Int32) (p2 : Int32) {res : (Int32) × Mm} (h : f_X8_mark r p1 p2 u = some res) : Ctr l yX8_mark cX8_mark 4 (some .boolean) rm_X8_mark 0 0 D cy sz H0 u [.ref (sz + r), .int p1, .int p2] (some (.int res.1)) res.2 := by
  refine m_start (lv := [(0, .ref (sz + r)), (1, .int p1), (2, .int p2)]) (by decide) (by first | exact Nat.le_of_ble_eq_true rfl | simp [lg_sl, rv_cat, cat_i, cat_l, cat_r, cat_n]) (by first | rfl | simp [lv_args, rv_cat, cat_i, cat_l, cat_r, cat_n]) ?_
  intro p e s m below meth c ls E hr hlk hinit hM hl
  obtain ⟨hx, hb, hml, hown, hts, hKK⟩ := id E
  obtain ⟨H, hH⟩ : ∃ H, H = s.heap := ⟨_, rfl⟩
  obtain ⟨locs, hlocs⟩ : ∃ L : List Loc, L = [] := ⟨_, rfl⟩
  rw [← hH, ← hlocs] at hM ⊢
  unfold f_X8_mark at h
  refine lv_aload_n hx hb dX8_mark_0 rfl (lv_at hl 0 rfl) ?_
  refine lv_iconst (v := 0) hx hb dX8_mark_1 (by decide) ?_
  obtain ⟨ok1, h⟩ := k_gd h
  refine ps_X8_93 (v := (0 : Int32)) E hM ok1 dX8_mark_2 (fun H locs hM => ?_)
  refine lv_aload_n hx hb dX8_mark_5 rfl (lv_at hl 0 rfl) ?_
  refine lv_iconst (v := 0) hx hb dX8_mark_6 (by decide) ?_
  refine ps_X8_97 (v := (0 : Int32)) E hM ok1 dX8_mark_7 (fun H locs hM => ?_)
  refine lv_aload_n hx hb dX8_mark_10 rfl (lv_at hl 0 rfl) ?_
  refine lv_iload_n hx hb dX8_mark_11 rfl (lv_at hl 1 rfl) ?_
  obtain ⟨w2, hzw2, h⟩ := k_bd h
  refine m_callV (C := RX8) (T := TX8) (N := 33) (ci := 8) (n := 1) (As := [.int p1]) (rest := []) (st1 := (.int w2 :: [])) E hM hl.1 ok1 (by decide) rfl rfl (c_X8_isThing l D cy sz H0 (sI (sI u r 1 (0 : Int32)) r 0 (0 : Int32)) r p1 hzw2) wl_X8_124 wm_X8_isThing ws_X8_isThing wi_X8 wd_X8_isThing rfl rfl (by decide +kernel) ⟨by decide, by decide⟩ rfl rfl (by first | exact Nat.le_of_ble_eq_true rfl | simp [rv_cat, cat_i, cat_l, cat_r, cat_n]) dX8_mark_12 ⟨by decide, by decide⟩ rfl (fun H locs hM => ?_)
  refine lv_if_ne (tgt := 24) hx hb dX8_mark_15 (by decide) (fun c3 => ?_) (fun c3 => ?_)
  · replace h := (k_if h).2 c3
    refine lv_iload_n hx hb dX8_mark_24 rfl (lv_at hl 2 rfl) ?_
    refine lv_iconst (v := (-1)) hx hb dX8_mark_25 (by decide) ?_
    refine lv_icmp_lt (tgt := 36) hx hb dX8_mark_26 (by decide) (fun c4 => ?_) (fun c4 => ?_)
    · replace h := (k_if h).1 c4
      refine lv_aload_n hx hb dX8_mark_36 rfl (lv_at hl 0 rfl) ?_
      refine lv_iconst (v := 5) hx hb dX8_mark_37 (by decide) ?_
      obtain ⟨w5, hzw5, h⟩ := k_bd h
      refine m_callV (C := RX8) (T := TX8) (N := 33) (ci := 8) (n := 1) (As := [.int (5 : Int32)]) (rest := []) (st1 := (.int w5.1 :: [])) E hM hl.1 ok1 (by decide) rfl rfl (c_X8_no l D cy sz H0 (sI (sI u r 1 (0 : Int32)) r 0 (0 : Int32)) r (5 : Int32) hzw5) wl_X8_100 wm_X8_no ws_X8_no wi_X8 wd_X8_no rfl rfl (by decide +kernel) ⟨by decide, by decide⟩ rfl rfl (by first | exact Nat.le_of_ble_eq_true rfl | simp [rv_cat, cat_i, cat_l, cat_r, cat_n]) dX8_mark_38 ⟨by decide, by decide⟩ rfl (fun H locs hM => ?_)
      obtain ⟨hB6, h⟩ := k_gd h
      cases h
      exact m_zret hx hb hr hlk hM hB6 rfl rfl dX8_mark_41
    · replace h := (k_if h).2 c4
      refine lv_iload_n hx hb dX8_mark_29 rfl (lv_at hl 2 rfl) ?_
      refine lv_sipush (v := 9999) hx hb dX8_mark_30 (by decide) ?_
      refine lv_icmp_le (tgt := 42) hx hb dX8_mark_33 (by decide) (fun c7 => ?_) (fun c7 => ?_)
      · replace h := (k_if h).1 c7
        refine lv_iconst (v := 0) hx hb dX8_mark_42 (by decide) ?_
        refine lv_istore_n (i := 3) (lv' := [(3, .int (0 : Int32)), (0, .ref (sz + r)), (1, .int p1), (2, .int p2)]) hx hb dX8_mark_43 rfl hl (by decide) (by first | rfl | simp [rv_cat, cat_i, cat_l, cat_r, cat_n]) (fun ls hl => ?_)
        refine lp_X8_mark_44 hr hlk  E 1000 (0 : Int32) H locs ls hM (lv_sub hl [1, 2, 3, 0] rfl) h (fun a21 H locs ls hM hl h => ?_)
        refine lv_aload_n hx hb dX8_mark_84 rfl (lv_at hl 0 rfl) ?_
        refine gs_X8_51 E hM ok1 dX8_mark_85 (fun x22 hxx22 => ?_)
        replace h := k_bb h x22 hxx22.symm
        refine lv_iload_n hx hb dX8_mark_88 rfl (lv_at hl 1 rfl) ?_
        refine lv_iload_n hx hb dX8_mark_89 rfl (lv_at hl 2 rfl) ?_
        rcases x22 with _ | k23
        · cases h
        rw [cs_s] at h
        obtain ⟨ok24, h⟩ := k_gd h
        refine m_iast E hM ok24 dX8_mark_90 (fun H locs hM => ?_)
        refine lv_iconst (v := 1) hx hb dX8_mark_91 (by decide) ?_
        cases h
        exact m_zret hx hb hr hlk hM (by decide) rfl rfl dX8_mark_92
      · replace h := (k_if h).2 c7
        refine lv_aload_n hx hb dX8_mark_36 rfl (lv_at hl 0 rfl) ?_
        refine lv_iconst (v := 5) hx hb dX8_mark_37 (by decide) ?_
        obtain ⟨w25, hzw25, h⟩ := k_bd h
        refine m_callV (C := RX8) (T := TX8) (N := 33) (ci := 8) (n := 1) (As := [.int (5 : Int32)]) (rest := []) (st1 := (.int w25.1 :: [])) E hM hl.1 ok1 (by decide) rfl rfl (c_X8_no l D cy sz H0 (sI (sI u r 1 (0 : Int32)) r 0 (0 : Int32)) r (5 : Int32) hzw25) wl_X8_100 wm_X8_no ws_X8_no wi_X8 wd_X8_no rfl rfl (by decide +kernel) ⟨by decide, by decide⟩ rfl rfl (by first | exact Nat.le_of_ble_eq_true rfl | simp [rv_cat, cat_i, cat_l, cat_r, cat_n]) dX8_mark_38 ⟨by decide, by decide⟩ rfl (fun H locs hM => ?_)
        obtain ⟨hB26, h⟩ := k_gd h
        cases h
        exact m_zret hx hb hr hlk hM hB26 rfl rfl dX8_mark_41
  · replace h := (k_if h).1 c3
    refine lv_aload_n hx hb dX8_mark_18 rfl (lv_at hl 0 rfl) ?_
    refine lv_iconst (v := 2) hx hb dX8_mark_19 (by decide) ?_
    obtain ⟨w27, hzw27, h⟩ := k_bd h
    refine m_callV (C := RX8) (T := TX8) (N := 33) (ci := 8) (n := 1) (As := [.int (2 : Int32)]) (rest := []) (st1 := (.int w27.1 :: [])) E hM hl.1 ok1 (by decide) rfl rfl (c_X8_no l D cy sz H0 (sI (sI u r 1 (0 : Int32)) r 0 (0 : Int32)) r (2 : Int32) hzw27) wl_X8_100 wm_X8_no ws_X8_no wi_X8 wd_X8_no rfl rfl (by decide +kernel) ⟨by decide, by decide⟩ rfl rfl (by first | exact Nat.le_of_ble_eq_true rfl | simp [rv_cat, cat_i, cat_l, cat_r, cat_n]) dX8_mark_20 ⟨by decide, by decide⟩ rfl (fun H locs hM => ?_)
    obtain ⟨hB28, h⟩ := k_gd h
    cases h
    exact m_zret hx hb hr hlk hM hB28 rfl rfl dX8_mark_23

abbrev rm_X8_walk : Room := { frames := 1, cells := 0, slots := 0, locals := 36 }
def L_X8_walk_58 (b0 : Nat) (b1 : Int32) (b2 : Int32) (b3 : Int32) (b4 : Int32) (b5 : Int32) (u : Mm) (k : Int32 → Int32 → Option ((Int32) × Mm)) : Nat → Int32 → Int32 → Option ((Int32) × Mm)
  | 0, _, _ => none
  | n + 1, a6, a7 => gd (okO u b0 8) ((if (gI u b0 7) ≤ a7 then k a6 a7 else bb (gR u b0 17) (fun x11 => cs x11 none (fun k12 => gd (okA u k12 9 a7) ((if (gI u k12 (Int32.toNatClampNeg a7)) < 0 then bb (a7 + (1)) (fun v15 => L_X8_walk_58 b0 b1 b2 b3 b4 b5 u k n a6 v15) else (if b4 < 0 then (if a6 < 0 then bd (f_X8_seesOf b0 a7 b2 b3 u) (fun w18 => (if w18 = 0 then bb (a7 + (1)) (fun v20 => L_X8_walk_58 b0 b1 b2 b3 b4 b5 u k n a6 v20) else bb (a7 + (1)) (fun v21 => L_X8_walk_58 b0 b1 b2 b3 b4 b5 u k n a7 v21))) else bb (gR u b0 17) (fun x22 => cs x22 none (fun k23 => gd (okA u k23 9 a7) (bb (gR u b0 17) (fun x25 => cs x25 none (fun k26 => gd (okA u k26 9 a6) ((if (gI u k26 (Int32.toNatClampNeg a6)) ≤ (gI u k23 (Int32.toNatClampNeg a7)) then bb (a7 + (1)) (fun v29 => L_X8_walk_58 b0 b1 b2 b3 b4 b5 u k n a6 v29) else bd (f_X8_seesOf b0 a7 b2 b3 u) (fun w30 => (if w30 = 0 then bb (a7 + (1)) (fun v32 => L_X8_walk_58 b0 b1 b2 b3 b4 b5 u k n a6 v32) else bb (a7 + (1)) (fun v33 => L_X8_walk_58 b0 b1 b2 b3 b4 b5 u k n a7 v33))))))))))) else bb (gR u b0 17) (fun x34 => cs x34 none (fun k35 => gd (okA u k35 9 a7) (bb (gR u b0 17) (fun x37 => cs x37 none (fun k38 => gd (okA u k38 9 b4) ((if (gI u k35 (Int32.toNatClampNeg a7)) ≤ (gI u k38 (Int32.toNatClampNeg b4)) then bb (a7 + (1)) (fun v41 => L_X8_walk_58 b0 b1 b2 b3 b4 b5 u k n a6 v41) else (if a6 < 0 then bd (f_X8_seesOf b0 a7 b2 b3 u) (fun w43 => (if w43 = 0 then bb (a7 + (1)) (fun v45 => L_X8_walk_58 b0 b1 b2 b3 b4 b5 u k n a6 v45) else bb (a7 + (1)) (fun v46 => L_X8_walk_58 b0 b1 b2 b3 b4 b5 u k n a7 v46))) else bb (gR u b0 17) (fun x47 => cs x47 none (fun k48 => gd (okA u k48 9 a7) (bb (gR u b0 17) (fun x50 => cs x50 none (fun k51 => gd (okA u k51 9 a6) ((if (gI u k51 (Int32.toNatClampNeg a6)) ≤ (gI u k48 (Int32.toNatClampNeg a7)) then bb (a7 + (1)) (fun v54 => L_X8_walk_58 b0 b1 b2 b3 b4 b5 u k n a6 v54) else bd (f_X8_seesOf b0 a7 b2 b3 u) (fun w55 => (if w55 = 0 then bb (a7 + (1)) (fun v57 => L_X8_walk_58 b0 b1 b2 b3 b4 b5 u k n a6 v57) else bb (a7 + (1)) (fun v58 => L_X8_walk_58 b0 b1 b2 b3 b4 b5 u k n a7 v58)))))))))))))))))))))))))
set_option maxHeartbeats 4000000 in
set_option maxRecDepth 100000 in
theorem lp_X8_walk_58 {p : Program} {l : Launch} {e : Env} {s : State} {m : MethodId} {args : Array Value} {below : List Frame} {meth : Method} {c : Code} {D : va_G} {cy : Nat → ClassId} {sz : Nat} {H0 : Heap} {b0 : Nat} {b1 : Int32} {b2 : Int32} {b3 : Int32} {b4 : Int32} {b5 : Int32} {u : Mm} {k : Int32 → Int32 → Option ((Int32) × Mm)} {res : (Int32) × Mm} (hr : meth.sig.returnType = (some .int)) (hlk : meth.locks = false) (E : EE p s m args c cX8_walk 8 RX8 D cy) : ∀ (n : Nat) (a6 : Int32) (a7 : Int32) (H : Heap) (locs : List Loc) (ls : Array Slot), MM D cy sz H0 u H locs → lv_has ls 8 [(0, .ref (sz + b0)), (1, .int b1), (2, .int b2), (3, .int b3), (4, .int b4), (5, .int b5), (6, .int a6), (7, .int a7)] → L_X8_walk_58 b0 b1 b2 b3 b4 b5 u k n a6 a7 = some res → (∀ (a6 : Int32) (a7 : Int32) (H : Heap) (locs : List Loc) (ls : Array Slot), MM D cy sz H0 u H locs → lv_has ls 8 [(0, .ref (sz + b0)), (1, .int b1), (2, .int b2), (3, .int b3), (4, .int b4), (5, .int b5), (6, .int a6), (7, .int a7)] → k a6 a7 = some res → W p l e rm_X8_walk s m args below meth c H locs 0 0 (MQ below (Post D cy sz H0 (some (.int res.1)) res.2) args s 0 0 (fun q => sz ≤ q)) (F0 m 142 ls [])) → W p l e rm_X8_walk s m args below meth c H locs 0 0 (MQ below (Post D cy sz H0 (some (.int res.1)) res.2) args s 0 0 (fun q => sz ≤ q)) (F0 m 58 ls []) := by
  obtain ⟨hx, hb, hml, hown, hts, hKK⟩ := id E
  intro n
  induction n with
  | zero => intros; rename_i h _; cases h
  | succ n ih =>
    intro a6 a7 H locs ls hM hl h hk
    rw [L_X8_walk_58] at h
    refine lv_iload hx hb dX8_walk_58 (lv_at hl 7 rfl) ?_
    refine lv_aload_n hx hb dX8_walk_60 rfl (lv_at hl 0 rfl) ?_
    obtain ⟨ok9, h⟩ := k_gd h
    refine gs_X8_118 E hM ok9 dX8_walk_61 ?_
    refine lv_icmp_ge (tgt := 142) hx hb dX8_walk_64 (by decide) (fun c10 => ?_) (fun c10 => ?_)
    · replace h := (k_if h).1 c10
      exact hk a6 a7 H locs ls hM (lv_sub hl [0, 1, 2, 3, 4, 5, 6, 7] rfl) h
    · replace h := (k_if h).2 c10
      refine lv_aload_n hx hb dX8_walk_67 rfl (lv_at hl 0 rfl) ?_
      refine gs_X8_51 E hM ok9 dX8_walk_68 (fun x11 hxx11 => ?_)
      replace h := k_bb h x11 hxx11.symm
      refine lv_iload hx hb dX8_walk_71 (lv_at hl 7 rfl) ?_
      rcases x11 with _ | k12
      · cases h
      rw [cs_s] at h
      obtain ⟨ok13, h⟩ := k_gd h
      refine m_iald E hM ok13 dX8_walk_73 ?_
      refine lv_if_lt (tgt := 136) hx hb dX8_walk_74 (by decide) (fun c14 => ?_) (fun c14 => ?_)
      · replace h := (k_if h).1 c14
        obtain ⟨v15, hvv15⟩ : ∃ y : Int32, y = a7 + (1) := ⟨_, rfl⟩
        replace h := k_bb h v15 hvv15
        refine lv_iinc (v := v15) (lv' := [(7, .int v15), (0, .ref (sz + b0)), (1, .int b1), (2, .int b2), (3, .int b3), (4, .int b4), (5, .int b5), (6, .int a6)]) hx hb dX8_walk_136 hl (k := 7) rfl (by rw [hvv15]; rfl) (by decide) (by first | rfl | simp [rv_cat, cat_i, cat_l, cat_r, cat_n]) (fun ls hl => ?_)
        refine lv_goto (tgt := 58) hx hb dX8_walk_139 (by decide) ?_
        exact ih a6 v15 H locs ls hM (lv_sub hl [1, 2, 3, 4, 5, 6, 7, 0] rfl) h hk
      · replace h := (k_if h).2 c14
        refine lv_iload hx hb dX8_walk_77 (lv_at hl 4 rfl) ?_
        refine lv_if_lt (tgt := 99) hx hb dX8_walk_79 (by decide) (fun c16 => ?_) (fun c16 => ?_)
        · replace h := (k_if h).1 c16
          refine lv_iload hx hb dX8_walk_99 (lv_at hl 6 rfl) ?_
          refine lv_if_lt (tgt := 121) hx hb dX8_walk_101 (by decide) (fun c17 => ?_) (fun c17 => ?_)
          · replace h := (k_if h).1 c17
            refine lv_aload_n hx hb dX8_walk_121 rfl (lv_at hl 0 rfl) ?_
            refine lv_iload hx hb dX8_walk_122 (lv_at hl 7 rfl) ?_
            refine lv_iload_n hx hb dX8_walk_124 rfl (lv_at hl 2 rfl) ?_
            refine lv_iload_n hx hb dX8_walk_125 rfl (lv_at hl 3 rfl) ?_
            obtain ⟨w18, hzw18, h⟩ := k_bd h
            refine m_callV (C := RX8) (T := TX8) (N := 33) (ci := 8) (n := 3) (As := [.int a7, .int b2, .int b3]) (rest := []) (st1 := (.int w18 :: [])) E hM hl.1 ok9 (by decide) rfl rfl (c_X8_seesOf l D cy sz H0 u b0 a7 b2 b3 hzw18) wl_X8_154 wm_X8_seesOf ws_X8_seesOf wi_X8 wd_X8_seesOf rfl rfl (by decide +kernel) ⟨by decide, by decide⟩ rfl rfl (by first | exact Nat.le_of_ble_eq_true rfl | simp [rv_cat, cat_i, cat_l, cat_r, cat_n]) dX8_walk_126 ⟨by decide, by decide⟩ rfl (fun H locs hM => ?_)
            refine lv_if_eq (tgt := 136) hx hb dX8_walk_129 (by decide) (fun c19 => ?_) (fun c19 => ?_)
            · replace h := (k_if h).1 c19
              obtain ⟨v20, hvv20⟩ : ∃ y : Int32, y = a7 + (1) := ⟨_, rfl⟩
              replace h := k_bb h v20 hvv20
              refine lv_iinc (v := v20) (lv' := [(7, .int v20), (0, .ref (sz + b0)), (1, .int b1), (2, .int b2), (3, .int b3), (4, .int b4), (5, .int b5), (6, .int a6)]) hx hb dX8_walk_136 hl (k := 7) rfl (by rw [hvv20]; rfl) (by decide) (by first | rfl | simp [rv_cat, cat_i, cat_l, cat_r, cat_n]) (fun ls hl => ?_)
              refine lv_goto (tgt := 58) hx hb dX8_walk_139 (by decide) ?_
              exact ih a6 v20 H locs ls hM (lv_sub hl [1, 2, 3, 4, 5, 6, 7, 0] rfl) h hk
            · replace h := (k_if h).2 c19
              refine lv_iload hx hb dX8_walk_132 (lv_at hl 7 rfl) ?_
              refine lv_istore (i := 6) (lv' := [(6, .int a7), (0, .ref (sz + b0)), (1, .int b1), (2, .int b2), (3, .int b3), (4, .int b4), (5, .int b5), (7, .int a7)]) hx hb dX8_walk_134 hl (by decide) (by first | rfl | simp [rv_cat, cat_i, cat_l, cat_r, cat_n]) (fun ls hl => ?_)
              obtain ⟨v21, hvv21⟩ : ∃ y : Int32, y = a7 + (1) := ⟨_, rfl⟩
              replace h := k_bb h v21 hvv21
              refine lv_iinc (v := v21) (lv' := [(7, .int v21), (6, .int a7), (0, .ref (sz + b0)), (1, .int b1), (2, .int b2), (3, .int b3), (4, .int b4), (5, .int b5)]) hx hb dX8_walk_136 hl (k := 7) rfl (by rw [hvv21]; rfl) (by decide) (by first | rfl | simp [rv_cat, cat_i, cat_l, cat_r, cat_n]) (fun ls hl => ?_)
              refine lv_goto (tgt := 58) hx hb dX8_walk_139 (by decide) ?_
              exact ih a7 v21 H locs ls hM (lv_sub hl [2, 3, 4, 5, 6, 7, 1, 0] rfl) h hk
          · replace h := (k_if h).2 c17
            refine lv_aload_n hx hb dX8_walk_104 rfl (lv_at hl 0 rfl) ?_
            refine gs_X8_51 E hM ok9 dX8_walk_105 (fun x22 hxx22 => ?_)
            replace h := k_bb h x22 hxx22.symm
            refine lv_iload hx hb dX8_walk_108 (lv_at hl 7 rfl) ?_
            rcases x22 with _ | k23
            · cases h
            rw [cs_s] at h
            obtain ⟨ok24, h⟩ := k_gd h
            refine m_iald E hM ok24 dX8_walk_110 ?_
            refine lv_aload_n hx hb dX8_walk_111 rfl (lv_at hl 0 rfl) ?_
            refine gs_X8_51 E hM ok9 dX8_walk_112 (fun x25 hxx25 => ?_)
            replace h := k_bb h x25 hxx25.symm
            refine lv_iload hx hb dX8_walk_115 (lv_at hl 6 rfl) ?_
            rcases x25 with _ | k26
            · cases h
            rw [cs_s] at h
            obtain ⟨ok27, h⟩ := k_gd h
            refine m_iald E hM ok27 dX8_walk_117 ?_
            refine lv_icmp_ge (tgt := 136) hx hb dX8_walk_118 (by decide) (fun c28 => ?_) (fun c28 => ?_)
            · replace h := (k_if h).1 c28
              obtain ⟨v29, hvv29⟩ : ∃ y : Int32, y = a7 + (1) := ⟨_, rfl⟩
              replace h := k_bb h v29 hvv29
              refine lv_iinc (v := v29) (lv' := [(7, .int v29), (0, .ref (sz + b0)), (1, .int b1), (2, .int b2), (3, .int b3), (4, .int b4), (5, .int b5), (6, .int a6)]) hx hb dX8_walk_136 hl (k := 7) rfl (by rw [hvv29]; rfl) (by decide) (by first | rfl | simp [rv_cat, cat_i, cat_l, cat_r, cat_n]) (fun ls hl => ?_)
              refine lv_goto (tgt := 58) hx hb dX8_walk_139 (by decide) ?_
              exact ih a6 v29 H locs ls hM (lv_sub hl [1, 2, 3, 4, 5, 6, 7, 0] rfl) h hk
            · replace h := (k_if h).2 c28
              refine lv_aload_n hx hb dX8_walk_121 rfl (lv_at hl 0 rfl) ?_
              refine lv_iload hx hb dX8_walk_122 (lv_at hl 7 rfl) ?_
              refine lv_iload_n hx hb dX8_walk_124 rfl (lv_at hl 2 rfl) ?_
              refine lv_iload_n hx hb dX8_walk_125 rfl (lv_at hl 3 rfl) ?_
              obtain ⟨w30, hzw30, h⟩ := k_bd h
              refine m_callV (C := RX8) (T := TX8) (N := 33) (ci := 8) (n := 3) (As := [.int a7, .int b2, .int b3]) (rest := []) (st1 := (.int w30 :: [])) E hM hl.1 ok9 (by decide) rfl rfl (c_X8_seesOf l D cy sz H0 u b0 a7 b2 b3 hzw30) wl_X8_154 wm_X8_seesOf ws_X8_seesOf wi_X8 wd_X8_seesOf rfl rfl (by decide +kernel) ⟨by decide, by decide⟩ rfl rfl (by first | exact Nat.le_of_ble_eq_true rfl | simp [rv_cat, cat_i, cat_l, cat_r, cat_n]) dX8_walk_126 ⟨by decide, by decide⟩ rfl (fun H locs hM => ?_)
              refine lv_if_eq (tgt := 136) hx hb dX8_walk_129 (by decide) (fun c31 => ?_) (fun c31 => ?_)
              · replace h := (k_if h).1 c31
                obtain ⟨v32, hvv32⟩ : ∃ y : Int32, y = a7 + (1) := ⟨_, rfl⟩
                replace h := k_bb h v32 hvv32
                refine lv_iinc (v := v32) (lv' := [(7, .int v32), (0, .ref (sz + b0)), (1, .int b1), (2, .int b2), (3, .int b3), (4, .int b4), (5, .int b5), (6, .int a6)]) hx hb dX8_walk_136 hl (k := 7) rfl (by rw [hvv32]; rfl) (by decide) (by first | rfl | simp [rv_cat, cat_i, cat_l, cat_r, cat_n]) (fun ls hl => ?_)
                refine lv_goto (tgt := 58) hx hb dX8_walk_139 (by decide) ?_
                exact ih a6 v32 H locs ls hM (lv_sub hl [1, 2, 3, 4, 5, 6, 7, 0] rfl) h hk
              · replace h := (k_if h).2 c31
                refine lv_iload hx hb dX8_walk_132 (lv_at hl 7 rfl) ?_
                refine lv_istore (i := 6) (lv' := [(6, .int a7), (0, .ref (sz + b0)), (1, .int b1), (2, .int b2), (3, .int b3), (4, .int b4), (5, .int b5), (7, .int a7)]) hx hb dX8_walk_134 hl (by decide) (by first | rfl | simp [rv_cat, cat_i, cat_l, cat_r, cat_n]) (fun ls hl => ?_)
                obtain ⟨v33, hvv33⟩ : ∃ y : Int32, y = a7 + (1) := ⟨_, rfl⟩
                replace h := k_bb h v33 hvv33
                refine lv_iinc (v := v33) (lv' := [(7, .int v33), (6, .int a7), (0, .ref (sz + b0)), (1, .int b1), (2, .int b2), (3, .int b3), (4, .int b4), (5, .int b5)]) hx hb dX8_walk_136 hl (k := 7) rfl (by rw [hvv33]; rfl) (by decide) (by first | rfl | simp [rv_cat, cat_i, cat_l, cat_r, cat_n]) (fun ls hl => ?_)
                refine lv_goto (tgt := 58) hx hb dX8_walk_139 (by decide) ?_
                exact ih a7 v33 H locs ls hM (lv_sub hl [2, 3, 4, 5, 6, 7, 1, 0] rfl) h hk
        · replace h := (k_if h).2 c16
          refine lv_aload_n hx hb dX8_walk_82 rfl (lv_at hl 0 rfl) ?_
          refine gs_X8_51 E hM ok9 dX8_walk_83 (fun x34 hxx34 => ?_)
          replace h := k_bb h x34 hxx34.symm
          refine lv_iload hx hb dX8_walk_86 (lv_at hl 7 rfl) ?_
          rcases x34 with _ | k35
          · cases h
          rw [cs_s] at h
          obtain ⟨ok36, h⟩ := k_gd h
          refine m_iald E hM ok36 dX8_walk_88 ?_
          refine lv_aload_n hx hb dX8_walk_89 rfl (lv_at hl 0 rfl) ?_
          refine gs_X8_51 E hM ok9 dX8_walk_90 (fun x37 hxx37 => ?_)
          replace h := k_bb h x37 hxx37.symm
          refine lv_iload hx hb dX8_walk_93 (lv_at hl 4 rfl) ?_
          rcases x37 with _ | k38
          · cases h
          rw [cs_s] at h
          obtain ⟨ok39, h⟩ := k_gd h
          refine m_iald E hM ok39 dX8_walk_95 ?_
          refine lv_icmp_le (tgt := 136) hx hb dX8_walk_96 (by decide) (fun c40 => ?_) (fun c40 => ?_)
          · replace h := (k_if h).1 c40
            obtain ⟨v41, hvv41⟩ : ∃ y : Int32, y = a7 + (1) := ⟨_, rfl⟩
            replace h := k_bb h v41 hvv41
            refine lv_iinc (v := v41) (lv' := [(7, .int v41), (0, .ref (sz + b0)), (1, .int b1), (2, .int b2), (3, .int b3), (4, .int b4), (5, .int b5), (6, .int a6)]) hx hb dX8_walk_136 hl (k := 7) rfl (by rw [hvv41]; rfl) (by decide) (by first | rfl | simp [rv_cat, cat_i, cat_l, cat_r, cat_n]) (fun ls hl => ?_)
            refine lv_goto (tgt := 58) hx hb dX8_walk_139 (by decide) ?_
            exact ih a6 v41 H locs ls hM (lv_sub hl [1, 2, 3, 4, 5, 6, 7, 0] rfl) h hk
          · replace h := (k_if h).2 c40
            refine lv_iload hx hb dX8_walk_99 (lv_at hl 6 rfl) ?_
            refine lv_if_lt (tgt := 121) hx hb dX8_walk_101 (by decide) (fun c42 => ?_) (fun c42 => ?_)
            · replace h := (k_if h).1 c42
              refine lv_aload_n hx hb dX8_walk_121 rfl (lv_at hl 0 rfl) ?_
              refine lv_iload hx hb dX8_walk_122 (lv_at hl 7 rfl) ?_
              refine lv_iload_n hx hb dX8_walk_124 rfl (lv_at hl 2 rfl) ?_
              refine lv_iload_n hx hb dX8_walk_125 rfl (lv_at hl 3 rfl) ?_
              obtain ⟨w43, hzw43, h⟩ := k_bd h
              refine m_callV (C := RX8) (T := TX8) (N := 33) (ci := 8) (n := 3) (As := [.int a7, .int b2, .int b3]) (rest := []) (st1 := (.int w43 :: [])) E hM hl.1 ok9 (by decide) rfl rfl (c_X8_seesOf l D cy sz H0 u b0 a7 b2 b3 hzw43) wl_X8_154 wm_X8_seesOf ws_X8_seesOf wi_X8 wd_X8_seesOf rfl rfl (by decide +kernel) ⟨by decide, by decide⟩ rfl rfl (by first | exact Nat.le_of_ble_eq_true rfl | simp [rv_cat, cat_i, cat_l, cat_r, cat_n]) dX8_walk_126 ⟨by decide, by decide⟩ rfl (fun H locs hM => ?_)
              refine lv_if_eq (tgt := 136) hx hb dX8_walk_129 (by decide) (fun c44 => ?_) (fun c44 => ?_)
              · replace h := (k_if h).1 c44
                obtain ⟨v45, hvv45⟩ : ∃ y : Int32, y = a7 + (1) := ⟨_, rfl⟩
                replace h := k_bb h v45 hvv45
                refine lv_iinc (v := v45) (lv' := [(7, .int v45), (0, .ref (sz + b0)), (1, .int b1), (2, .int b2), (3, .int b3), (4, .int b4), (5, .int b5), (6, .int a6)]) hx hb dX8_walk_136 hl (k := 7) rfl (by rw [hvv45]; rfl) (by decide) (by first | rfl | simp [rv_cat, cat_i, cat_l, cat_r, cat_n]) (fun ls hl => ?_)
                refine lv_goto (tgt := 58) hx hb dX8_walk_139 (by decide) ?_
                exact ih a6 v45 H locs ls hM (lv_sub hl [1, 2, 3, 4, 5, 6, 7, 0] rfl) h hk
              · replace h := (k_if h).2 c44
                refine lv_iload hx hb dX8_walk_132 (lv_at hl 7 rfl) ?_
                refine lv_istore (i := 6) (lv' := [(6, .int a7), (0, .ref (sz + b0)), (1, .int b1), (2, .int b2), (3, .int b3), (4, .int b4), (5, .int b5), (7, .int a7)]) hx hb dX8_walk_134 hl (by decide) (by first | rfl | simp [rv_cat, cat_i, cat_l, cat_r, cat_n]) (fun ls hl => ?_)
                obtain ⟨v46, hvv46⟩ : ∃ y : Int32, y = a7 + (1) := ⟨_, rfl⟩
                replace h := k_bb h v46 hvv46
                refine lv_iinc (v := v46) (lv' := [(7, .int v46), (6, .int a7), (0, .ref (sz + b0)), (1, .int b1), (2, .int b2), (3, .int b3), (4, .int b4), (5, .int b5)]) hx hb dX8_walk_136 hl (k := 7) rfl (by rw [hvv46]; rfl) (by decide) (by first | rfl | simp [rv_cat, cat_i, cat_l, cat_r, cat_n]) (fun ls hl => ?_)
                refine lv_goto (tgt := 58) hx hb dX8_walk_139 (by decide) ?_
                exact ih a7 v46 H locs ls hM (lv_sub hl [2, 3, 4, 5, 6, 7, 1, 0] rfl) h hk
            · replace h := (k_if h).2 c42
              refine lv_aload_n hx hb dX8_walk_104 rfl (lv_at hl 0 rfl) ?_
              refine gs_X8_51 E hM ok9 dX8_walk_105 (fun x47 hxx47 => ?_)
              replace h := k_bb h x47 hxx47.symm
              refine lv_iload hx hb dX8_walk_108 (lv_at hl 7 rfl) ?_
              rcases x47 with _ | k48
              · cases h
              rw [cs_s] at h
              obtain ⟨ok49, h⟩ := k_gd h
              refine m_iald E hM ok49 dX8_walk_110 ?_
              refine lv_aload_n hx hb dX8_walk_111 rfl (lv_at hl 0 rfl) ?_
              refine gs_X8_51 E hM ok9 dX8_walk_112 (fun x50 hxx50 => ?_)
              replace h := k_bb h x50 hxx50.symm
              refine lv_iload hx hb dX8_walk_115 (lv_at hl 6 rfl) ?_
              rcases x50 with _ | k51
              · cases h
              rw [cs_s] at h
              obtain ⟨ok52, h⟩ := k_gd h
              refine m_iald E hM ok52 dX8_walk_117 ?_
              refine lv_icmp_ge (tgt := 136) hx hb dX8_walk_118 (by decide) (fun c53 => ?_) (fun c53 => ?_)
              · replace h := (k_if h).1 c53
                obtain ⟨v54, hvv54⟩ : ∃ y : Int32, y = a7 + (1) := ⟨_, rfl⟩
                replace h := k_bb h v54 hvv54
                refine lv_iinc (v := v54) (lv' := [(7, .int v54), (0, .ref (sz + b0)), (1, .int b1), (2, .int b2), (3, .int b3), (4, .int b4), (5, .int b5), (6, .int a6)]) hx hb dX8_walk_136 hl (k := 7) rfl (by rw [hvv54]; rfl) (by decide) (by first | rfl | simp [rv_cat, cat_i, cat_l, cat_r, cat_n]) (fun ls hl => ?_)
                refine lv_goto (tgt := 58) hx hb dX8_walk_139 (by decide) ?_
                exact ih a6 v54 H locs ls hM (lv_sub hl [1, 2, 3, 4, 5, 6, 7, 0] rfl) h hk
              · replace h := (k_if h).2 c53
                refine lv_aload_n hx hb dX8_walk_121 rfl (lv_at hl 0 rfl) ?_
                refine lv_iload hx hb dX8_walk_122 (lv_at hl 7 rfl) ?_
                refine lv_iload_n hx hb dX8_walk_124 rfl (lv_at hl 2 rfl) ?_
                refine lv_iload_n hx hb dX8_walk_125 rfl (lv_at hl 3 rfl) ?_
                obtain ⟨w55, hzw55, h⟩ := k_bd h
                refine m_callV (C := RX8) (T := TX8) (N := 33) (ci := 8) (n := 3) (As := [.int a7, .int b2, .int b3]) (rest := []) (st1 := (.int w55 :: [])) E hM hl.1 ok9 (by decide) rfl rfl (c_X8_seesOf l D cy sz H0 u b0 a7 b2 b3 hzw55) wl_X8_154 wm_X8_seesOf ws_X8_seesOf wi_X8 wd_X8_seesOf rfl rfl (by decide +kernel) ⟨by decide, by decide⟩ rfl rfl (by first | exact Nat.le_of_ble_eq_true rfl | simp [rv_cat, cat_i, cat_l, cat_r, cat_n]) dX8_walk_126 ⟨by decide, by decide⟩ rfl (fun H locs hM => ?_)
                refine lv_if_eq (tgt := 136) hx hb dX8_walk_129 (by decide) (fun c56 => ?_) (fun c56 => ?_)
                · replace h := (k_if h).1 c56
                  obtain ⟨v57, hvv57⟩ : ∃ y : Int32, y = a7 + (1) := ⟨_, rfl⟩
                  replace h := k_bb h v57 hvv57
                  refine lv_iinc (v := v57) (lv' := [(7, .int v57), (0, .ref (sz + b0)), (1, .int b1), (2, .int b2), (3, .int b3), (4, .int b4), (5, .int b5), (6, .int a6)]) hx hb dX8_walk_136 hl (k := 7) rfl (by rw [hvv57]; rfl) (by decide) (by first | rfl | simp [rv_cat, cat_i, cat_l, cat_r, cat_n]) (fun ls hl => ?_)
                  refine lv_goto (tgt := 58) hx hb dX8_walk_139 (by decide) ?_
                  exact ih a6 v57 H locs ls hM (lv_sub hl [1, 2, 3, 4, 5, 6, 7, 0] rfl) h hk
                · replace h := (k_if h).2 c56
                  refine lv_iload hx hb dX8_walk_132 (lv_at hl 7 rfl) ?_
                  refine lv_istore (i := 6) (lv' := [(6, .int a7), (0, .ref (sz + b0)), (1, .int b1), (2, .int b2), (3, .int b3), (4, .int b4), (5, .int b5), (7, .int a7)]) hx hb dX8_walk_134 hl (by decide) (by first | rfl | simp [rv_cat, cat_i, cat_l, cat_r, cat_n]) (fun ls hl => ?_)
                  obtain ⟨v58, hvv58⟩ : ∃ y : Int32, y = a7 + (1) := ⟨_, rfl⟩
                  replace h := k_bb h v58 hvv58
                  refine lv_iinc (v := v58) (lv' := [(7, .int v58), (6, .int a7), (0, .ref (sz + b0)), (1, .int b1), (2, .int b2), (3, .int b3), (4, .int b4), (5, .int b5)]) hx hb dX8_walk_136 hl (k := 7) rfl (by rw [hvv58]; rfl) (by decide) (by first | rfl | simp [rv_cat, cat_i, cat_l, cat_r, cat_n]) (fun ls hl => ?_)
                  refine lv_goto (tgt := 58) hx hb dX8_walk_139 (by decide) ?_
                  exact ih a7 v58 H locs ls hM (lv_sub hl [2, 3, 4, 5, 6, 7, 1, 0] rfl) h hk

def L_X8_walk_46 (b0 : Nat) (b1 : Int32) (b2 : Int32) (b3 : Int32) (u : Mm) (k : Int32 → Int32 → Option ((Int32) × Mm)) : Nat → Int32 → Int32 → Option ((Int32) × Mm)
  | 0, _, _ => none
  | n + 1, a4, a5 => (if b1 < a5 then k a4 a5 else L_X8_walk_58 b0 b1 b2 b3 a4 a5 u (fun a59 a60 => (if 0 ≤ a59 then bb (a5 + (1)) (fun v62 => L_X8_walk_46 b0 b1 b2 b3 u k n a59 v62) else gd (okO u b0 8) (bd (f_X8_refuse b0 (9 : Int32) u) (fun w64 => some (w64.1, w64.2))))) 1000 (-1 : Int32) (0 : Int32) )
set_option maxHeartbeats 4000000 in
set_option maxRecDepth 100000 in
theorem lp_X8_walk_46 {p : Program} {l : Launch} {e : Env} {s : State} {m : MethodId} {args : Array Value} {below : List Frame} {meth : Method} {c : Code} {D : va_G} {cy : Nat → ClassId} {sz : Nat} {H0 : Heap} {b0 : Nat} {b1 : Int32} {b2 : Int32} {b3 : Int32} {u : Mm} {k : Int32 → Int32 → Option ((Int32) × Mm)} {res : (Int32) × Mm} (hr : meth.sig.returnType = (some .int)) (hlk : meth.locks = false) (E : EE p s m args c cX8_walk 8 RX8 D cy) : ∀ (n : Nat) (a4 : Int32) (a5 : Int32) (H : Heap) (locs : List Loc) (ls : Array Slot), MM D cy sz H0 u H locs → lv_has ls 8 [(0, .ref (sz + b0)), (1, .int b1), (2, .int b2), (3, .int b3), (4, .int a4), (5, .int a5)] → L_X8_walk_46 b0 b1 b2 b3 u k n a4 a5 = some res → (∀ (a4 : Int32) (a5 : Int32) (H : Heap) (locs : List Loc) (ls : Array Slot), MM D cy sz H0 u H locs → lv_has ls 8 [(0, .ref (sz + b0)), (1, .int b1), (2, .int b2), (3, .int b3), (4, .int a4), (5, .int a5)] → k a4 a5 = some res → W p l e rm_X8_walk s m args below meth c H locs 0 0 (MQ below (Post D cy sz H0 (some (.int res.1)) res.2) args s 0 0 (fun q => sz ≤ q)) (F0 m 164 ls [])) → W p l e rm_X8_walk s m args below meth c H locs 0 0 (MQ below (Post D cy sz H0 (some (.int res.1)) res.2) args s 0 0 (fun q => sz ≤ q)) (F0 m 46 ls []) := by
  obtain ⟨hx, hb, hml, hown, hts, hKK⟩ := id E
  intro n
  induction n with
  | zero => intros; rename_i h _; cases h
  | succ n ih =>
    intro a4 a5 H locs ls hM hl h hk
    rw [L_X8_walk_46] at h
    refine lv_iload hx hb dX8_walk_46 (lv_at hl 5 rfl) ?_
    refine lv_iload_n hx hb dX8_walk_48 rfl (lv_at hl 1 rfl) ?_
    refine lv_icmp_gt (tgt := 164) hx hb dX8_walk_49 (by decide) (fun c8 => ?_) (fun c8 => ?_)
    · replace h := (k_if h).1 c8
      exact hk a4 a5 H locs ls hM (lv_sub hl [0, 1, 2, 3, 4, 5] rfl) h
    · replace h := (k_if h).2 c8
      refine lv_iconst (v := (-1)) hx hb dX8_walk_52 (by decide) ?_
      refine lv_istore (i := 6) (lv' := [(6, .int (-1 : Int32)), (0, .ref (sz + b0)), (1, .int b1), (2, .int b2), (3, .int b3), (4, .int a4), (5, .int a5)]) hx hb dX8_walk_53 hl (by decide) (by first | rfl | simp [rv_cat, cat_i, cat_l, cat_r, cat_n]) (fun ls hl => ?_)
      refine lv_iconst (v := 0) hx hb dX8_walk_55 (by decide) ?_
      refine lv_istore (i := 7) (lv' := [(7, .int (0 : Int32)), (6, .int (-1 : Int32)), (0, .ref (sz + b0)), (1, .int b1), (2, .int b2), (3, .int b3), (4, .int a4), (5, .int a5)]) hx hb dX8_walk_56 hl (by decide) (by first | rfl | simp [rv_cat, cat_i, cat_l, cat_r, cat_n]) (fun ls hl => ?_)
      refine lp_X8_walk_58 hr hlk  E 1000 (-1 : Int32) (0 : Int32) H locs ls hM (lv_sub hl [2, 3, 4, 5, 6, 7, 1, 0] rfl) h (fun a59 a60 H locs ls hM hl h => ?_)
      refine lv_iload hx hb dX8_walk_142 (lv_at hl 6 rfl) ?_
      refine lv_if_ge (tgt := 154) hx hb dX8_walk_144 (by decide) (fun c61 => ?_) (fun c61 => ?_)
      · replace h := (k_if h).1 c61
        refine lv_iload hx hb dX8_walk_154 (lv_at hl 6 rfl) ?_
        refine lv_istore (i := 4) (lv' := [(4, .int a59), (0, .ref (sz + b0)), (1, .int b1), (2, .int b2), (3, .int b3), (5, .int a5), (6, .int a59), (7, .int a60)]) hx hb dX8_walk_156 hl (by decide) (by first | rfl | simp [rv_cat, cat_i, cat_l, cat_r, cat_n]) (fun ls hl => ?_)
        obtain ⟨v62, hvv62⟩ : ∃ y : Int32, y = a5 + (1) := ⟨_, rfl⟩
        replace h := k_bb h v62 hvv62
        refine lv_iinc (v := v62) (lv' := [(5, .int v62), (4, .int a59), (0, .ref (sz + b0)), (1, .int b1), (2, .int b2), (3, .int b3), (6, .int a59), (7, .int a60)]) hx hb dX8_walk_158 hl (k := 5) rfl (by rw [hvv62]; rfl) (by decide) (by first | rfl | simp [rv_cat, cat_i, cat_l, cat_r, cat_n]) (fun ls hl => ?_)
        refine lv_goto (tgt := 46) hx hb dX8_walk_161 (by decide) ?_
        exact ih a59 v62 H locs ls hM (lv_sub hl [2, 3, 4, 5, 1, 0] rfl) h hk
      · replace h := (k_if h).2 c61
        refine lv_aload_n hx hb dX8_walk_147 rfl (lv_at hl 0 rfl) ?_
        refine lv_bipush (v := 9) hx hb dX8_walk_148 (by decide) ?_
        obtain ⟨ok63, h⟩ := k_gd h
        obtain ⟨w64, hzw64, h⟩ := k_bd h
        refine m_callV (C := RX8) (T := TX8) (N := 33) (ci := 8) (n := 1) (As := [.int (9 : Int32)]) (rest := []) (st1 := (.int w64.1 :: [])) E hM hl.1 ok63 (by decide) rfl rfl (c_X8_refuse l D cy sz H0 u b0 (9 : Int32) hzw64) wl_X8_121 wm_X8_refuse ws_X8_refuse wi_X8 wd_X8_refuse rfl rfl (by decide +kernel) ⟨by decide, by decide⟩ rfl rfl (by first | exact Nat.le_of_ble_eq_true rfl | simp [rv_cat, cat_i, cat_l, cat_r, cat_n]) dX8_walk_150 ⟨by decide, by decide⟩ rfl (fun H locs hM => ?_)
        cases h
        exact m_iret hx hb hr hlk hM rfl rfl dX8_walk_153

def f_X8_walk (r : Nat) (p1 : Int32) (p2 : Int32) (p3 : Int32) (u : Mm) : Option ((Int32) × Mm) := gd (okO u r 8) (bd (f_X8_isPerson p2 (sI (sI u r 1 (0 : Int32)) r 0 (0 : Int32))) (fun w2 => (if w2 = 0 then bd (f_X8_refuse r (2 : Int32) (sI (sI u r 1 (0 : Int32)) r 0 (0 : Int32))) (fun w68 => some (w68.1, w68.2)) else (if p1 < 0 then bd (f_X8_refuse r (5 : Int32) (sI (sI u r 1 (0 : Int32)) r 0 (0 : Int32))) (fun w5 => some (w5.1, w5.2)) else bd (f_X8_isDay p3 (sI (sI u r 1 (0 : Int32)) r 0 (0 : Int32))) (fun w6 => (if w6 = 0 then bd (f_X8_refuse r (5 : Int32) (sI (sI u r 1 (0 : Int32)) r 0 (0 : Int32))) (fun w67 => some (w67.1, w67.2)) else L_X8_walk_46 r p1 p2 p3 (sI (sI u r 1 (0 : Int32)) r 0 (0 : Int32)) (fun a65 a66 => some (a65, (sI (sI u r 1 (0 : Int32)) r 0 (0 : Int32)))) 1000 (-1 : Int32) (0 : Int32) ))))))
set_option maxHeartbeats 4000000 in
set_option maxRecDepth 100000 in
theorem c_X8_walk (l : Launch) (D : va_G) (cy : Nat → ClassId) (sz : Nat) (H0 : Heap) (u : Mm) (r : Nat) (p1 : Int32) (p2 : Int32) (p3 : Int32) {res : (Int32) × Mm} (h : f_X8_walk r p1 p2 p3 u = some res) : Ctr l yX8_walk cX8_walk 8 (some .int) rm_X8_walk 0 0 D cy sz H0 u [.ref (sz + r), .int p1, .int p2, .int p3] (some (.int res.1)) res.2 := by
  refine m_start (lv := [(0, .ref (sz + r)), (1, .int p1), (2, .int p2), (3, .int p3)]) (by decide) (by first | exact Nat.le_of_ble_eq_true rfl | simp [lg_sl, rv_cat, cat_i, cat_l, cat_r, cat_n]) (by first | rfl | simp [lv_args, rv_cat, cat_i, cat_l, cat_r, cat_n]) ?_
  intro p e s m below meth c ls E hr hlk hinit hM hl
  obtain ⟨hx, hb, hml, hown, hts, hKK⟩ := id E
  obtain ⟨H, hH⟩ : ∃ H, H = s.heap := ⟨_, rfl⟩
  obtain ⟨locs, hlocs⟩ : ∃ L : List Loc, L = [] := ⟨_, rfl⟩
  rw [← hH, ← hlocs] at hM ⊢
  unfold f_X8_walk at h
  refine lv_aload_n hx hb dX8_walk_0 rfl (lv_at hl 0 rfl) ?_
  refine lv_iconst (v := 0) hx hb dX8_walk_1 (by decide) ?_
  obtain ⟨ok1, h⟩ := k_gd h
  refine ps_X8_93 (v := (0 : Int32)) E hM ok1 dX8_walk_2 (fun H locs hM => ?_)
  refine lv_aload_n hx hb dX8_walk_5 rfl (lv_at hl 0 rfl) ?_
  refine lv_iconst (v := 0) hx hb dX8_walk_6 (by decide) ?_
  refine ps_X8_97 (v := (0 : Int32)) E hM ok1 dX8_walk_7 (fun H locs hM => ?_)
  refine lv_iload_n hx hb dX8_walk_10 rfl (lv_at hl 2 rfl) ?_
  obtain ⟨w2, hzw2, h⟩ := k_bd h
  refine m_callS (n := 1) (As := [.int p2]) (rest := []) (st1 := (.int w2 :: [])) E hM hl.1 (c_X8_isPerson l D cy sz H0 (sI (sI u r 1 (0 : Int32)) r 0 (0 : Int32)) p2 hzw2) wl_X8_148 wst_X8_isPerson wi_X8 wd_X8_isPerson rfl rfl (by decide +kernel) ⟨by decide, by decide⟩ rfl rfl (by first | exact Nat.le_of_ble_eq_true rfl | simp [rv_cat, cat_i, cat_l, cat_r, cat_n]) dX8_walk_11 ⟨by decide, by decide⟩ rfl (fun H locs hM => ?_)
  refine lv_if_ne (tgt := 23) hx hb dX8_walk_14 (by decide) (fun c3 => ?_) (fun c3 => ?_)
  · replace h := (k_if h).2 c3
    refine lv_iload_n hx hb dX8_walk_23 rfl (lv_at hl 1 rfl) ?_
    refine lv_if_lt (tgt := 34) hx hb dX8_walk_24 (by decide) (fun c4 => ?_) (fun c4 => ?_)
    · replace h := (k_if h).1 c4
      refine lv_aload_n hx hb dX8_walk_34 rfl (lv_at hl 0 rfl) ?_
      refine lv_iconst (v := 5) hx hb dX8_walk_35 (by decide) ?_
      obtain ⟨w5, hzw5, h⟩ := k_bd h
      refine m_callV (C := RX8) (T := TX8) (N := 33) (ci := 8) (n := 1) (As := [.int (5 : Int32)]) (rest := []) (st1 := (.int w5.1 :: [])) E hM hl.1 ok1 (by decide) rfl rfl (c_X8_refuse l D cy sz H0 (sI (sI u r 1 (0 : Int32)) r 0 (0 : Int32)) r (5 : Int32) hzw5) wl_X8_121 wm_X8_refuse ws_X8_refuse wi_X8 wd_X8_refuse rfl rfl (by decide +kernel) ⟨by decide, by decide⟩ rfl rfl (by first | exact Nat.le_of_ble_eq_true rfl | simp [rv_cat, cat_i, cat_l, cat_r, cat_n]) dX8_walk_36 ⟨by decide, by decide⟩ rfl (fun H locs hM => ?_)
      cases h
      exact m_iret hx hb hr hlk hM rfl rfl dX8_walk_39
    · replace h := (k_if h).2 c4
      refine lv_iload_n hx hb dX8_walk_27 rfl (lv_at hl 3 rfl) ?_
      obtain ⟨w6, hzw6, h⟩ := k_bd h
      refine m_callS (n := 1) (As := [.int p3]) (rest := []) (st1 := (.int w6 :: [])) E hM hl.1 (c_X8_isDay l D cy sz H0 (sI (sI u r 1 (0 : Int32)) r 0 (0 : Int32)) p3 hzw6) wl_X8_151 wst_X8_isDay wi_X8 wd_X8_isDay rfl rfl (by decide +kernel) ⟨by decide, by decide⟩ rfl rfl (by first | exact Nat.le_of_ble_eq_true rfl | simp [rv_cat, cat_i, cat_l, cat_r, cat_n]) dX8_walk_28 ⟨by decide, by decide⟩ rfl (fun H locs hM => ?_)
      refine lv_if_ne (tgt := 40) hx hb dX8_walk_31 (by decide) (fun c7 => ?_) (fun c7 => ?_)
      · replace h := (k_if h).2 c7
        refine lv_iconst (v := (-1)) hx hb dX8_walk_40 (by decide) ?_
        refine lv_istore (i := 4) (lv' := [(4, .int (-1 : Int32)), (0, .ref (sz + r)), (1, .int p1), (2, .int p2), (3, .int p3)]) hx hb dX8_walk_41 hl (by decide) (by first | rfl | simp [rv_cat, cat_i, cat_l, cat_r, cat_n]) (fun ls hl => ?_)
        refine lv_iconst (v := 0) hx hb dX8_walk_43 (by decide) ?_
        refine lv_istore (i := 5) (lv' := [(5, .int (0 : Int32)), (4, .int (-1 : Int32)), (0, .ref (sz + r)), (1, .int p1), (2, .int p2), (3, .int p3)]) hx hb dX8_walk_44 hl (by decide) (by first | rfl | simp [rv_cat, cat_i, cat_l, cat_r, cat_n]) (fun ls hl => ?_)
        refine lp_X8_walk_46 hr hlk  E 1000 (-1 : Int32) (0 : Int32) H locs ls hM (lv_sub hl [2, 3, 4, 5, 1, 0] rfl) h (fun a65 a66 H locs ls hM hl h => ?_)
        refine lv_iload hx hb dX8_walk_164 (lv_at hl 4 rfl) ?_
        cases h
        exact m_iret hx hb hr hlk hM rfl rfl dX8_walk_166
      · replace h := (k_if h).1 c7
        refine lv_aload_n hx hb dX8_walk_34 rfl (lv_at hl 0 rfl) ?_
        refine lv_iconst (v := 5) hx hb dX8_walk_35 (by decide) ?_
        obtain ⟨w67, hzw67, h⟩ := k_bd h
        refine m_callV (C := RX8) (T := TX8) (N := 33) (ci := 8) (n := 1) (As := [.int (5 : Int32)]) (rest := []) (st1 := (.int w67.1 :: [])) E hM hl.1 ok1 (by decide) rfl rfl (c_X8_refuse l D cy sz H0 (sI (sI u r 1 (0 : Int32)) r 0 (0 : Int32)) r (5 : Int32) hzw67) wl_X8_121 wm_X8_refuse ws_X8_refuse wi_X8 wd_X8_refuse rfl rfl (by decide +kernel) ⟨by decide, by decide⟩ rfl rfl (by first | exact Nat.le_of_ble_eq_true rfl | simp [rv_cat, cat_i, cat_l, cat_r, cat_n]) dX8_walk_36 ⟨by decide, by decide⟩ rfl (fun H locs hM => ?_)
        cases h
        exact m_iret hx hb hr hlk hM rfl rfl dX8_walk_39
  · replace h := (k_if h).1 c3
    refine lv_aload_n hx hb dX8_walk_17 rfl (lv_at hl 0 rfl) ?_
    refine lv_iconst (v := 2) hx hb dX8_walk_18 (by decide) ?_
    obtain ⟨w68, hzw68, h⟩ := k_bd h
    refine m_callV (C := RX8) (T := TX8) (N := 33) (ci := 8) (n := 1) (As := [.int (2 : Int32)]) (rest := []) (st1 := (.int w68.1 :: [])) E hM hl.1 ok1 (by decide) rfl rfl (c_X8_refuse l D cy sz H0 (sI (sI u r 1 (0 : Int32)) r 0 (0 : Int32)) r (2 : Int32) hzw68) wl_X8_121 wm_X8_refuse ws_X8_refuse wi_X8 wd_X8_refuse rfl rfl (by decide +kernel) ⟨by decide, by decide⟩ rfl rfl (by first | exact Nat.le_of_ble_eq_true rfl | simp [rv_cat, cat_i, cat_l, cat_r, cat_n]) dX8_walk_19 ⟨by decide, by decide⟩ rfl (fun H locs hM => ?_)
    cases h
    exact m_iret hx hb hr hlk hM rfl rfl dX8_walk_22

