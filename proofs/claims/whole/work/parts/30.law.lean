/-! THE CLAIM OUT OF ONE WALK OF THE LAW'S BODY. Your part is whole_start (and what it stands on); all else here is the same for every law, but numbers. -/
def R_law : String := "BoxArchiveLaw"
def lw_P (b : Addr) (xs : List Int32) (args : Array Value) (s : State) : Prop := args = #[.ref b] ∧ s.IntsAt b xs ∧ xs.length ≤ 3072 ∧ (Jvm.Cond.and given_1 narrow_1).before args s = true
def lw_Q (_ : Array Value) (s : State) (o : Outcome) (t : State) : Prop := o = .returned (some (.int 1)) ∧ Framed s o t [] room_1.cells room_1.slots
def lw_Z (below : List Frame) (a : Array Value) (s : State) : State → Prop := fun t => ∃ o, t.status = .running ∧ Ended t below o ∧ lw_Q a s o t
/-- the law's own end, with 1 on the stack, nothing written that was there before, its room as the claim has it -/
theorem lw_ret {p : Program} {l : Launch} {e : Env} {s : State} {m : MethodId} {below : List Frame} {meth : Method} {c : Code} {b : Nat} (hx : p.tables.exec = Jvm.exec) (hb : c.code = code) (hr : meth.sig.returnType = ret) (hlocks : meth.locks = false) {pc : Nat} {H : Heap} {ls : Array Slot} (hdg : decode code pc = .ok (.ireturn, 1)) : W p l e room_1 s m #[Value.ref b] below meth c H [] room_1.cells room_1.slots (lw_Z below #[Value.ref b] s) (F0 m pc ls [.int 1]) := by
  intro T hT X
  obtain ⟨fs, hret, hrun, hended, hW, hframe⟩ := X.leave (v := some (.int 1)) (hlocks := hlocks) (fun h => by rw [hr] at h; cases h)
  have hmeth' : T.vm.method? m = some meth := X.method'
  refine ⟨T.setFrames fs, ?_, .returned (some (.int 1)), hrun, hended, rfl, ⟨_, rfl⟩, hW, hframe⟩
  jvm_step X.here [X.here.top, hx, hb, hdg, hmeth', hr, ret, narrow_b1]
  (try refine ⟨rfl, ?_⟩); (try refine ⟨rfl, ?_⟩)
  first | (intro acts; rw [hret _ acts rfl rfl rfl]) | rw [hret _ _ rfl rfl rfl]
  exact Steps.refl _
/-- what holds at the law's entry: the machine, the code, the tables' words (any of lw_tbl by 'hts w (by decide +kernel)'), the script of L ints xs at the cell b, what the Statement gives of the start (any of its parts by flat_of_before) -/
def lw_At (p : Program) (s : State) (m : MethodId) (meth : Method) (c : Code) (b L : Nat) (xs : Nat → Int32) : Prop :=
  p.tables.exec = Jvm.exec ∧ c.code = code ∧ meth.sig.returnType = ret ∧ c.maxLocals = 4 ∧ s.vm.findClass R_law = some m.cls ∧ (∀ w ∈ lw_tbl, w.before #[Value.ref b] s = true) ∧ va_X b L xs s s.heap ∧ b < s.heap.size ∧ meth.locks = false ∧ (Jvm.Cond.and given_1 narrow_1).before #[Value.ref b] s = true
theorem rm_c : 10000 ≤ room_1.cells := by decide
theorem rm_s : 100000 ≤ room_1.slots := by decide
def okS (L : Nat) (i : Int32) : Bool := decide (¬ (i < 0 ∨ L ≤ i.toNatClampNeg))
theorem okS_1 {L : Nat} {i : Int32} (h : okS L i = true) : vp_in i L := by
  have h1 : ¬ (i < 0 ∨ L ≤ i.toNatClampNeg) := of_decide_eq_true h
  exact h1
theorem MM.S {D : va_G} {cy : Nat → ClassId} {sz : Nat} {H0 H : Heap} {u : Mm} {locs : List Loc} (h : MM D cy sz H0 u H locs) (hsz : H0.size = sz) : va_S (fun q => sz ≤ q) H0 H locs :=
  ⟨by rw [h.1, hsz]; exact Nat.le_add_right _ _, fun q h1 h2 => h.2.1 q (by rw [← hsz]; exact h1), h.2.2.2⟩
theorem lw_end {p : Program} {l : Launch} {e : Env} {s : State} {m : MethodId} {below : List Frame} {meth : Method} {c : Code} {b : Nat} {D : va_G} {cy : Nat → ClassId} {sz : Nat} {H0 H : Heap} {u : Mm} {locs : List Loc} {cells slots : Nat} (hx : p.tables.exec = Jvm.exec) (hb : c.code = cL_law) (hr : meth.sig.returnType = ret) (hlocks : meth.locks = false) (hsz : s.heap.size = sz) (hM : MM D cy sz H0 u H locs) {pc : Nat} {ls : Array Slot} (hc : cells ≤ room_1.cells) (hs : slots ≤ room_1.slots) (hdg : decode cL_law pc = .ok (.ireturn, 1)) : W p l e room_1 s m #[Value.ref b] below meth c H locs cells slots (lw_Z below #[Value.ref b] s) (F0 m pc ls [.int 1]) :=
  va_forget (fun q hq => by rw [hsz]; exact hM.2.2.2 q hq) (W.widen (k := room_1.cells) (n := room_1.slots) hc hs (lw_ret hx hb hr hlocks hdg))
def L_law (xs : Nat → Int32) (L b1 b2 : Nat) : Nat → Int32 → Mm → Option Int32
  | 0, _, _ => none
  | n + 1, a3, u => (if ((Int32.ofNat L) - (6 : Int32)) < a3 then some (1 : Int32) else gd (okS L a3) (bb (((xs (Int32.toNatClampNeg a3)) &&& (31 : Int32))) (fun v9 => (if v9 = 0 then gd (okO u b1 7) (bd (f_X7_status b1 u) (fun w12 => gd (okO u b2 8) (bd (f_X8_status b2 u) (fun w14 => (if w12 = w14.1 then bb (a3 + (6)) (fun v16 => L_law xs L b1 b2 n v16 w14.2) else some ((0 : Int32))))))) else (if v9 = 1 then gd (okS L (a3 + (1 : Int32))) (gd (okS L (a3 + (2 : Int32))) (gd (okS L (a3 + (3 : Int32))) (gd (okO u b1 7) (bd (f_X7_tray b1 (xs (Int32.toNatClampNeg (a3 + (1 : Int32)))) (xs (Int32.toNatClampNeg (a3 + (2 : Int32)))) (xs (Int32.toNatClampNeg (a3 + (3 : Int32)))) u) (fun w22 => gd (okS L (a3 + (1 : Int32))) (gd (okS L (a3 + (2 : Int32))) (gd (okS L (a3 + (3 : Int32))) (gd (okO w22.2 b2 8) (bd (f_X8_tray b2 (xs (Int32.toNatClampNeg (a3 + (1 : Int32)))) (xs (Int32.toNatClampNeg (a3 + (2 : Int32)))) (xs (Int32.toNatClampNeg (a3 + (3 : Int32)))) w22.2) (fun w27 => (if w22.1 = w27.1 then bb (a3 + (6)) (fun v29 => L_law xs L b1 b2 n v29 w27.2) else some ((0 : Int32))))))))))))) else (if v9 = 2 then gd (okS L (a3 + (1 : Int32))) (gd (okS L (a3 + (2 : Int32))) (gd (okS L (a3 + (3 : Int32))) (gd (okS L (a3 + (4 : Int32))) (gd (okO u b1 7) (bd (f_X7_write b1 (xs (Int32.toNatClampNeg (a3 + (1 : Int32)))) (xs (Int32.toNatClampNeg (a3 + (2 : Int32)))) (((Int32.toInt64 (xs (Int32.toNatClampNeg (a3 + (3 : Int32))))) <<< (Int32.toInt64 (32 : Int32) &&& 63)) ||| ((Int32.toInt64 (xs (Int32.toNatClampNeg (a3 + (4 : Int32))))) &&& (4294967295 : Int64))) u) (fun w36 => gd (okS L (a3 + (1 : Int32))) (gd (okS L (a3 + (2 : Int32))) (gd (okS L (a3 + (3 : Int32))) (gd (okS L (a3 + (4 : Int32))) (gd (okO w36.2 b2 8) (bd (f_X8_write b2 (xs (Int32.toNatClampNeg (a3 + (1 : Int32)))) (xs (Int32.toNatClampNeg (a3 + (2 : Int32)))) (((Int32.toInt64 (xs (Int32.toNatClampNeg (a3 + (3 : Int32))))) <<< (Int32.toInt64 (32 : Int32) &&& 63)) ||| ((Int32.toInt64 (xs (Int32.toNatClampNeg (a3 + (4 : Int32))))) &&& (4294967295 : Int64))) w36.2) (fun w42 => (if w36.1 = w42.1 then bb (a3 + (6)) (fun v44 => L_law xs L b1 b2 n v44 w42.2) else some ((0 : Int32))))))))))))))) else (if v9 = 3 then gd (okS L (a3 + (1 : Int32))) (gd (okS L (a3 + (2 : Int32))) (gd (okO u b1 7) (bd (f_X7_read b1 (xs (Int32.toNatClampNeg (a3 + (1 : Int32)))) (xs (Int32.toNatClampNeg (a3 + (2 : Int32)))) u) (fun w49 => gd (okS L (a3 + (1 : Int32))) (gd (okS L (a3 + (2 : Int32))) (gd (okO w49.2 b2 8) (bd (f_X8_read b2 (xs (Int32.toNatClampNeg (a3 + (1 : Int32)))) (xs (Int32.toNatClampNeg (a3 + (2 : Int32)))) w49.2) (fun w53 => (if (lg_cmp w49.1 w53.1) = 0 then bb (a3 + (6)) (fun v55 => L_law xs L b1 b2 n v55 w53.2) else some ((0 : Int32))))))))))) else (if v9 = 4 then gd (okS L (a3 + (1 : Int32))) (gd (okS L (a3 + (2 : Int32))) (gd (okS L (a3 + (3 : Int32))) (gd (okS L (a3 + (4 : Int32))) (gd (okS L (a3 + (5 : Int32))) (gd (okO u b1 7) (bd (f_X7_pour b1 (xs (Int32.toNatClampNeg (a3 + (1 : Int32)))) (xs (Int32.toNatClampNeg (a3 + (2 : Int32)))) (xs (Int32.toNatClampNeg (a3 + (3 : Int32)))) (xs (Int32.toNatClampNeg (a3 + (4 : Int32)))) (xs (Int32.toNatClampNeg (a3 + (5 : Int32)))) u) (fun w63 => gd (okS L (a3 + (1 : Int32))) (gd (okS L (a3 + (2 : Int32))) (gd (okS L (a3 + (3 : Int32))) (gd (okS L (a3 + (4 : Int32))) (gd (okS L (a3 + (5 : Int32))) (gd (okO w63.2 b2 8) (bd (f_X8_pour b2 (xs (Int32.toNatClampNeg (a3 + (1 : Int32)))) (xs (Int32.toNatClampNeg (a3 + (2 : Int32)))) (xs (Int32.toNatClampNeg (a3 + (3 : Int32)))) (xs (Int32.toNatClampNeg (a3 + (4 : Int32)))) (xs (Int32.toNatClampNeg (a3 + (5 : Int32)))) w63.2) (fun w70 => (if w63.1 = w70.1 then bb (a3 + (6)) (fun v72 => L_law xs L b1 b2 n v72 w70.2) else some ((0 : Int32))))))))))))))))) else (if v9 = 5 then gd (okS L (a3 + (1 : Int32))) (gd (okS L (a3 + (2 : Int32))) (gd (okO u b1 7) (bd (f_X7_thing b1 (xs (Int32.toNatClampNeg (a3 + (1 : Int32)))) (xs (Int32.toNatClampNeg (a3 + (2 : Int32)))) u) (fun w77 => gd (okS L (a3 + (1 : Int32))) (gd (okS L (a3 + (2 : Int32))) (gd (okO w77.2 b2 8) (bd (f_X8_thing b2 (xs (Int32.toNatClampNeg (a3 + (1 : Int32)))) (xs (Int32.toNatClampNeg (a3 + (2 : Int32)))) w77.2) (fun w81 => (if w77.1 = w81.1 then bb (a3 + (6)) (fun v83 => L_law xs L b1 b2 n v83 w81.2) else some ((0 : Int32))))))))))) else (if v9 = 6 then gd (okS L (a3 + (1 : Int32))) (gd (okS L (a3 + (2 : Int32))) (gd (okO u b1 7) (bd (f_X7_told b1 (xs (Int32.toNatClampNeg (a3 + (1 : Int32)))) (xs (Int32.toNatClampNeg (a3 + (2 : Int32)))) u) (fun w88 => gd (okS L (a3 + (1 : Int32))) (gd (okS L (a3 + (2 : Int32))) (gd (okO w88.2 b2 8) (bd (f_X8_told b2 (xs (Int32.toNatClampNeg (a3 + (1 : Int32)))) (xs (Int32.toNatClampNeg (a3 + (2 : Int32)))) w88.2) (fun w92 => (if w88.1 = w92.1 then bb (a3 + (6)) (fun v94 => L_law xs L b1 b2 n v94 w92.2) else some ((0 : Int32))))))))))) else (if v9 = 7 then gd (okS L (a3 + (1 : Int32))) (gd (okS L (a3 + (2 : Int32))) (gd (okS L (a3 + (3 : Int32))) (gd (okO u b1 7) (bd (f_X7_say b1 (xs (Int32.toNatClampNeg (a3 + (1 : Int32)))) (xs (Int32.toNatClampNeg (a3 + (2 : Int32)))) (xs (Int32.toNatClampNeg (a3 + (3 : Int32)))) u) (fun w100 => gd (okS L (a3 + (1 : Int32))) (gd (okS L (a3 + (2 : Int32))) (gd (okS L (a3 + (3 : Int32))) (gd (okO w100.2 b2 8) (bd (f_X8_say b2 (xs (Int32.toNatClampNeg (a3 + (1 : Int32)))) (xs (Int32.toNatClampNeg (a3 + (2 : Int32)))) (xs (Int32.toNatClampNeg (a3 + (3 : Int32)))) w100.2) (fun w105 => (if w100.1 = w105.1 then bb (a3 + (6)) (fun v107 => L_law xs L b1 b2 n v107 w105.2) else some ((0 : Int32))))))))))))) else (if v9 = 8 then gd (okS L (a3 + (1 : Int32))) (gd (okS L (a3 + (2 : Int32))) (gd (okO u b1 7) (bd (f_X7_has b1 (xs (Int32.toNatClampNeg (a3 + (1 : Int32)))) (xs (Int32.toNatClampNeg (a3 + (2 : Int32)))) u) (fun w112 => gd (okS L (a3 + (1 : Int32))) (gd (okS L (a3 + (2 : Int32))) (gd (okO w112.2 b2 8) (bd (f_X8_has b2 (xs (Int32.toNatClampNeg (a3 + (1 : Int32)))) (xs (Int32.toNatClampNeg (a3 + (2 : Int32)))) w112.2) (fun w116 => (if w112.1 = w116.1 then bb (a3 + (6)) (fun v118 => L_law xs L b1 b2 n v118 w116.2) else some ((0 : Int32))))))))))) else (if v9 = 9 then gd (okS L (a3 + (1 : Int32))) (gd (okS L (a3 + (2 : Int32))) (gd (okS L (a3 + (3 : Int32))) (gd (okO u b1 7) (bd (f_X7_span b1 (xs (Int32.toNatClampNeg (a3 + (1 : Int32)))) (xs (Int32.toNatClampNeg (a3 + (2 : Int32)))) (xs (Int32.toNatClampNeg (a3 + (3 : Int32)))) u) (fun w124 => gd (okS L (a3 + (1 : Int32))) (gd (okS L (a3 + (2 : Int32))) (gd (okS L (a3 + (3 : Int32))) (gd (okO w124.2 b2 8) (bd (f_X8_span b2 (xs (Int32.toNatClampNeg (a3 + (1 : Int32)))) (xs (Int32.toNatClampNeg (a3 + (2 : Int32)))) (xs (Int32.toNatClampNeg (a3 + (3 : Int32)))) w124.2) (fun w129 => (if w124.1 = w129.1 then bb (a3 + (6)) (fun v131 => L_law xs L b1 b2 n v131 w129.2) else some ((0 : Int32))))))))))))) else (if v9 = 10 then gd (okS L (a3 + (1 : Int32))) (gd (okO u b1 7) (bd (f_X7_noSpan b1 (xs (Int32.toNatClampNeg (a3 + (1 : Int32)))) u) (fun w135 => gd (okS L (a3 + (1 : Int32))) (gd (okO w135.2 b2 8) (bd (f_X8_noSpan b2 (xs (Int32.toNatClampNeg (a3 + (1 : Int32)))) w135.2) (fun w138 => (if w135.1 = w138.1 then bb (a3 + (6)) (fun v140 => L_law xs L b1 b2 n v140 w138.2) else some ((0 : Int32))))))))) else (if v9 = 11 then gd (okS L (a3 + (1 : Int32))) (gd (okS L (a3 + (2 : Int32))) ((if (xs (Int32.toNatClampNeg (a3 + (2 : Int32)))) = 0 then gd (okO u b1 7) (bd (f_X7_held b1 (xs (Int32.toNatClampNeg (a3 + (1 : Int32)))) (0 : Int32) u) (fun w146 => gd (okS L (a3 + (1 : Int32))) (gd (okS L (a3 + (2 : Int32))) ((if (xs (Int32.toNatClampNeg (a3 + (2 : Int32)))) = 0 then gd (okO w146.2 b2 8) (bd (f_X8_held b2 (xs (Int32.toNatClampNeg (a3 + (1 : Int32)))) (0 : Int32) w146.2) (fun w151 => (if w146.1 = w151.1 then bb (a3 + (6)) (fun v153 => L_law xs L b1 b2 n v153 w151.2) else some ((0 : Int32))))) else gd (okO w146.2 b2 8) (bd (f_X8_held b2 (xs (Int32.toNatClampNeg (a3 + (1 : Int32)))) (1 : Int32) w146.2) (fun w155 => (if w146.1 = w155.1 then bb (a3 + (6)) (fun v157 => L_law xs L b1 b2 n v157 w155.2) else some ((0 : Int32)))))))))) else gd (okO u b1 7) (bd (f_X7_held b1 (xs (Int32.toNatClampNeg (a3 + (1 : Int32)))) (1 : Int32) u) (fun w159 => gd (okS L (a3 + (1 : Int32))) (gd (okS L (a3 + (2 : Int32))) ((if (xs (Int32.toNatClampNeg (a3 + (2 : Int32)))) = 0 then gd (okO w159.2 b2 8) (bd (f_X8_held b2 (xs (Int32.toNatClampNeg (a3 + (1 : Int32)))) (0 : Int32) w159.2) (fun w164 => (if w159.1 = w164.1 then bb (a3 + (6)) (fun v166 => L_law xs L b1 b2 n v166 w164.2) else some ((0 : Int32))))) else gd (okO w159.2 b2 8) (bd (f_X8_held b2 (xs (Int32.toNatClampNeg (a3 + (1 : Int32)))) (1 : Int32) w159.2) (fun w168 => (if w159.1 = w168.1 then bb (a3 + (6)) (fun v170 => L_law xs L b1 b2 n v170 w168.2) else some ((0 : Int32))))))))))))) else (if v9 = 12 then gd (okS L (a3 + (1 : Int32))) (gd (okO u b1 7) (bd (f_X7_quarrel b1 (xs (Int32.toNatClampNeg (a3 + (1 : Int32)))) u) (fun w174 => gd (okS L (a3 + (1 : Int32))) (gd (okO w174.2 b2 8) (bd (f_X8_quarrel b2 (xs (Int32.toNatClampNeg (a3 + (1 : Int32)))) w174.2) (fun w177 => (if w174.1 = w177.1 then bb (a3 + (6)) (fun v179 => L_law xs L b1 b2 n v179 w177.2) else some ((0 : Int32))))))))) else (if v9 = 13 then gd (okS L (a3 + (1 : Int32))) (gd (okS L (a3 + (2 : Int32))) (gd (okO u b1 7) (bd (f_X7_count b1 (xs (Int32.toNatClampNeg (a3 + (1 : Int32)))) (xs (Int32.toNatClampNeg (a3 + (2 : Int32)))) u) (fun w184 => gd (okS L (a3 + (1 : Int32))) (gd (okS L (a3 + (2 : Int32))) (gd (okO w184.2 b2 8) (bd (f_X8_count b2 (xs (Int32.toNatClampNeg (a3 + (1 : Int32)))) (xs (Int32.toNatClampNeg (a3 + (2 : Int32)))) w184.2) (fun w188 => (if w184.1 = w188.1 then bb (a3 + (6)) (fun v190 => L_law xs L b1 b2 n v190 w188.2) else some ((0 : Int32))))))))))) else (if v9 = 14 then gd (okS L (a3 + (1 : Int32))) (gd (okS L (a3 + (2 : Int32))) (gd (okO u b1 7) (bd (f_X7_join b1 (xs (Int32.toNatClampNeg (a3 + (1 : Int32)))) (xs (Int32.toNatClampNeg (a3 + (2 : Int32)))) u) (fun w195 => gd (okS L (a3 + (1 : Int32))) (gd (okS L (a3 + (2 : Int32))) (gd (okO w195.2 b2 8) (bd (f_X8_join b2 (xs (Int32.toNatClampNeg (a3 + (1 : Int32)))) (xs (Int32.toNatClampNeg (a3 + (2 : Int32)))) w195.2) (fun w199 => (if w195.1 = w199.1 then bb (a3 + (6)) (fun v201 => L_law xs L b1 b2 n v201 w199.2) else some ((0 : Int32))))))))))) else (if v9 = 15 then gd (okS L (a3 + (1 : Int32))) (gd (okS L (a3 + (2 : Int32))) (gd (okS L (a3 + (3 : Int32))) (gd (okO u b1 7) (bd (f_X7_close b1 (xs (Int32.toNatClampNeg (a3 + (1 : Int32)))) (xs (Int32.toNatClampNeg (a3 + (2 : Int32)))) (xs (Int32.toNatClampNeg (a3 + (3 : Int32)))) u) (fun w207 => gd (okS L (a3 + (1 : Int32))) (gd (okS L (a3 + (2 : Int32))) (gd (okS L (a3 + (3 : Int32))) (gd (okO w207.2 b2 8) (bd (f_X8_close b2 (xs (Int32.toNatClampNeg (a3 + (1 : Int32)))) (xs (Int32.toNatClampNeg (a3 + (2 : Int32)))) (xs (Int32.toNatClampNeg (a3 + (3 : Int32)))) w207.2) (fun w212 => (if w207.1 = w212.1 then bb (a3 + (6)) (fun v214 => L_law xs L b1 b2 n v214 w212.2) else some ((0 : Int32))))))))))))) else (if v9 = 16 then gd (okS L (a3 + (1 : Int32))) (gd (okS L (a3 + (2 : Int32))) (gd (okS L (a3 + (3 : Int32))) (gd (okO u b1 7) (bd (f_X7_sees b1 (xs (Int32.toNatClampNeg (a3 + (1 : Int32)))) (xs (Int32.toNatClampNeg (a3 + (2 : Int32)))) (xs (Int32.toNatClampNeg (a3 + (3 : Int32)))) u) (fun w220 => gd (okS L (a3 + (1 : Int32))) (gd (okS L (a3 + (2 : Int32))) (gd (okS L (a3 + (3 : Int32))) (gd (okO w220.2 b2 8) (bd (f_X8_sees b2 (xs (Int32.toNatClampNeg (a3 + (1 : Int32)))) (xs (Int32.toNatClampNeg (a3 + (2 : Int32)))) (xs (Int32.toNatClampNeg (a3 + (3 : Int32)))) w220.2) (fun w225 => (if w220.1 = w225.1 then bb (a3 + (6)) (fun v227 => L_law xs L b1 b2 n v227 w225.2) else some ((0 : Int32))))))))))))) else (if v9 = 17 then gd (okS L (a3 + (1 : Int32))) (gd (okS L (a3 + (2 : Int32))) (gd (okS L (a3 + (3 : Int32))) (gd (okS L (a3 + (4 : Int32))) (gd (okO u b1 7) (bd (f_X7_number b1 (xs (Int32.toNatClampNeg (a3 + (1 : Int32)))) (xs (Int32.toNatClampNeg (a3 + (2 : Int32)))) (xs (Int32.toNatClampNeg (a3 + (3 : Int32)))) (xs (Int32.toNatClampNeg (a3 + (4 : Int32)))) u) (fun w234 => gd (okS L (a3 + (1 : Int32))) (gd (okS L (a3 + (2 : Int32))) (gd (okS L (a3 + (3 : Int32))) (gd (okS L (a3 + (4 : Int32))) (gd (okO w234.2 b2 8) (bd (f_X8_number b2 (xs (Int32.toNatClampNeg (a3 + (1 : Int32)))) (xs (Int32.toNatClampNeg (a3 + (2 : Int32)))) (xs (Int32.toNatClampNeg (a3 + (3 : Int32)))) (xs (Int32.toNatClampNeg (a3 + (4 : Int32)))) w234.2) (fun w240 => (if w234.1 = w240.1 then bb (a3 + (6)) (fun v242 => L_law xs L b1 b2 n v242 w240.2) else some ((0 : Int32))))))))))))))) else (if v9 = 18 then gd (okS L (a3 + (1 : Int32))) (gd (okS L (a3 + (2 : Int32))) (gd (okS L (a3 + (3 : Int32))) (gd (okS L (a3 + (4 : Int32))) (gd (okS L (a3 + (5 : Int32))) (gd (okO u b1 7) (bd (f_X7_find b1 (xs (Int32.toNatClampNeg (a3 + (1 : Int32)))) (xs (Int32.toNatClampNeg (a3 + (2 : Int32)))) (xs (Int32.toNatClampNeg (a3 + (3 : Int32)))) (xs (Int32.toNatClampNeg (a3 + (4 : Int32)))) (xs (Int32.toNatClampNeg (a3 + (5 : Int32)))) u) (fun w250 => gd (okS L (a3 + (1 : Int32))) (gd (okS L (a3 + (2 : Int32))) (gd (okS L (a3 + (3 : Int32))) (gd (okS L (a3 + (4 : Int32))) (gd (okS L (a3 + (5 : Int32))) (gd (okO w250.2 b2 8) (bd (f_X8_find b2 (xs (Int32.toNatClampNeg (a3 + (1 : Int32)))) (xs (Int32.toNatClampNeg (a3 + (2 : Int32)))) (xs (Int32.toNatClampNeg (a3 + (3 : Int32)))) (xs (Int32.toNatClampNeg (a3 + (4 : Int32)))) (xs (Int32.toNatClampNeg (a3 + (5 : Int32)))) w250.2) (fun w257 => (if w250.1 = w257.1 then bb (a3 + (6)) (fun v259 => L_law xs L b1 b2 n v259 w257.2) else some ((0 : Int32))))))))))))))))) else (if v9 = 19 then gd (okS L (a3 + (1 : Int32))) (gd (okS L (a3 + (2 : Int32))) (gd (okO u b1 7) (bd (f_X7_mark b1 (xs (Int32.toNatClampNeg (a3 + (1 : Int32)))) (xs (Int32.toNatClampNeg (a3 + (2 : Int32)))) u) (fun w264 => gd (okS L (a3 + (1 : Int32))) (gd (okS L (a3 + (2 : Int32))) (gd (okO w264.2 b2 8) (bd (f_X8_mark b2 (xs (Int32.toNatClampNeg (a3 + (1 : Int32)))) (xs (Int32.toNatClampNeg (a3 + (2 : Int32)))) w264.2) (fun w268 => (if w264.1 = w268.1 then bb (a3 + (6)) (fun v270 => L_law xs L b1 b2 n v270 w268.2) else some ((0 : Int32))))))))))) else (if v9 = 20 then gd (okS L (a3 + (1 : Int32))) (gd (okS L (a3 + (2 : Int32))) (gd (okS L (a3 + (3 : Int32))) (gd (okO u b1 7) (bd (f_X7_walk b1 (xs (Int32.toNatClampNeg (a3 + (1 : Int32)))) (xs (Int32.toNatClampNeg (a3 + (2 : Int32)))) (xs (Int32.toNatClampNeg (a3 + (3 : Int32)))) u) (fun w276 => gd (okS L (a3 + (1 : Int32))) (gd (okS L (a3 + (2 : Int32))) (gd (okS L (a3 + (3 : Int32))) (gd (okO w276.2 b2 8) (bd (f_X8_walk b2 (xs (Int32.toNatClampNeg (a3 + (1 : Int32)))) (xs (Int32.toNatClampNeg (a3 + (2 : Int32)))) (xs (Int32.toNatClampNeg (a3 + (3 : Int32)))) w276.2) (fun w281 => (if w276.1 = w281.1 then bb (a3 + (6)) (fun v283 => L_law xs L b1 b2 n v283 w281.2) else some ((0 : Int32))))))))))))) else (if v9 = 21 then gd (okS L (a3 + (1 : Int32))) (gd (okS L (a3 + (2 : Int32))) (gd (okS L (a3 + (3 : Int32))) (gd (okO u b1 7) (bd (f_X7_fetch b1 (xs (Int32.toNatClampNeg (a3 + (1 : Int32)))) (xs (Int32.toNatClampNeg (a3 + (2 : Int32)))) (xs (Int32.toNatClampNeg (a3 + (3 : Int32)))) u) (fun w289 => gd (okS L (a3 + (1 : Int32))) (gd (okS L (a3 + (2 : Int32))) (gd (okS L (a3 + (3 : Int32))) (gd (okO w289.2 b2 8) (bd (f_X8_fetch b2 (xs (Int32.toNatClampNeg (a3 + (1 : Int32)))) (xs (Int32.toNatClampNeg (a3 + (2 : Int32)))) (xs (Int32.toNatClampNeg (a3 + (3 : Int32)))) w289.2) (fun w294 => (if w289.1 = w294.1 then bb (a3 + (6)) (fun v296 => L_law xs L b1 b2 n v296 w294.2) else some ((0 : Int32))))))))))))) else (if v9 = 22 then gd (okS L (a3 + (1 : Int32))) (gd (okS L (a3 + (2 : Int32))) (gd (okO u b1 7) (bd (f_X7_back b1 (xs (Int32.toNatClampNeg (a3 + (1 : Int32)))) (xs (Int32.toNatClampNeg (a3 + (2 : Int32)))) u) (fun w301 => gd (okS L (a3 + (1 : Int32))) (gd (okS L (a3 + (2 : Int32))) (gd (okO w301.2 b2 8) (bd (f_X8_back b2 (xs (Int32.toNatClampNeg (a3 + (1 : Int32)))) (xs (Int32.toNatClampNeg (a3 + (2 : Int32)))) w301.2) (fun w305 => (if w301.1 = w305.1 then bb (a3 + (6)) (fun v307 => L_law xs L b1 b2 n v307 w305.2) else some ((0 : Int32))))))))))) else (if v9 = 23 then gd (okS L (a3 + (1 : Int32))) (gd (okS L (a3 + (2 : Int32))) (gd (okO u b1 7) (bd (f_X7_where b1 (xs (Int32.toNatClampNeg (a3 + (1 : Int32)))) (xs (Int32.toNatClampNeg (a3 + (2 : Int32)))) u) (fun w312 => gd (okS L (a3 + (1 : Int32))) (gd (okS L (a3 + (2 : Int32))) (gd (okO w312.2 b2 8) (bd (f_X8_where b2 (xs (Int32.toNatClampNeg (a3 + (1 : Int32)))) (xs (Int32.toNatClampNeg (a3 + (2 : Int32)))) w312.2) (fun w316 => (if w312.1 = w316.1 then bb (a3 + (6)) (fun v318 => L_law xs L b1 b2 n v318 w316.2) else some ((0 : Int32))))))))))) else (if v9 = 24 then gd (okS L (a3 + (1 : Int32))) (gd (okS L (a3 + (2 : Int32))) (gd (okO u b1 7) (bd (f_X7_stand b1 (xs (Int32.toNatClampNeg (a3 + (1 : Int32)))) (xs (Int32.toNatClampNeg (a3 + (2 : Int32)))) u) (fun w323 => gd (okS L (a3 + (1 : Int32))) (gd (okS L (a3 + (2 : Int32))) (gd (okO w323.2 b2 8) (bd (f_X8_stand b2 (xs (Int32.toNatClampNeg (a3 + (1 : Int32)))) (xs (Int32.toNatClampNeg (a3 + (2 : Int32)))) w323.2) (fun w327 => (if w323.1 = w327.1 then bb (a3 + (6)) (fun v329 => L_law xs L b1 b2 n v329 w327.2) else some ((0 : Int32))))))))))) else (if v9 = 25 then gd (okS L (a3 + (1 : Int32))) (gd (okS L (a3 + (2 : Int32))) (gd (okO u b1 7) (bd (f_X7_goal b1 (xs (Int32.toNatClampNeg (a3 + (1 : Int32)))) (xs (Int32.toNatClampNeg (a3 + (2 : Int32)))) u) (fun w334 => gd (okS L (a3 + (1 : Int32))) (gd (okS L (a3 + (2 : Int32))) (gd (okO w334.2 b2 8) (bd (f_X8_goal b2 (xs (Int32.toNatClampNeg (a3 + (1 : Int32)))) (xs (Int32.toNatClampNeg (a3 + (2 : Int32)))) w334.2) (fun w338 => (if w334.1 = w338.1 then bb (a3 + (6)) (fun v340 => L_law xs L b1 b2 n v340 w338.2) else some ((0 : Int32))))))))))) else (if v9 = 26 then gd (okO u b1 7) (bd (f_X7_plan b1 u) (fun w343 => gd (okO w343.2 b2 8) (bd (f_X8_plan b2 w343.2) (fun w345 => (if w343.1 = w345.1 then bb (a3 + (6)) (fun v347 => L_law xs L b1 b2 n v347 w345.2) else some ((0 : Int32))))))) else (if v9 = 27 then gd (okS L (a3 + (1 : Int32))) (gd (okS L (a3 + (2 : Int32))) (gd (okO u b1 7) (bd (f_X7_carry b1 (xs (Int32.toNatClampNeg (a3 + (1 : Int32)))) (xs (Int32.toNatClampNeg (a3 + (2 : Int32)))) u) (fun w352 => gd (okS L (a3 + (1 : Int32))) (gd (okS L (a3 + (2 : Int32))) (gd (okO w352.2 b2 8) (bd (f_X8_carry b2 (xs (Int32.toNatClampNeg (a3 + (1 : Int32)))) (xs (Int32.toNatClampNeg (a3 + (2 : Int32)))) w352.2) (fun w356 => (if w352.1 = w356.1 then bb (a3 + (6)) (fun v358 => L_law xs L b1 b2 n v358 w356.2) else some ((0 : Int32))))))))))) else (if v9 = 28 then gd (okO u b1 7) (bd (f_X7_carried b1 u) (fun w361 => gd (okO w361.2 b2 8) (bd (f_X8_carried b2 w361.2) (fun w363 => (if w361.1 = w363.1 then bb (a3 + (6)) (fun v365 => L_law xs L b1 b2 n v365 w363.2) else some ((0 : Int32))))))) else (if v9 = 29 then gd (okS L (a3 + (1 : Int32))) (gd (okS L (a3 + (2 : Int32))) (gd (okS L (a3 + (3 : Int32))) (gd (okO u b1 7) (bd (f_X7_search b1 (xs (Int32.toNatClampNeg (a3 + (1 : Int32)))) (xs (Int32.toNatClampNeg (a3 + (2 : Int32)))) (xs (Int32.toNatClampNeg (a3 + (3 : Int32)))) u) (fun w371 => gd (okS L (a3 + (1 : Int32))) (gd (okS L (a3 + (2 : Int32))) (gd (okS L (a3 + (3 : Int32))) (gd (okO w371.2 b2 8) (bd (f_X8_search b2 (xs (Int32.toNatClampNeg (a3 + (1 : Int32)))) (xs (Int32.toNatClampNeg (a3 + (2 : Int32)))) (xs (Int32.toNatClampNeg (a3 + (3 : Int32)))) w371.2) (fun w376 => (if w371.1 = w376.1 then bb (a3 + (6)) (fun v378 => L_law xs L b1 b2 n v378 w376.2) else some ((0 : Int32))))))))))))) else (if v9 = 30 then gd (okO u b1 7) (bd (f_X7_upper b1 u) (fun w381 => gd (okO u b2 8) (bd (f_X8_upper b2 u) (fun w383 => (if (lg_cmp w381 w383.1) = 0 then bb (a3 + (6)) (fun v385 => L_law xs L b1 b2 n v385 w383.2) else some ((0 : Int32))))))) else (if v9 = 31 then gd (okO u b1 7) (bd (f_X7_lower b1 u) (fun w388 => gd (okO u b2 8) (bd (f_X8_lower b2 u) (fun w390 => (if (lg_cmp w388 w390.1) = 0 then bb (a3 + (6)) (fun v392 => L_law xs L b1 b2 n v392 w390.2) else some ((0 : Int32))))))) else (bb (a3 + (6)) (fun v393 => L_law xs L b1 b2 n v393 u)))))))))))))))))))))))))))))))))))))
set_option maxHeartbeats 40000000 in
set_option maxRecDepth 100000 in
theorem lp_law {p : Program} {l : Launch} {e : Env} {s : State} {m : MethodId} {below : List Frame} {meth : Method} {c : Code} {D : va_G} {cy : Nat → ClassId} {sz b L b1 b2 : Nat} {xs : Nat → Int32} (hX : va_X b L xs s s.heap) (hbl : b < s.heap.size) (hbA : ¬ sz ≤ b) (hsz : s.heap.size = sz) (hr : meth.sig.returnType = ret) (hlk : meth.locks = false) (E : EE p s m #[Value.ref b] c cL_law 4 RL D cy) : ∀ (n : Nat) (a3 : Int32) (u : Mm) (H : Heap) (locs : List Loc) (ls : Array Slot) (cells slots : Nat), cells + 2 * n ≤ room_1.cells → slots + 17 * n ≤ room_1.slots → MM D cy sz s.heap u H locs → lv_has ls 4 [(0, .ref b), (1, .ref (sz + b1)), (2, .ref (sz + b2)), (3, .int a3)] → L_law xs L b1 b2 n a3 u = some 1 → W p l e room_1 s m #[Value.ref b] below meth c H locs cells slots (lw_Z below #[Value.ref b] s) (F0 m 18 ls []) := by
  obtain ⟨hx, hb, hml, hown, hts, hKK⟩ := id E
  obtain ⟨H0, hH0⟩ : ∃ H0, H0 = s.heap := ⟨_, rfl⟩
  intro n
  induction n with
  | zero => intros; rename_i h; cases h
  | succ n ih =>
    intro a3 u H locs ls cells slots hc hs hM hl h
    rw [L_law] at h
    refine lv_iload_n hx hb dL_law_18 rfl (lv_at hl 3 rfl) ?_
    refine lv_aload_n hx hb dL_law_19 rfl (lv_at hl 0 rfl) ?_
    refine va_slen hx hb hX hbl hbA (hM.S hsz) dL_law_20 ?_
    refine lv_bipush (v := 6) hx hb dL_law_21 (by decide) ?_
    refine lv_isub hx hb dL_law_23 ?_
    refine lv_icmp_gt (tgt := 1337) hx hb dL_law_24 (by decide) (fun c7 => ?_) (fun c7 => ?_)
    · replace h := (k_if h).1 c7
      refine lv_iconst (v := 1) hx hb dL_law_1337 (by decide) ?_
      exact lw_end hx hb hr hlk hsz hM (by omega) (by omega) dL_law_1338
    · replace h := (k_if h).2 c7
      refine lv_aload_n hx hb dL_law_27 rfl (lv_at hl 0 rfl) ?_
      refine lv_iload_n hx hb dL_law_28 rfl (lv_at hl 3 rfl) ?_
      obtain ⟨ok8, h⟩ := k_gd h
      refine va_sld hx hb hX hbl hbA (hM.S hsz) (okS_1 ok8) dL_law_29 ?_
      refine lv_bipush (v := 31) hx hb dL_law_30 (by decide) ?_
      refine lv_iand hx hb dL_law_32 ?_
      refine lv_topi (fun v9 hvv9 => ?_)
      replace h := k_bb h v9 hvv9
      by_cases c10 : v9 = 0
      · replace h := (k_if h).1 c10
        refine m_tsw (k := 0) (tgt := 176) hx hb dL_law_33 c10 (by decide) (by decide) rfl (by decide) ?_
        refine lv_aload_n hx hb dL_law_176 rfl (lv_at hl 1 rfl) ?_
        obtain ⟨ok11, h⟩ := k_gd h
        obtain ⟨w12, hzw12, h⟩ := k_bd h
        refine m_callV (C := RX7) (T := TX7) (N := 8) (ci := 7) (n := 0) (As := []) (rest := []) (st1 := (.int w12 :: [])) E hM hl.1 ok11 (by decide) rfl rfl (c_X7_status l D cy sz s.heap u b1 hzw12) wl_L_13 wm_X7_status ws_X7_status wi_X7 wd_X7_status rfl rfl (by decide +kernel) ⟨by decide, by decide⟩ rfl rfl (by first | exact Nat.le_of_ble_eq_true rfl | simp [rv_cat, cat_i, cat_l, cat_r, cat_n]) dL_law_177 ⟨by show _ ≤ room_1.cells; omega, by show _ ≤ room_1.slots; omega⟩ rfl (fun H locs hM => ?_)
        refine lv_aload_n hx hb dL_law_180 rfl (lv_at hl 2 rfl) ?_
        obtain ⟨ok13, h⟩ := k_gd h
        obtain ⟨w14, hzw14, h⟩ := k_bd h
        refine m_callV (C := RX8) (T := TX8) (N := 33) (ci := 8) (n := 0) (As := []) (rest := [.int w12]) (st1 := (.int w14.1 :: [.int w12])) E hM hl.1 ok13 (by decide) rfl rfl (c_X8_status l D cy sz s.heap u b2 hzw14) wl_L_17 wm_X8_status ws_X8_status wi_X8 wd_X8_status rfl rfl (by decide +kernel) ⟨by decide, by decide⟩ rfl rfl (by first | exact Nat.le_of_ble_eq_true rfl | simp [rv_cat, cat_i, cat_l, cat_r, cat_n]) dL_law_181 ⟨by show _ ≤ room_1.cells; omega, by show _ ≤ room_1.slots; omega⟩ rfl (fun H locs hM => ?_)
        refine lv_icmp_eq (tgt := 1331) hx hb dL_law_184 (by decide) (fun c15 => ?_) (fun c15 => ?_)
        · replace h := (k_if h).1 c15
          obtain ⟨v16, hvv16⟩ : ∃ y : Int32, y = a3 + (6) := ⟨_, rfl⟩
          replace h := k_bb h v16 hvv16
          refine lv_iinc (v := v16) (lv' := [(3, .int v16), (0, .ref b), (1, .ref (sz + b1)), (2, .ref (sz + b2))]) hx hb dL_law_1331 hl (k := 3) rfl (by rw [hvv16]; rfl) (by decide) (by first | rfl | simp [rv_cat, cat_i, cat_l, cat_r, cat_n]) (fun ls hl => ?_)
          refine lv_goto (tgt := 18) hx hb dL_law_1334 (by decide) ?_
          exact ih _ _ H locs ls _ _ (by omega) (by omega) hM (lv_sub hl [1, 2, 3, 0] rfl) h
        · replace h := (k_if h).2 c15
          refine lv_iconst (v := 0) hx hb dL_law_187 (by decide) ?_
          exact absurd h (by decide)
      replace h := (k_if h).2 c10
      by_cases c17 : v9 = 1
      · replace h := (k_if h).1 c17
        refine m_tsw (k := 1) (tgt := 189) hx hb dL_law_33 c17 (by decide) (by decide) rfl (by decide) ?_
        refine lv_aload_n hx hb dL_law_189 rfl (lv_at hl 1 rfl) ?_
        refine lv_aload_n hx hb dL_law_190 rfl (lv_at hl 0 rfl) ?_
        refine lv_iload_n hx hb dL_law_191 rfl (lv_at hl 3 rfl) ?_
        refine lv_iconst (v := 1) hx hb dL_law_192 (by decide) ?_
        refine lv_iadd hx hb dL_law_193 ?_
        obtain ⟨ok18, h⟩ := k_gd h
        refine va_sld hx hb hX hbl hbA (hM.S hsz) (okS_1 ok18) dL_law_194 ?_
        refine lv_aload_n hx hb dL_law_195 rfl (lv_at hl 0 rfl) ?_
        refine lv_iload_n hx hb dL_law_196 rfl (lv_at hl 3 rfl) ?_
        refine lv_iconst (v := 2) hx hb dL_law_197 (by decide) ?_
        refine lv_iadd hx hb dL_law_198 ?_
        obtain ⟨ok19, h⟩ := k_gd h
        refine va_sld hx hb hX hbl hbA (hM.S hsz) (okS_1 ok19) dL_law_199 ?_
        refine lv_aload_n hx hb dL_law_200 rfl (lv_at hl 0 rfl) ?_
        refine lv_iload_n hx hb dL_law_201 rfl (lv_at hl 3 rfl) ?_
        refine lv_iconst (v := 3) hx hb dL_law_202 (by decide) ?_
        refine lv_iadd hx hb dL_law_203 ?_
        obtain ⟨ok20, h⟩ := k_gd h
        refine va_sld hx hb hX hbl hbA (hM.S hsz) (okS_1 ok20) dL_law_204 ?_
        obtain ⟨ok21, h⟩ := k_gd h
        obtain ⟨w22, hzw22, h⟩ := k_bd h
        refine m_callV (C := RX7) (T := TX7) (N := 8) (ci := 7) (n := 3) (As := [.int (xs (Int32.toNatClampNeg (a3 + (1 : Int32)))), .int (xs (Int32.toNatClampNeg (a3 + (2 : Int32)))), .int (xs (Int32.toNatClampNeg (a3 + (3 : Int32))))]) (rest := []) (st1 := (.int w22.1 :: [])) E hM hl.1 ok21 (by decide) rfl rfl (c_X7_tray l D cy sz s.heap u b1 (xs (Int32.toNatClampNeg (a3 + (1 : Int32)))) (xs (Int32.toNatClampNeg (a3 + (2 : Int32)))) (xs (Int32.toNatClampNeg (a3 + (3 : Int32)))) hzw22) wl_L_18 wm_X7_tray ws_X7_tray wi_X7 wd_X7_tray rfl rfl (by decide +kernel) ⟨by decide, by decide⟩ rfl rfl (by first | exact Nat.le_of_ble_eq_true rfl | simp [rv_cat, cat_i, cat_l, cat_r, cat_n]) dL_law_205 ⟨by show _ ≤ room_1.cells; omega, by show _ ≤ room_1.slots; omega⟩ rfl (fun H locs hM => ?_)
        refine lv_aload_n hx hb dL_law_208 rfl (lv_at hl 2 rfl) ?_
        refine lv_aload_n hx hb dL_law_209 rfl (lv_at hl 0 rfl) ?_
        refine lv_iload_n hx hb dL_law_210 rfl (lv_at hl 3 rfl) ?_
        refine lv_iconst (v := 1) hx hb dL_law_211 (by decide) ?_
        refine lv_iadd hx hb dL_law_212 ?_
        obtain ⟨ok23, h⟩ := k_gd h
        refine va_sld hx hb hX hbl hbA (hM.S hsz) (okS_1 ok23) dL_law_213 ?_
        refine lv_aload_n hx hb dL_law_214 rfl (lv_at hl 0 rfl) ?_
        refine lv_iload_n hx hb dL_law_215 rfl (lv_at hl 3 rfl) ?_
        refine lv_iconst (v := 2) hx hb dL_law_216 (by decide) ?_
        refine lv_iadd hx hb dL_law_217 ?_
        obtain ⟨ok24, h⟩ := k_gd h
        refine va_sld hx hb hX hbl hbA (hM.S hsz) (okS_1 ok24) dL_law_218 ?_
        refine lv_aload_n hx hb dL_law_219 rfl (lv_at hl 0 rfl) ?_
        refine lv_iload_n hx hb dL_law_220 rfl (lv_at hl 3 rfl) ?_
        refine lv_iconst (v := 3) hx hb dL_law_221 (by decide) ?_
        refine lv_iadd hx hb dL_law_222 ?_
        obtain ⟨ok25, h⟩ := k_gd h
        refine va_sld hx hb hX hbl hbA (hM.S hsz) (okS_1 ok25) dL_law_223 ?_
        obtain ⟨ok26, h⟩ := k_gd h
        obtain ⟨w27, hzw27, h⟩ := k_bd h
        refine m_callV (C := RX8) (T := TX8) (N := 33) (ci := 8) (n := 3) (As := [.int (xs (Int32.toNatClampNeg (a3 + (1 : Int32)))), .int (xs (Int32.toNatClampNeg (a3 + (2 : Int32)))), .int (xs (Int32.toNatClampNeg (a3 + (3 : Int32))))]) (rest := [.int w22.1]) (st1 := (.int w27.1 :: [.int w22.1])) E hM hl.1 ok26 (by decide) rfl rfl (c_X8_tray l D cy sz s.heap w22.2 b2 (xs (Int32.toNatClampNeg (a3 + (1 : Int32)))) (xs (Int32.toNatClampNeg (a3 + (2 : Int32)))) (xs (Int32.toNatClampNeg (a3 + (3 : Int32)))) hzw27) wl_L_22 wm_X8_tray ws_X8_tray wi_X8 wd_X8_tray rfl rfl (by decide +kernel) ⟨by decide, by decide⟩ rfl rfl (by first | exact Nat.le_of_ble_eq_true rfl | simp [rv_cat, cat_i, cat_l, cat_r, cat_n]) dL_law_224 ⟨by show _ ≤ room_1.cells; omega, by show _ ≤ room_1.slots; omega⟩ rfl (fun H locs hM => ?_)
        refine lv_icmp_eq (tgt := 1331) hx hb dL_law_227 (by decide) (fun c28 => ?_) (fun c28 => ?_)
        · replace h := (k_if h).1 c28
          obtain ⟨v29, hvv29⟩ : ∃ y : Int32, y = a3 + (6) := ⟨_, rfl⟩
          replace h := k_bb h v29 hvv29
          refine lv_iinc (v := v29) (lv' := [(3, .int v29), (0, .ref b), (1, .ref (sz + b1)), (2, .ref (sz + b2))]) hx hb dL_law_1331 hl (k := 3) rfl (by rw [hvv29]; rfl) (by decide) (by first | rfl | simp [rv_cat, cat_i, cat_l, cat_r, cat_n]) (fun ls hl => ?_)
          refine lv_goto (tgt := 18) hx hb dL_law_1334 (by decide) ?_
          exact ih _ _ H locs ls _ _ (by omega) (by omega) hM (lv_sub hl [1, 2, 3, 0] rfl) h
        · replace h := (k_if h).2 c28
          refine lv_iconst (v := 0) hx hb dL_law_230 (by decide) ?_
          exact absurd h (by decide)
      replace h := (k_if h).2 c17
      by_cases c30 : v9 = 2
      · replace h := (k_if h).1 c30
        refine m_tsw (k := 2) (tgt := 232) hx hb dL_law_33 c30 (by decide) (by decide) rfl (by decide) ?_
        refine lv_aload_n hx hb dL_law_232 rfl (lv_at hl 1 rfl) ?_
        refine lv_aload_n hx hb dL_law_233 rfl (lv_at hl 0 rfl) ?_
        refine lv_iload_n hx hb dL_law_234 rfl (lv_at hl 3 rfl) ?_
        refine lv_iconst (v := 1) hx hb dL_law_235 (by decide) ?_
        refine lv_iadd hx hb dL_law_236 ?_
        obtain ⟨ok31, h⟩ := k_gd h
        refine va_sld hx hb hX hbl hbA (hM.S hsz) (okS_1 ok31) dL_law_237 ?_
        refine lv_aload_n hx hb dL_law_238 rfl (lv_at hl 0 rfl) ?_
        refine lv_iload_n hx hb dL_law_239 rfl (lv_at hl 3 rfl) ?_
        refine lv_iconst (v := 2) hx hb dL_law_240 (by decide) ?_
        refine lv_iadd hx hb dL_law_241 ?_
        obtain ⟨ok32, h⟩ := k_gd h
        refine va_sld hx hb hX hbl hbA (hM.S hsz) (okS_1 ok32) dL_law_242 ?_
        refine lv_aload_n hx hb dL_law_243 rfl (lv_at hl 0 rfl) ?_
        refine lv_iload_n hx hb dL_law_244 rfl (lv_at hl 3 rfl) ?_
        refine lv_iconst (v := 3) hx hb dL_law_245 (by decide) ?_
        refine lv_iadd hx hb dL_law_246 ?_
        obtain ⟨ok33, h⟩ := k_gd h
        refine va_sld hx hb hX hbl hbA (hM.S hsz) (okS_1 ok33) dL_law_247 ?_
        refine lv_i2l hx hb dL_law_248 rfl ?_
        refine lv_bipush (v := 32) hx hb dL_law_249 (by decide) ?_
        refine lv_lshl hx hb dL_law_251 rfl ?_
        refine lv_aload_n hx hb dL_law_252 rfl (lv_at hl 0 rfl) ?_
        refine lv_iload_n hx hb dL_law_253 rfl (lv_at hl 3 rfl) ?_
        refine lv_iconst (v := 4) hx hb dL_law_254 (by decide) ?_
        refine lv_iadd hx hb dL_law_255 ?_
        obtain ⟨ok34, h⟩ := k_gd h
        refine va_sld hx hb hX hbl hbA (hM.S hsz) (okS_1 ok34) dL_law_256 ?_
        refine lv_i2l hx hb dL_law_257 rfl ?_
        refine lv_ldc2 hx hb hown (hts _ wk_L_23) dL_law_258 ?_
        refine lv_land hx hb dL_law_261 ?_
        refine lv_lor hx hb dL_law_262 ?_
        obtain ⟨ok35, h⟩ := k_gd h
        obtain ⟨w36, hzw36, h⟩ := k_bd h
        refine m_callV (C := RX7) (T := TX7) (N := 8) (ci := 7) (n := 3) (As := [.int (xs (Int32.toNatClampNeg (a3 + (1 : Int32)))), .int (xs (Int32.toNatClampNeg (a3 + (2 : Int32)))), .long (((Int32.toInt64 (xs (Int32.toNatClampNeg (a3 + (3 : Int32))))) <<< (Int32.toInt64 (32 : Int32) &&& 63)) ||| ((Int32.toInt64 (xs (Int32.toNatClampNeg (a3 + (4 : Int32))))) &&& (4294967295 : Int64)))]) (rest := []) (st1 := (.int w36.1 :: [])) E hM hl.1 ok35 (by decide) rfl rfl (c_X7_write l D cy sz s.heap u b1 (xs (Int32.toNatClampNeg (a3 + (1 : Int32)))) (xs (Int32.toNatClampNeg (a3 + (2 : Int32)))) (((Int32.toInt64 (xs (Int32.toNatClampNeg (a3 + (3 : Int32))))) <<< (Int32.toInt64 (32 : Int32) &&& 63)) ||| ((Int32.toInt64 (xs (Int32.toNatClampNeg (a3 + (4 : Int32))))) &&& (4294967295 : Int64))) hzw36) wl_L_25 wm_X7_write ws_X7_write wi_X7 wd_X7_write rfl rfl (by decide +kernel) ⟨by decide, by decide⟩ rfl rfl (by first | exact Nat.le_of_ble_eq_true rfl | simp [rv_cat, cat_i, cat_l, cat_r, cat_n]) dL_law_263 ⟨by show _ ≤ room_1.cells; omega, by show _ ≤ room_1.slots; omega⟩ rfl (fun H locs hM => ?_)
        refine lv_aload_n hx hb dL_law_266 rfl (lv_at hl 2 rfl) ?_
        refine lv_aload_n hx hb dL_law_267 rfl (lv_at hl 0 rfl) ?_
        refine lv_iload_n hx hb dL_law_268 rfl (lv_at hl 3 rfl) ?_
        refine lv_iconst (v := 1) hx hb dL_law_269 (by decide) ?_
        refine lv_iadd hx hb dL_law_270 ?_
        obtain ⟨ok37, h⟩ := k_gd h
        refine va_sld hx hb hX hbl hbA (hM.S hsz) (okS_1 ok37) dL_law_271 ?_
        refine lv_aload_n hx hb dL_law_272 rfl (lv_at hl 0 rfl) ?_
        refine lv_iload_n hx hb dL_law_273 rfl (lv_at hl 3 rfl) ?_
        refine lv_iconst (v := 2) hx hb dL_law_274 (by decide) ?_
        refine lv_iadd hx hb dL_law_275 ?_
        obtain ⟨ok38, h⟩ := k_gd h
        refine va_sld hx hb hX hbl hbA (hM.S hsz) (okS_1 ok38) dL_law_276 ?_
        refine lv_aload_n hx hb dL_law_277 rfl (lv_at hl 0 rfl) ?_
        refine lv_iload_n hx hb dL_law_278 rfl (lv_at hl 3 rfl) ?_
        refine lv_iconst (v := 3) hx hb dL_law_279 (by decide) ?_
        refine lv_iadd hx hb dL_law_280 ?_
        obtain ⟨ok39, h⟩ := k_gd h
        refine va_sld hx hb hX hbl hbA (hM.S hsz) (okS_1 ok39) dL_law_281 ?_
        refine lv_i2l hx hb dL_law_282 rfl ?_
        refine lv_bipush (v := 32) hx hb dL_law_283 (by decide) ?_
        refine lv_lshl hx hb dL_law_285 rfl ?_
        refine lv_aload_n hx hb dL_law_286 rfl (lv_at hl 0 rfl) ?_
        refine lv_iload_n hx hb dL_law_287 rfl (lv_at hl 3 rfl) ?_
        refine lv_iconst (v := 4) hx hb dL_law_288 (by decide) ?_
        refine lv_iadd hx hb dL_law_289 ?_
        obtain ⟨ok40, h⟩ := k_gd h
        refine va_sld hx hb hX hbl hbA (hM.S hsz) (okS_1 ok40) dL_law_290 ?_
        refine lv_i2l hx hb dL_law_291 rfl ?_
        refine lv_ldc2 hx hb hown (hts _ wk_L_23) dL_law_292 ?_
        refine lv_land hx hb dL_law_295 ?_
        refine lv_lor hx hb dL_law_296 ?_
        obtain ⟨ok41, h⟩ := k_gd h
        obtain ⟨w42, hzw42, h⟩ := k_bd h
        refine m_callV (C := RX8) (T := TX8) (N := 33) (ci := 8) (n := 3) (As := [.int (xs (Int32.toNatClampNeg (a3 + (1 : Int32)))), .int (xs (Int32.toNatClampNeg (a3 + (2 : Int32)))), .long (((Int32.toInt64 (xs (Int32.toNatClampNeg (a3 + (3 : Int32))))) <<< (Int32.toInt64 (32 : Int32) &&& 63)) ||| ((Int32.toInt64 (xs (Int32.toNatClampNeg (a3 + (4 : Int32))))) &&& (4294967295 : Int64)))]) (rest := [.int w36.1]) (st1 := (.int w42.1 :: [.int w36.1])) E hM hl.1 ok41 (by decide) rfl rfl (c_X8_write l D cy sz s.heap w36.2 b2 (xs (Int32.toNatClampNeg (a3 + (1 : Int32)))) (xs (Int32.toNatClampNeg (a3 + (2 : Int32)))) (((Int32.toInt64 (xs (Int32.toNatClampNeg (a3 + (3 : Int32))))) <<< (Int32.toInt64 (32 : Int32) &&& 63)) ||| ((Int32.toInt64 (xs (Int32.toNatClampNeg (a3 + (4 : Int32))))) &&& (4294967295 : Int64))) hzw42) wl_L_29 wm_X8_write ws_X8_write wi_X8 wd_X8_write rfl rfl (by decide +kernel) ⟨by decide, by decide⟩ rfl rfl (by first | exact Nat.le_of_ble_eq_true rfl | simp [rv_cat, cat_i, cat_l, cat_r, cat_n]) dL_law_297 ⟨by show _ ≤ room_1.cells; omega, by show _ ≤ room_1.slots; omega⟩ rfl (fun H locs hM => ?_)
        refine lv_icmp_eq (tgt := 1331) hx hb dL_law_300 (by decide) (fun c43 => ?_) (fun c43 => ?_)
        · replace h := (k_if h).1 c43
          obtain ⟨v44, hvv44⟩ : ∃ y : Int32, y = a3 + (6) := ⟨_, rfl⟩
          replace h := k_bb h v44 hvv44
          refine lv_iinc (v := v44) (lv' := [(3, .int v44), (0, .ref b), (1, .ref (sz + b1)), (2, .ref (sz + b2))]) hx hb dL_law_1331 hl (k := 3) rfl (by rw [hvv44]; rfl) (by decide) (by first | rfl | simp [rv_cat, cat_i, cat_l, cat_r, cat_n]) (fun ls hl => ?_)
          refine lv_goto (tgt := 18) hx hb dL_law_1334 (by decide) ?_
          exact ih _ _ H locs ls _ _ (by omega) (by omega) hM (lv_sub hl [1, 2, 3, 0] rfl) h
        · replace h := (k_if h).2 c43
          refine lv_iconst (v := 0) hx hb dL_law_303 (by decide) ?_
          exact absurd h (by decide)
      replace h := (k_if h).2 c30
      by_cases c45 : v9 = 3
      · replace h := (k_if h).1 c45
        refine m_tsw (k := 3) (tgt := 305) hx hb dL_law_33 c45 (by decide) (by decide) rfl (by decide) ?_
        refine lv_aload_n hx hb dL_law_305 rfl (lv_at hl 1 rfl) ?_
        refine lv_aload_n hx hb dL_law_306 rfl (lv_at hl 0 rfl) ?_
        refine lv_iload_n hx hb dL_law_307 rfl (lv_at hl 3 rfl) ?_
        refine lv_iconst (v := 1) hx hb dL_law_308 (by decide) ?_
        refine lv_iadd hx hb dL_law_309 ?_
        obtain ⟨ok46, h⟩ := k_gd h
        refine va_sld hx hb hX hbl hbA (hM.S hsz) (okS_1 ok46) dL_law_310 ?_
        refine lv_aload_n hx hb dL_law_311 rfl (lv_at hl 0 rfl) ?_
        refine lv_iload_n hx hb dL_law_312 rfl (lv_at hl 3 rfl) ?_
        refine lv_iconst (v := 2) hx hb dL_law_313 (by decide) ?_
        refine lv_iadd hx hb dL_law_314 ?_
        obtain ⟨ok47, h⟩ := k_gd h
        refine va_sld hx hb hX hbl hbA (hM.S hsz) (okS_1 ok47) dL_law_315 ?_
        obtain ⟨ok48, h⟩ := k_gd h
        obtain ⟨w49, hzw49, h⟩ := k_bd h
        refine m_callV (C := RX7) (T := TX7) (N := 8) (ci := 7) (n := 2) (As := [.int (xs (Int32.toNatClampNeg (a3 + (1 : Int32)))), .int (xs (Int32.toNatClampNeg (a3 + (2 : Int32))))]) (rest := []) (st1 := (.long w49.1 :: [])) E hM hl.1 ok48 (by decide) rfl rfl (c_X7_read l D cy sz s.heap u b1 (xs (Int32.toNatClampNeg (a3 + (1 : Int32)))) (xs (Int32.toNatClampNeg (a3 + (2 : Int32)))) hzw49) wl_L_30 wm_X7_read ws_X7_read wi_X7 wd_X7_read rfl rfl (by decide +kernel) ⟨by decide, by decide⟩ rfl rfl (by first | exact Nat.le_of_ble_eq_true rfl | simp [rv_cat, cat_i, cat_l, cat_r, cat_n]) dL_law_316 ⟨by show _ ≤ room_1.cells; omega, by show _ ≤ room_1.slots; omega⟩ rfl (fun H locs hM => ?_)
        refine lv_aload_n hx hb dL_law_319 rfl (lv_at hl 2 rfl) ?_
        refine lv_aload_n hx hb dL_law_320 rfl (lv_at hl 0 rfl) ?_
        refine lv_iload_n hx hb dL_law_321 rfl (lv_at hl 3 rfl) ?_
        refine lv_iconst (v := 1) hx hb dL_law_322 (by decide) ?_
        refine lv_iadd hx hb dL_law_323 ?_
        obtain ⟨ok50, h⟩ := k_gd h
        refine va_sld hx hb hX hbl hbA (hM.S hsz) (okS_1 ok50) dL_law_324 ?_
        refine lv_aload_n hx hb dL_law_325 rfl (lv_at hl 0 rfl) ?_
        refine lv_iload_n hx hb dL_law_326 rfl (lv_at hl 3 rfl) ?_
        refine lv_iconst (v := 2) hx hb dL_law_327 (by decide) ?_
        refine lv_iadd hx hb dL_law_328 ?_
        obtain ⟨ok51, h⟩ := k_gd h
        refine va_sld hx hb hX hbl hbA (hM.S hsz) (okS_1 ok51) dL_law_329 ?_
        obtain ⟨ok52, h⟩ := k_gd h
        obtain ⟨w53, hzw53, h⟩ := k_bd h
        refine m_callV (C := RX8) (T := TX8) (N := 33) (ci := 8) (n := 2) (As := [.int (xs (Int32.toNatClampNeg (a3 + (1 : Int32)))), .int (xs (Int32.toNatClampNeg (a3 + (2 : Int32))))]) (rest := [.long w49.1]) (st1 := (.long w53.1 :: [.long w49.1])) E hM hl.1 ok52 (by decide) rfl rfl (c_X8_read l D cy sz s.heap w49.2 b2 (xs (Int32.toNatClampNeg (a3 + (1 : Int32)))) (xs (Int32.toNatClampNeg (a3 + (2 : Int32)))) hzw53) wl_L_34 wm_X8_read ws_X8_read wi_X8 wd_X8_read rfl rfl (by decide +kernel) ⟨by decide, by decide⟩ rfl rfl (by first | exact Nat.le_of_ble_eq_true rfl | simp [rv_cat, cat_i, cat_l, cat_r, cat_n]) dL_law_330 ⟨by show _ ≤ room_1.cells; omega, by show _ ≤ room_1.slots; omega⟩ rfl (fun H locs hM => ?_)
        refine W.lcmp hx hb dL_law_333 ?_
        refine lv_if_eq (tgt := 1331) hx hb dL_law_334 (by decide) (fun c54 => ?_) (fun c54 => ?_)
        · replace h := (k_if h).1 c54
          obtain ⟨v55, hvv55⟩ : ∃ y : Int32, y = a3 + (6) := ⟨_, rfl⟩
          replace h := k_bb h v55 hvv55
          refine lv_iinc (v := v55) (lv' := [(3, .int v55), (0, .ref b), (1, .ref (sz + b1)), (2, .ref (sz + b2))]) hx hb dL_law_1331 hl (k := 3) rfl (by rw [hvv55]; rfl) (by decide) (by first | rfl | simp [rv_cat, cat_i, cat_l, cat_r, cat_n]) (fun ls hl => ?_)
          refine lv_goto (tgt := 18) hx hb dL_law_1334 (by decide) ?_
          exact ih _ _ H locs ls _ _ (by omega) (by omega) hM (lv_sub hl [1, 2, 3, 0] rfl) h
        · replace h := (k_if h).2 c54
          refine lv_iconst (v := 0) hx hb dL_law_337 (by decide) ?_
          exact absurd h (by decide)
      replace h := (k_if h).2 c45
      by_cases c56 : v9 = 4
      · replace h := (k_if h).1 c56
        refine m_tsw (k := 4) (tgt := 339) hx hb dL_law_33 c56 (by decide) (by decide) rfl (by decide) ?_
        refine lv_aload_n hx hb dL_law_339 rfl (lv_at hl 1 rfl) ?_
        refine lv_aload_n hx hb dL_law_340 rfl (lv_at hl 0 rfl) ?_
        refine lv_iload_n hx hb dL_law_341 rfl (lv_at hl 3 rfl) ?_
        refine lv_iconst (v := 1) hx hb dL_law_342 (by decide) ?_
        refine lv_iadd hx hb dL_law_343 ?_
        obtain ⟨ok57, h⟩ := k_gd h
        refine va_sld hx hb hX hbl hbA (hM.S hsz) (okS_1 ok57) dL_law_344 ?_
        refine lv_aload_n hx hb dL_law_345 rfl (lv_at hl 0 rfl) ?_
        refine lv_iload_n hx hb dL_law_346 rfl (lv_at hl 3 rfl) ?_
        refine lv_iconst (v := 2) hx hb dL_law_347 (by decide) ?_
        refine lv_iadd hx hb dL_law_348 ?_
        obtain ⟨ok58, h⟩ := k_gd h
        refine va_sld hx hb hX hbl hbA (hM.S hsz) (okS_1 ok58) dL_law_349 ?_
        refine lv_aload_n hx hb dL_law_350 rfl (lv_at hl 0 rfl) ?_
        refine lv_iload_n hx hb dL_law_351 rfl (lv_at hl 3 rfl) ?_
        refine lv_iconst (v := 3) hx hb dL_law_352 (by decide) ?_
        refine lv_iadd hx hb dL_law_353 ?_
        obtain ⟨ok59, h⟩ := k_gd h
        refine va_sld hx hb hX hbl hbA (hM.S hsz) (okS_1 ok59) dL_law_354 ?_
        refine lv_aload_n hx hb dL_law_355 rfl (lv_at hl 0 rfl) ?_
        refine lv_iload_n hx hb dL_law_356 rfl (lv_at hl 3 rfl) ?_
        refine lv_iconst (v := 4) hx hb dL_law_357 (by decide) ?_
        refine lv_iadd hx hb dL_law_358 ?_
        obtain ⟨ok60, h⟩ := k_gd h
        refine va_sld hx hb hX hbl hbA (hM.S hsz) (okS_1 ok60) dL_law_359 ?_
        refine lv_aload_n hx hb dL_law_360 rfl (lv_at hl 0 rfl) ?_
        refine lv_iload_n hx hb dL_law_361 rfl (lv_at hl 3 rfl) ?_
        refine lv_iconst (v := 5) hx hb dL_law_362 (by decide) ?_
        refine lv_iadd hx hb dL_law_363 ?_
        obtain ⟨ok61, h⟩ := k_gd h
        refine va_sld hx hb hX hbl hbA (hM.S hsz) (okS_1 ok61) dL_law_364 ?_
        obtain ⟨ok62, h⟩ := k_gd h
        obtain ⟨w63, hzw63, h⟩ := k_bd h
        refine m_callV (C := RX7) (T := TX7) (N := 8) (ci := 7) (n := 5) (As := [.int (xs (Int32.toNatClampNeg (a3 + (1 : Int32)))), .int (xs (Int32.toNatClampNeg (a3 + (2 : Int32)))), .int (xs (Int32.toNatClampNeg (a3 + (3 : Int32)))), .int (xs (Int32.toNatClampNeg (a3 + (4 : Int32)))), .int (xs (Int32.toNatClampNeg (a3 + (5 : Int32))))]) (rest := []) (st1 := (.int w63.1 :: [])) E hM hl.1 ok62 (by decide) rfl rfl (c_X7_pour l D cy sz s.heap u b1 (xs (Int32.toNatClampNeg (a3 + (1 : Int32)))) (xs (Int32.toNatClampNeg (a3 + (2 : Int32)))) (xs (Int32.toNatClampNeg (a3 + (3 : Int32)))) (xs (Int32.toNatClampNeg (a3 + (4 : Int32)))) (xs (Int32.toNatClampNeg (a3 + (5 : Int32)))) hzw63) wl_L_35 wm_X7_pour ws_X7_pour wi_X7 wd_X7_pour rfl rfl (by decide +kernel) ⟨by decide, by decide⟩ rfl rfl (by first | exact Nat.le_of_ble_eq_true rfl | simp [rv_cat, cat_i, cat_l, cat_r, cat_n]) dL_law_365 ⟨by show _ ≤ room_1.cells; omega, by show _ ≤ room_1.slots; omega⟩ rfl (fun H locs hM => ?_)
        refine lv_aload_n hx hb dL_law_368 rfl (lv_at hl 2 rfl) ?_
        refine lv_aload_n hx hb dL_law_369 rfl (lv_at hl 0 rfl) ?_
        refine lv_iload_n hx hb dL_law_370 rfl (lv_at hl 3 rfl) ?_
        refine lv_iconst (v := 1) hx hb dL_law_371 (by decide) ?_
        refine lv_iadd hx hb dL_law_372 ?_
        obtain ⟨ok64, h⟩ := k_gd h
        refine va_sld hx hb hX hbl hbA (hM.S hsz) (okS_1 ok64) dL_law_373 ?_
        refine lv_aload_n hx hb dL_law_374 rfl (lv_at hl 0 rfl) ?_
        refine lv_iload_n hx hb dL_law_375 rfl (lv_at hl 3 rfl) ?_
        refine lv_iconst (v := 2) hx hb dL_law_376 (by decide) ?_
        refine lv_iadd hx hb dL_law_377 ?_
        obtain ⟨ok65, h⟩ := k_gd h
        refine va_sld hx hb hX hbl hbA (hM.S hsz) (okS_1 ok65) dL_law_378 ?_
        refine lv_aload_n hx hb dL_law_379 rfl (lv_at hl 0 rfl) ?_
        refine lv_iload_n hx hb dL_law_380 rfl (lv_at hl 3 rfl) ?_
        refine lv_iconst (v := 3) hx hb dL_law_381 (by decide) ?_
        refine lv_iadd hx hb dL_law_382 ?_
        obtain ⟨ok66, h⟩ := k_gd h
        refine va_sld hx hb hX hbl hbA (hM.S hsz) (okS_1 ok66) dL_law_383 ?_
        refine lv_aload_n hx hb dL_law_384 rfl (lv_at hl 0 rfl) ?_
        refine lv_iload_n hx hb dL_law_385 rfl (lv_at hl 3 rfl) ?_
        refine lv_iconst (v := 4) hx hb dL_law_386 (by decide) ?_
        refine lv_iadd hx hb dL_law_387 ?_
        obtain ⟨ok67, h⟩ := k_gd h
        refine va_sld hx hb hX hbl hbA (hM.S hsz) (okS_1 ok67) dL_law_388 ?_
        refine lv_aload_n hx hb dL_law_389 rfl (lv_at hl 0 rfl) ?_
        refine lv_iload_n hx hb dL_law_390 rfl (lv_at hl 3 rfl) ?_
        refine lv_iconst (v := 5) hx hb dL_law_391 (by decide) ?_
        refine lv_iadd hx hb dL_law_392 ?_
        obtain ⟨ok68, h⟩ := k_gd h
        refine va_sld hx hb hX hbl hbA (hM.S hsz) (okS_1 ok68) dL_law_393 ?_
        obtain ⟨ok69, h⟩ := k_gd h
        obtain ⟨w70, hzw70, h⟩ := k_bd h
        refine m_callV (C := RX8) (T := TX8) (N := 33) (ci := 8) (n := 5) (As := [.int (xs (Int32.toNatClampNeg (a3 + (1 : Int32)))), .int (xs (Int32.toNatClampNeg (a3 + (2 : Int32)))), .int (xs (Int32.toNatClampNeg (a3 + (3 : Int32)))), .int (xs (Int32.toNatClampNeg (a3 + (4 : Int32)))), .int (xs (Int32.toNatClampNeg (a3 + (5 : Int32))))]) (rest := [.int w63.1]) (st1 := (.int w70.1 :: [.int w63.1])) E hM hl.1 ok69 (by decide) rfl rfl (c_X8_pour l D cy sz s.heap w63.2 b2 (xs (Int32.toNatClampNeg (a3 + (1 : Int32)))) (xs (Int32.toNatClampNeg (a3 + (2 : Int32)))) (xs (Int32.toNatClampNeg (a3 + (3 : Int32)))) (xs (Int32.toNatClampNeg (a3 + (4 : Int32)))) (xs (Int32.toNatClampNeg (a3 + (5 : Int32)))) hzw70) wl_L_39 wm_X8_pour ws_X8_pour wi_X8 wd_X8_pour rfl rfl (by decide +kernel) ⟨by decide, by decide⟩ rfl rfl (by first | exact Nat.le_of_ble_eq_true rfl | simp [rv_cat, cat_i, cat_l, cat_r, cat_n]) dL_law_394 ⟨by show _ ≤ room_1.cells; omega, by show _ ≤ room_1.slots; omega⟩ rfl (fun H locs hM => ?_)
        refine lv_icmp_eq (tgt := 1331) hx hb dL_law_397 (by decide) (fun c71 => ?_) (fun c71 => ?_)
        · replace h := (k_if h).1 c71
          obtain ⟨v72, hvv72⟩ : ∃ y : Int32, y = a3 + (6) := ⟨_, rfl⟩
          replace h := k_bb h v72 hvv72
          refine lv_iinc (v := v72) (lv' := [(3, .int v72), (0, .ref b), (1, .ref (sz + b1)), (2, .ref (sz + b2))]) hx hb dL_law_1331 hl (k := 3) rfl (by rw [hvv72]; rfl) (by decide) (by first | rfl | simp [rv_cat, cat_i, cat_l, cat_r, cat_n]) (fun ls hl => ?_)
          refine lv_goto (tgt := 18) hx hb dL_law_1334 (by decide) ?_
          exact ih _ _ H locs ls _ _ (by omega) (by omega) hM (lv_sub hl [1, 2, 3, 0] rfl) h
        · replace h := (k_if h).2 c71
          refine lv_iconst (v := 0) hx hb dL_law_400 (by decide) ?_
          exact absurd h (by decide)
      replace h := (k_if h).2 c56
      by_cases c73 : v9 = 5
      · replace h := (k_if h).1 c73
        refine m_tsw (k := 5) (tgt := 402) hx hb dL_law_33 c73 (by decide) (by decide) rfl (by decide) ?_
        refine lv_aload_n hx hb dL_law_402 rfl (lv_at hl 1 rfl) ?_
        refine lv_aload_n hx hb dL_law_403 rfl (lv_at hl 0 rfl) ?_
        refine lv_iload_n hx hb dL_law_404 rfl (lv_at hl 3 rfl) ?_
        refine lv_iconst (v := 1) hx hb dL_law_405 (by decide) ?_
        refine lv_iadd hx hb dL_law_406 ?_
        obtain ⟨ok74, h⟩ := k_gd h
        refine va_sld hx hb hX hbl hbA (hM.S hsz) (okS_1 ok74) dL_law_407 ?_
        refine lv_aload_n hx hb dL_law_408 rfl (lv_at hl 0 rfl) ?_
        refine lv_iload_n hx hb dL_law_409 rfl (lv_at hl 3 rfl) ?_
        refine lv_iconst (v := 2) hx hb dL_law_410 (by decide) ?_
        refine lv_iadd hx hb dL_law_411 ?_
        obtain ⟨ok75, h⟩ := k_gd h
        refine va_sld hx hb hX hbl hbA (hM.S hsz) (okS_1 ok75) dL_law_412 ?_
        obtain ⟨ok76, h⟩ := k_gd h
        obtain ⟨w77, hzw77, h⟩ := k_bd h
        refine m_callV (C := RX7) (T := TX7) (N := 8) (ci := 7) (n := 2) (As := [.int (xs (Int32.toNatClampNeg (a3 + (1 : Int32)))), .int (xs (Int32.toNatClampNeg (a3 + (2 : Int32))))]) (rest := []) (st1 := (.int w77.1 :: [])) E hM hl.1 ok76 (by decide) rfl rfl (c_X7_thing l D cy sz s.heap u b1 (xs (Int32.toNatClampNeg (a3 + (1 : Int32)))) (xs (Int32.toNatClampNeg (a3 + (2 : Int32)))) hzw77) wl_L_40 wm_X7_thing ws_X7_thing wi_X7 wd_X7_thing rfl rfl (by decide +kernel) ⟨by decide, by decide⟩ rfl rfl (by first | exact Nat.le_of_ble_eq_true rfl | simp [rv_cat, cat_i, cat_l, cat_r, cat_n]) dL_law_413 ⟨by show _ ≤ room_1.cells; omega, by show _ ≤ room_1.slots; omega⟩ rfl (fun H locs hM => ?_)
        refine lv_aload_n hx hb dL_law_416 rfl (lv_at hl 2 rfl) ?_
        refine lv_aload_n hx hb dL_law_417 rfl (lv_at hl 0 rfl) ?_
        refine lv_iload_n hx hb dL_law_418 rfl (lv_at hl 3 rfl) ?_
        refine lv_iconst (v := 1) hx hb dL_law_419 (by decide) ?_
        refine lv_iadd hx hb dL_law_420 ?_
        obtain ⟨ok78, h⟩ := k_gd h
        refine va_sld hx hb hX hbl hbA (hM.S hsz) (okS_1 ok78) dL_law_421 ?_
        refine lv_aload_n hx hb dL_law_422 rfl (lv_at hl 0 rfl) ?_
        refine lv_iload_n hx hb dL_law_423 rfl (lv_at hl 3 rfl) ?_
        refine lv_iconst (v := 2) hx hb dL_law_424 (by decide) ?_
        refine lv_iadd hx hb dL_law_425 ?_
        obtain ⟨ok79, h⟩ := k_gd h
        refine va_sld hx hb hX hbl hbA (hM.S hsz) (okS_1 ok79) dL_law_426 ?_
        obtain ⟨ok80, h⟩ := k_gd h
        obtain ⟨w81, hzw81, h⟩ := k_bd h
        refine m_callV (C := RX8) (T := TX8) (N := 33) (ci := 8) (n := 2) (As := [.int (xs (Int32.toNatClampNeg (a3 + (1 : Int32)))), .int (xs (Int32.toNatClampNeg (a3 + (2 : Int32))))]) (rest := [.int w77.1]) (st1 := (.int w81.1 :: [.int w77.1])) E hM hl.1 ok80 (by decide) rfl rfl (c_X8_thing l D cy sz s.heap w77.2 b2 (xs (Int32.toNatClampNeg (a3 + (1 : Int32)))) (xs (Int32.toNatClampNeg (a3 + (2 : Int32)))) hzw81) wl_L_44 wm_X8_thing ws_X8_thing wi_X8 wd_X8_thing rfl rfl (by decide +kernel) ⟨by decide, by decide⟩ rfl rfl (by first | exact Nat.le_of_ble_eq_true rfl | simp [rv_cat, cat_i, cat_l, cat_r, cat_n]) dL_law_427 ⟨by show _ ≤ room_1.cells; omega, by show _ ≤ room_1.slots; omega⟩ rfl (fun H locs hM => ?_)
        refine lv_icmp_eq (tgt := 1331) hx hb dL_law_430 (by decide) (fun c82 => ?_) (fun c82 => ?_)
        · replace h := (k_if h).1 c82
          obtain ⟨v83, hvv83⟩ : ∃ y : Int32, y = a3 + (6) := ⟨_, rfl⟩
          replace h := k_bb h v83 hvv83
          refine lv_iinc (v := v83) (lv' := [(3, .int v83), (0, .ref b), (1, .ref (sz + b1)), (2, .ref (sz + b2))]) hx hb dL_law_1331 hl (k := 3) rfl (by rw [hvv83]; rfl) (by decide) (by first | rfl | simp [rv_cat, cat_i, cat_l, cat_r, cat_n]) (fun ls hl => ?_)
          refine lv_goto (tgt := 18) hx hb dL_law_1334 (by decide) ?_
          exact ih _ _ H locs ls _ _ (by omega) (by omega) hM (lv_sub hl [1, 2, 3, 0] rfl) h
        · replace h := (k_if h).2 c82
          refine lv_iconst (v := 0) hx hb dL_law_433 (by decide) ?_
          exact absurd h (by decide)
      replace h := (k_if h).2 c73
      by_cases c84 : v9 = 6
      · replace h := (k_if h).1 c84
        refine m_tsw (k := 6) (tgt := 435) hx hb dL_law_33 c84 (by decide) (by decide) rfl (by decide) ?_
        refine lv_aload_n hx hb dL_law_435 rfl (lv_at hl 1 rfl) ?_
        refine lv_aload_n hx hb dL_law_436 rfl (lv_at hl 0 rfl) ?_
        refine lv_iload_n hx hb dL_law_437 rfl (lv_at hl 3 rfl) ?_
        refine lv_iconst (v := 1) hx hb dL_law_438 (by decide) ?_
        refine lv_iadd hx hb dL_law_439 ?_
        obtain ⟨ok85, h⟩ := k_gd h
        refine va_sld hx hb hX hbl hbA (hM.S hsz) (okS_1 ok85) dL_law_440 ?_
        refine lv_aload_n hx hb dL_law_441 rfl (lv_at hl 0 rfl) ?_
        refine lv_iload_n hx hb dL_law_442 rfl (lv_at hl 3 rfl) ?_
        refine lv_iconst (v := 2) hx hb dL_law_443 (by decide) ?_
        refine lv_iadd hx hb dL_law_444 ?_
        obtain ⟨ok86, h⟩ := k_gd h
        refine va_sld hx hb hX hbl hbA (hM.S hsz) (okS_1 ok86) dL_law_445 ?_
        obtain ⟨ok87, h⟩ := k_gd h
        obtain ⟨w88, hzw88, h⟩ := k_bd h
        refine m_callV (C := RX7) (T := TX7) (N := 8) (ci := 7) (n := 2) (As := [.int (xs (Int32.toNatClampNeg (a3 + (1 : Int32)))), .int (xs (Int32.toNatClampNeg (a3 + (2 : Int32))))]) (rest := []) (st1 := (.int w88.1 :: [])) E hM hl.1 ok87 (by decide) rfl rfl (c_X7_told l D cy sz s.heap u b1 (xs (Int32.toNatClampNeg (a3 + (1 : Int32)))) (xs (Int32.toNatClampNeg (a3 + (2 : Int32)))) hzw88) wl_L_45 wm_X7_told ws_X7_told wi_X7 wd_X7_told rfl rfl (by decide +kernel) ⟨by decide, by decide⟩ rfl rfl (by first | exact Nat.le_of_ble_eq_true rfl | simp [rv_cat, cat_i, cat_l, cat_r, cat_n]) dL_law_446 ⟨by show _ ≤ room_1.cells; omega, by show _ ≤ room_1.slots; omega⟩ rfl (fun H locs hM => ?_)
        refine lv_aload_n hx hb dL_law_449 rfl (lv_at hl 2 rfl) ?_
        refine lv_aload_n hx hb dL_law_450 rfl (lv_at hl 0 rfl) ?_
        refine lv_iload_n hx hb dL_law_451 rfl (lv_at hl 3 rfl) ?_
        refine lv_iconst (v := 1) hx hb dL_law_452 (by decide) ?_
        refine lv_iadd hx hb dL_law_453 ?_
        obtain ⟨ok89, h⟩ := k_gd h
        refine va_sld hx hb hX hbl hbA (hM.S hsz) (okS_1 ok89) dL_law_454 ?_
        refine lv_aload_n hx hb dL_law_455 rfl (lv_at hl 0 rfl) ?_
        refine lv_iload_n hx hb dL_law_456 rfl (lv_at hl 3 rfl) ?_
        refine lv_iconst (v := 2) hx hb dL_law_457 (by decide) ?_
        refine lv_iadd hx hb dL_law_458 ?_
        obtain ⟨ok90, h⟩ := k_gd h
        refine va_sld hx hb hX hbl hbA (hM.S hsz) (okS_1 ok90) dL_law_459 ?_
        obtain ⟨ok91, h⟩ := k_gd h
        obtain ⟨w92, hzw92, h⟩ := k_bd h
        refine m_callV (C := RX8) (T := TX8) (N := 33) (ci := 8) (n := 2) (As := [.int (xs (Int32.toNatClampNeg (a3 + (1 : Int32)))), .int (xs (Int32.toNatClampNeg (a3 + (2 : Int32))))]) (rest := [.int w88.1]) (st1 := (.int w92.1 :: [.int w88.1])) E hM hl.1 ok91 (by decide) rfl rfl (c_X8_told l D cy sz s.heap w88.2 b2 (xs (Int32.toNatClampNeg (a3 + (1 : Int32)))) (xs (Int32.toNatClampNeg (a3 + (2 : Int32)))) hzw92) wl_L_48 wm_X8_told ws_X8_told wi_X8 wd_X8_told rfl rfl (by decide +kernel) ⟨by decide, by decide⟩ rfl rfl (by first | exact Nat.le_of_ble_eq_true rfl | simp [rv_cat, cat_i, cat_l, cat_r, cat_n]) dL_law_460 ⟨by show _ ≤ room_1.cells; omega, by show _ ≤ room_1.slots; omega⟩ rfl (fun H locs hM => ?_)
        refine lv_icmp_eq (tgt := 1331) hx hb dL_law_463 (by decide) (fun c93 => ?_) (fun c93 => ?_)
        · replace h := (k_if h).1 c93
          obtain ⟨v94, hvv94⟩ : ∃ y : Int32, y = a3 + (6) := ⟨_, rfl⟩
          replace h := k_bb h v94 hvv94
          refine lv_iinc (v := v94) (lv' := [(3, .int v94), (0, .ref b), (1, .ref (sz + b1)), (2, .ref (sz + b2))]) hx hb dL_law_1331 hl (k := 3) rfl (by rw [hvv94]; rfl) (by decide) (by first | rfl | simp [rv_cat, cat_i, cat_l, cat_r, cat_n]) (fun ls hl => ?_)
          refine lv_goto (tgt := 18) hx hb dL_law_1334 (by decide) ?_
          exact ih _ _ H locs ls _ _ (by omega) (by omega) hM (lv_sub hl [1, 2, 3, 0] rfl) h
        · replace h := (k_if h).2 c93
          refine lv_iconst (v := 0) hx hb dL_law_466 (by decide) ?_
          exact absurd h (by decide)
      replace h := (k_if h).2 c84
      by_cases c95 : v9 = 7
      · replace h := (k_if h).1 c95
        refine m_tsw (k := 7) (tgt := 468) hx hb dL_law_33 c95 (by decide) (by decide) rfl (by decide) ?_
        refine lv_aload_n hx hb dL_law_468 rfl (lv_at hl 1 rfl) ?_
        refine lv_aload_n hx hb dL_law_469 rfl (lv_at hl 0 rfl) ?_
        refine lv_iload_n hx hb dL_law_470 rfl (lv_at hl 3 rfl) ?_
        refine lv_iconst (v := 1) hx hb dL_law_471 (by decide) ?_
        refine lv_iadd hx hb dL_law_472 ?_
        obtain ⟨ok96, h⟩ := k_gd h
        refine va_sld hx hb hX hbl hbA (hM.S hsz) (okS_1 ok96) dL_law_473 ?_
        refine lv_aload_n hx hb dL_law_474 rfl (lv_at hl 0 rfl) ?_
        refine lv_iload_n hx hb dL_law_475 rfl (lv_at hl 3 rfl) ?_
        refine lv_iconst (v := 2) hx hb dL_law_476 (by decide) ?_
        refine lv_iadd hx hb dL_law_477 ?_
        obtain ⟨ok97, h⟩ := k_gd h
        refine va_sld hx hb hX hbl hbA (hM.S hsz) (okS_1 ok97) dL_law_478 ?_
        refine lv_aload_n hx hb dL_law_479 rfl (lv_at hl 0 rfl) ?_
        refine lv_iload_n hx hb dL_law_480 rfl (lv_at hl 3 rfl) ?_
        refine lv_iconst (v := 3) hx hb dL_law_481 (by decide) ?_
        refine lv_iadd hx hb dL_law_482 ?_
        obtain ⟨ok98, h⟩ := k_gd h
        refine va_sld hx hb hX hbl hbA (hM.S hsz) (okS_1 ok98) dL_law_483 ?_
        obtain ⟨ok99, h⟩ := k_gd h
        obtain ⟨w100, hzw100, h⟩ := k_bd h
        refine m_callV (C := RX7) (T := TX7) (N := 8) (ci := 7) (n := 3) (As := [.int (xs (Int32.toNatClampNeg (a3 + (1 : Int32)))), .int (xs (Int32.toNatClampNeg (a3 + (2 : Int32)))), .int (xs (Int32.toNatClampNeg (a3 + (3 : Int32))))]) (rest := []) (st1 := (.int w100.1 :: [])) E hM hl.1 ok99 (by decide) rfl rfl (c_X7_say l D cy sz s.heap u b1 (xs (Int32.toNatClampNeg (a3 + (1 : Int32)))) (xs (Int32.toNatClampNeg (a3 + (2 : Int32)))) (xs (Int32.toNatClampNeg (a3 + (3 : Int32)))) hzw100) wl_L_49 wm_X7_say ws_X7_say wi_X7 wd_X7_say rfl rfl (by decide +kernel) ⟨by decide, by decide⟩ rfl rfl (by first | exact Nat.le_of_ble_eq_true rfl | simp [rv_cat, cat_i, cat_l, cat_r, cat_n]) dL_law_484 ⟨by show _ ≤ room_1.cells; omega, by show _ ≤ room_1.slots; omega⟩ rfl (fun H locs hM => ?_)
        refine lv_aload_n hx hb dL_law_487 rfl (lv_at hl 2 rfl) ?_
        refine lv_aload_n hx hb dL_law_488 rfl (lv_at hl 0 rfl) ?_
        refine lv_iload_n hx hb dL_law_489 rfl (lv_at hl 3 rfl) ?_
        refine lv_iconst (v := 1) hx hb dL_law_490 (by decide) ?_
        refine lv_iadd hx hb dL_law_491 ?_
        obtain ⟨ok101, h⟩ := k_gd h
        refine va_sld hx hb hX hbl hbA (hM.S hsz) (okS_1 ok101) dL_law_492 ?_
        refine lv_aload_n hx hb dL_law_493 rfl (lv_at hl 0 rfl) ?_
        refine lv_iload_n hx hb dL_law_494 rfl (lv_at hl 3 rfl) ?_
        refine lv_iconst (v := 2) hx hb dL_law_495 (by decide) ?_
        refine lv_iadd hx hb dL_law_496 ?_
        obtain ⟨ok102, h⟩ := k_gd h
        refine va_sld hx hb hX hbl hbA (hM.S hsz) (okS_1 ok102) dL_law_497 ?_
        refine lv_aload_n hx hb dL_law_498 rfl (lv_at hl 0 rfl) ?_
        refine lv_iload_n hx hb dL_law_499 rfl (lv_at hl 3 rfl) ?_
        refine lv_iconst (v := 3) hx hb dL_law_500 (by decide) ?_
        refine lv_iadd hx hb dL_law_501 ?_
        obtain ⟨ok103, h⟩ := k_gd h
        refine va_sld hx hb hX hbl hbA (hM.S hsz) (okS_1 ok103) dL_law_502 ?_
        obtain ⟨ok104, h⟩ := k_gd h
        obtain ⟨w105, hzw105, h⟩ := k_bd h
        refine m_callV (C := RX8) (T := TX8) (N := 33) (ci := 8) (n := 3) (As := [.int (xs (Int32.toNatClampNeg (a3 + (1 : Int32)))), .int (xs (Int32.toNatClampNeg (a3 + (2 : Int32)))), .int (xs (Int32.toNatClampNeg (a3 + (3 : Int32))))]) (rest := [.int w100.1]) (st1 := (.int w105.1 :: [.int w100.1])) E hM hl.1 ok104 (by decide) rfl rfl (c_X8_say l D cy sz s.heap w100.2 b2 (xs (Int32.toNatClampNeg (a3 + (1 : Int32)))) (xs (Int32.toNatClampNeg (a3 + (2 : Int32)))) (xs (Int32.toNatClampNeg (a3 + (3 : Int32)))) hzw105) wl_L_52 wm_X8_say ws_X8_say wi_X8 wd_X8_say rfl rfl (by decide +kernel) ⟨by decide, by decide⟩ rfl rfl (by first | exact Nat.le_of_ble_eq_true rfl | simp [rv_cat, cat_i, cat_l, cat_r, cat_n]) dL_law_503 ⟨by show _ ≤ room_1.cells; omega, by show _ ≤ room_1.slots; omega⟩ rfl (fun H locs hM => ?_)
        refine lv_icmp_eq (tgt := 1331) hx hb dL_law_506 (by decide) (fun c106 => ?_) (fun c106 => ?_)
        · replace h := (k_if h).1 c106
          obtain ⟨v107, hvv107⟩ : ∃ y : Int32, y = a3 + (6) := ⟨_, rfl⟩
          replace h := k_bb h v107 hvv107
          refine lv_iinc (v := v107) (lv' := [(3, .int v107), (0, .ref b), (1, .ref (sz + b1)), (2, .ref (sz + b2))]) hx hb dL_law_1331 hl (k := 3) rfl (by rw [hvv107]; rfl) (by decide) (by first | rfl | simp [rv_cat, cat_i, cat_l, cat_r, cat_n]) (fun ls hl => ?_)
          refine lv_goto (tgt := 18) hx hb dL_law_1334 (by decide) ?_
          exact ih _ _ H locs ls _ _ (by omega) (by omega) hM (lv_sub hl [1, 2, 3, 0] rfl) h
        · replace h := (k_if h).2 c106
          refine lv_iconst (v := 0) hx hb dL_law_509 (by decide) ?_
          exact absurd h (by decide)
      replace h := (k_if h).2 c95
      by_cases c108 : v9 = 8
      · replace h := (k_if h).1 c108
        refine m_tsw (k := 8) (tgt := 511) hx hb dL_law_33 c108 (by decide) (by decide) rfl (by decide) ?_
        refine lv_aload_n hx hb dL_law_511 rfl (lv_at hl 1 rfl) ?_
        refine lv_aload_n hx hb dL_law_512 rfl (lv_at hl 0 rfl) ?_
        refine lv_iload_n hx hb dL_law_513 rfl (lv_at hl 3 rfl) ?_
        refine lv_iconst (v := 1) hx hb dL_law_514 (by decide) ?_
        refine lv_iadd hx hb dL_law_515 ?_
        obtain ⟨ok109, h⟩ := k_gd h
        refine va_sld hx hb hX hbl hbA (hM.S hsz) (okS_1 ok109) dL_law_516 ?_
        refine lv_aload_n hx hb dL_law_517 rfl (lv_at hl 0 rfl) ?_
        refine lv_iload_n hx hb dL_law_518 rfl (lv_at hl 3 rfl) ?_
        refine lv_iconst (v := 2) hx hb dL_law_519 (by decide) ?_
        refine lv_iadd hx hb dL_law_520 ?_
        obtain ⟨ok110, h⟩ := k_gd h
        refine va_sld hx hb hX hbl hbA (hM.S hsz) (okS_1 ok110) dL_law_521 ?_
        obtain ⟨ok111, h⟩ := k_gd h
        obtain ⟨w112, hzw112, h⟩ := k_bd h
        refine m_callV (C := RX7) (T := TX7) (N := 8) (ci := 7) (n := 2) (As := [.int (xs (Int32.toNatClampNeg (a3 + (1 : Int32)))), .int (xs (Int32.toNatClampNeg (a3 + (2 : Int32))))]) (rest := []) (st1 := (.int w112.1 :: [])) E hM hl.1 ok111 (by decide) rfl rfl (c_X7_has l D cy sz s.heap u b1 (xs (Int32.toNatClampNeg (a3 + (1 : Int32)))) (xs (Int32.toNatClampNeg (a3 + (2 : Int32)))) hzw112) wl_L_53 wm_X7_has ws_X7_has wi_X7 wd_X7_has rfl rfl (by decide +kernel) ⟨by decide, by decide⟩ rfl rfl (by first | exact Nat.le_of_ble_eq_true rfl | simp [rv_cat, cat_i, cat_l, cat_r, cat_n]) dL_law_522 ⟨by show _ ≤ room_1.cells; omega, by show _ ≤ room_1.slots; omega⟩ rfl (fun H locs hM => ?_)
        refine lv_aload_n hx hb dL_law_525 rfl (lv_at hl 2 rfl) ?_
        refine lv_aload_n hx hb dL_law_526 rfl (lv_at hl 0 rfl) ?_
        refine lv_iload_n hx hb dL_law_527 rfl (lv_at hl 3 rfl) ?_
        refine lv_iconst (v := 1) hx hb dL_law_528 (by decide) ?_
        refine lv_iadd hx hb dL_law_529 ?_
        obtain ⟨ok113, h⟩ := k_gd h
        refine va_sld hx hb hX hbl hbA (hM.S hsz) (okS_1 ok113) dL_law_530 ?_
        refine lv_aload_n hx hb dL_law_531 rfl (lv_at hl 0 rfl) ?_
        refine lv_iload_n hx hb dL_law_532 rfl (lv_at hl 3 rfl) ?_
        refine lv_iconst (v := 2) hx hb dL_law_533 (by decide) ?_
        refine lv_iadd hx hb dL_law_534 ?_
        obtain ⟨ok114, h⟩ := k_gd h
        refine va_sld hx hb hX hbl hbA (hM.S hsz) (okS_1 ok114) dL_law_535 ?_
        obtain ⟨ok115, h⟩ := k_gd h
        obtain ⟨w116, hzw116, h⟩ := k_bd h
        refine m_callV (C := RX8) (T := TX8) (N := 33) (ci := 8) (n := 2) (As := [.int (xs (Int32.toNatClampNeg (a3 + (1 : Int32)))), .int (xs (Int32.toNatClampNeg (a3 + (2 : Int32))))]) (rest := [.int w112.1]) (st1 := (.int w116.1 :: [.int w112.1])) E hM hl.1 ok115 (by decide) rfl rfl (c_X8_has l D cy sz s.heap w112.2 b2 (xs (Int32.toNatClampNeg (a3 + (1 : Int32)))) (xs (Int32.toNatClampNeg (a3 + (2 : Int32)))) hzw116) wl_L_56 wm_X8_has ws_X8_has wi_X8 wd_X8_has rfl rfl (by decide +kernel) ⟨by decide, by decide⟩ rfl rfl (by first | exact Nat.le_of_ble_eq_true rfl | simp [rv_cat, cat_i, cat_l, cat_r, cat_n]) dL_law_536 ⟨by show _ ≤ room_1.cells; omega, by show _ ≤ room_1.slots; omega⟩ rfl (fun H locs hM => ?_)
        refine lv_icmp_eq (tgt := 1331) hx hb dL_law_539 (by decide) (fun c117 => ?_) (fun c117 => ?_)
        · replace h := (k_if h).1 c117
          obtain ⟨v118, hvv118⟩ : ∃ y : Int32, y = a3 + (6) := ⟨_, rfl⟩
          replace h := k_bb h v118 hvv118
          refine lv_iinc (v := v118) (lv' := [(3, .int v118), (0, .ref b), (1, .ref (sz + b1)), (2, .ref (sz + b2))]) hx hb dL_law_1331 hl (k := 3) rfl (by rw [hvv118]; rfl) (by decide) (by first | rfl | simp [rv_cat, cat_i, cat_l, cat_r, cat_n]) (fun ls hl => ?_)
          refine lv_goto (tgt := 18) hx hb dL_law_1334 (by decide) ?_
          exact ih _ _ H locs ls _ _ (by omega) (by omega) hM (lv_sub hl [1, 2, 3, 0] rfl) h
        · replace h := (k_if h).2 c117
          refine lv_iconst (v := 0) hx hb dL_law_542 (by decide) ?_
          exact absurd h (by decide)
      replace h := (k_if h).2 c108
      by_cases c119 : v9 = 9
      · replace h := (k_if h).1 c119
        refine m_tsw (k := 9) (tgt := 544) hx hb dL_law_33 c119 (by decide) (by decide) rfl (by decide) ?_
        refine lv_aload_n hx hb dL_law_544 rfl (lv_at hl 1 rfl) ?_
        refine lv_aload_n hx hb dL_law_545 rfl (lv_at hl 0 rfl) ?_
        refine lv_iload_n hx hb dL_law_546 rfl (lv_at hl 3 rfl) ?_
        refine lv_iconst (v := 1) hx hb dL_law_547 (by decide) ?_
        refine lv_iadd hx hb dL_law_548 ?_
        obtain ⟨ok120, h⟩ := k_gd h
        refine va_sld hx hb hX hbl hbA (hM.S hsz) (okS_1 ok120) dL_law_549 ?_
        refine lv_aload_n hx hb dL_law_550 rfl (lv_at hl 0 rfl) ?_
        refine lv_iload_n hx hb dL_law_551 rfl (lv_at hl 3 rfl) ?_
        refine lv_iconst (v := 2) hx hb dL_law_552 (by decide) ?_
        refine lv_iadd hx hb dL_law_553 ?_
        obtain ⟨ok121, h⟩ := k_gd h
        refine va_sld hx hb hX hbl hbA (hM.S hsz) (okS_1 ok121) dL_law_554 ?_
        refine lv_aload_n hx hb dL_law_555 rfl (lv_at hl 0 rfl) ?_
        refine lv_iload_n hx hb dL_law_556 rfl (lv_at hl 3 rfl) ?_
        refine lv_iconst (v := 3) hx hb dL_law_557 (by decide) ?_
        refine lv_iadd hx hb dL_law_558 ?_
        obtain ⟨ok122, h⟩ := k_gd h
        refine va_sld hx hb hX hbl hbA (hM.S hsz) (okS_1 ok122) dL_law_559 ?_
        obtain ⟨ok123, h⟩ := k_gd h
        obtain ⟨w124, hzw124, h⟩ := k_bd h
        refine m_callV (C := RX7) (T := TX7) (N := 8) (ci := 7) (n := 3) (As := [.int (xs (Int32.toNatClampNeg (a3 + (1 : Int32)))), .int (xs (Int32.toNatClampNeg (a3 + (2 : Int32)))), .int (xs (Int32.toNatClampNeg (a3 + (3 : Int32))))]) (rest := []) (st1 := (.int w124.1 :: [])) E hM hl.1 ok123 (by decide) rfl rfl (c_X7_span l D cy sz s.heap u b1 (xs (Int32.toNatClampNeg (a3 + (1 : Int32)))) (xs (Int32.toNatClampNeg (a3 + (2 : Int32)))) (xs (Int32.toNatClampNeg (a3 + (3 : Int32)))) hzw124) wl_L_57 wm_X7_span ws_X7_span wi_X7 wd_X7_span rfl rfl (by decide +kernel) ⟨by decide, by decide⟩ rfl rfl (by first | exact Nat.le_of_ble_eq_true rfl | simp [rv_cat, cat_i, cat_l, cat_r, cat_n]) dL_law_560 ⟨by show _ ≤ room_1.cells; omega, by show _ ≤ room_1.slots; omega⟩ rfl (fun H locs hM => ?_)
        refine lv_aload_n hx hb dL_law_563 rfl (lv_at hl 2 rfl) ?_
        refine lv_aload_n hx hb dL_law_564 rfl (lv_at hl 0 rfl) ?_
        refine lv_iload_n hx hb dL_law_565 rfl (lv_at hl 3 rfl) ?_
        refine lv_iconst (v := 1) hx hb dL_law_566 (by decide) ?_
        refine lv_iadd hx hb dL_law_567 ?_
        obtain ⟨ok125, h⟩ := k_gd h
        refine va_sld hx hb hX hbl hbA (hM.S hsz) (okS_1 ok125) dL_law_568 ?_
        refine lv_aload_n hx hb dL_law_569 rfl (lv_at hl 0 rfl) ?_
        refine lv_iload_n hx hb dL_law_570 rfl (lv_at hl 3 rfl) ?_
        refine lv_iconst (v := 2) hx hb dL_law_571 (by decide) ?_
        refine lv_iadd hx hb dL_law_572 ?_
        obtain ⟨ok126, h⟩ := k_gd h
        refine va_sld hx hb hX hbl hbA (hM.S hsz) (okS_1 ok126) dL_law_573 ?_
        refine lv_aload_n hx hb dL_law_574 rfl (lv_at hl 0 rfl) ?_
        refine lv_iload_n hx hb dL_law_575 rfl (lv_at hl 3 rfl) ?_
        refine lv_iconst (v := 3) hx hb dL_law_576 (by decide) ?_
        refine lv_iadd hx hb dL_law_577 ?_
        obtain ⟨ok127, h⟩ := k_gd h
        refine va_sld hx hb hX hbl hbA (hM.S hsz) (okS_1 ok127) dL_law_578 ?_
        obtain ⟨ok128, h⟩ := k_gd h
        obtain ⟨w129, hzw129, h⟩ := k_bd h
        refine m_callV (C := RX8) (T := TX8) (N := 33) (ci := 8) (n := 3) (As := [.int (xs (Int32.toNatClampNeg (a3 + (1 : Int32)))), .int (xs (Int32.toNatClampNeg (a3 + (2 : Int32)))), .int (xs (Int32.toNatClampNeg (a3 + (3 : Int32))))]) (rest := [.int w124.1]) (st1 := (.int w129.1 :: [.int w124.1])) E hM hl.1 ok128 (by decide) rfl rfl (c_X8_span l D cy sz s.heap w124.2 b2 (xs (Int32.toNatClampNeg (a3 + (1 : Int32)))) (xs (Int32.toNatClampNeg (a3 + (2 : Int32)))) (xs (Int32.toNatClampNeg (a3 + (3 : Int32)))) hzw129) wl_L_60 wm_X8_span ws_X8_span wi_X8 wd_X8_span rfl rfl (by decide +kernel) ⟨by decide, by decide⟩ rfl rfl (by first | exact Nat.le_of_ble_eq_true rfl | simp [rv_cat, cat_i, cat_l, cat_r, cat_n]) dL_law_579 ⟨by show _ ≤ room_1.cells; omega, by show _ ≤ room_1.slots; omega⟩ rfl (fun H locs hM => ?_)
        refine lv_icmp_eq (tgt := 1331) hx hb dL_law_582 (by decide) (fun c130 => ?_) (fun c130 => ?_)
        · replace h := (k_if h).1 c130
          obtain ⟨v131, hvv131⟩ : ∃ y : Int32, y = a3 + (6) := ⟨_, rfl⟩
          replace h := k_bb h v131 hvv131
          refine lv_iinc (v := v131) (lv' := [(3, .int v131), (0, .ref b), (1, .ref (sz + b1)), (2, .ref (sz + b2))]) hx hb dL_law_1331 hl (k := 3) rfl (by rw [hvv131]; rfl) (by decide) (by first | rfl | simp [rv_cat, cat_i, cat_l, cat_r, cat_n]) (fun ls hl => ?_)
          refine lv_goto (tgt := 18) hx hb dL_law_1334 (by decide) ?_
          exact ih _ _ H locs ls _ _ (by omega) (by omega) hM (lv_sub hl [1, 2, 3, 0] rfl) h
        · replace h := (k_if h).2 c130
          refine lv_iconst (v := 0) hx hb dL_law_585 (by decide) ?_
          exact absurd h (by decide)
      replace h := (k_if h).2 c119
      by_cases c132 : v9 = 10
      · replace h := (k_if h).1 c132
        refine m_tsw (k := 10) (tgt := 587) hx hb dL_law_33 c132 (by decide) (by decide) rfl (by decide) ?_
        refine lv_aload_n hx hb dL_law_587 rfl (lv_at hl 1 rfl) ?_
        refine lv_aload_n hx hb dL_law_588 rfl (lv_at hl 0 rfl) ?_
        refine lv_iload_n hx hb dL_law_589 rfl (lv_at hl 3 rfl) ?_
        refine lv_iconst (v := 1) hx hb dL_law_590 (by decide) ?_
        refine lv_iadd hx hb dL_law_591 ?_
        obtain ⟨ok133, h⟩ := k_gd h
        refine va_sld hx hb hX hbl hbA (hM.S hsz) (okS_1 ok133) dL_law_592 ?_
        obtain ⟨ok134, h⟩ := k_gd h
        obtain ⟨w135, hzw135, h⟩ := k_bd h
        refine m_callV (C := RX7) (T := TX7) (N := 8) (ci := 7) (n := 1) (As := [.int (xs (Int32.toNatClampNeg (a3 + (1 : Int32))))]) (rest := []) (st1 := (.int w135.1 :: [])) E hM hl.1 ok134 (by decide) rfl rfl (c_X7_noSpan l D cy sz s.heap u b1 (xs (Int32.toNatClampNeg (a3 + (1 : Int32)))) hzw135) wl_L_61 wm_X7_noSpan ws_X7_noSpan wi_X7 wd_X7_noSpan rfl rfl (by decide +kernel) ⟨by decide, by decide⟩ rfl rfl (by first | exact Nat.le_of_ble_eq_true rfl | simp [rv_cat, cat_i, cat_l, cat_r, cat_n]) dL_law_593 ⟨by show _ ≤ room_1.cells; omega, by show _ ≤ room_1.slots; omega⟩ rfl (fun H locs hM => ?_)
        refine lv_aload_n hx hb dL_law_596 rfl (lv_at hl 2 rfl) ?_
        refine lv_aload_n hx hb dL_law_597 rfl (lv_at hl 0 rfl) ?_
        refine lv_iload_n hx hb dL_law_598 rfl (lv_at hl 3 rfl) ?_
        refine lv_iconst (v := 1) hx hb dL_law_599 (by decide) ?_
        refine lv_iadd hx hb dL_law_600 ?_
        obtain ⟨ok136, h⟩ := k_gd h
        refine va_sld hx hb hX hbl hbA (hM.S hsz) (okS_1 ok136) dL_law_601 ?_
        obtain ⟨ok137, h⟩ := k_gd h
        obtain ⟨w138, hzw138, h⟩ := k_bd h
        refine m_callV (C := RX8) (T := TX8) (N := 33) (ci := 8) (n := 1) (As := [.int (xs (Int32.toNatClampNeg (a3 + (1 : Int32))))]) (rest := [.int w135.1]) (st1 := (.int w138.1 :: [.int w135.1])) E hM hl.1 ok137 (by decide) rfl rfl (c_X8_noSpan l D cy sz s.heap w135.2 b2 (xs (Int32.toNatClampNeg (a3 + (1 : Int32)))) hzw138) wl_L_65 wm_X8_noSpan ws_X8_noSpan wi_X8 wd_X8_noSpan rfl rfl (by decide +kernel) ⟨by decide, by decide⟩ rfl rfl (by first | exact Nat.le_of_ble_eq_true rfl | simp [rv_cat, cat_i, cat_l, cat_r, cat_n]) dL_law_602 ⟨by show _ ≤ room_1.cells; omega, by show _ ≤ room_1.slots; omega⟩ rfl (fun H locs hM => ?_)
        refine lv_icmp_eq (tgt := 1331) hx hb dL_law_605 (by decide) (fun c139 => ?_) (fun c139 => ?_)
        · replace h := (k_if h).1 c139
          obtain ⟨v140, hvv140⟩ : ∃ y : Int32, y = a3 + (6) := ⟨_, rfl⟩
          replace h := k_bb h v140 hvv140
          refine lv_iinc (v := v140) (lv' := [(3, .int v140), (0, .ref b), (1, .ref (sz + b1)), (2, .ref (sz + b2))]) hx hb dL_law_1331 hl (k := 3) rfl (by rw [hvv140]; rfl) (by decide) (by first | rfl | simp [rv_cat, cat_i, cat_l, cat_r, cat_n]) (fun ls hl => ?_)
          refine lv_goto (tgt := 18) hx hb dL_law_1334 (by decide) ?_
          exact ih _ _ H locs ls _ _ (by omega) (by omega) hM (lv_sub hl [1, 2, 3, 0] rfl) h
        · replace h := (k_if h).2 c139
          refine lv_iconst (v := 0) hx hb dL_law_608 (by decide) ?_
          exact absurd h (by decide)
      replace h := (k_if h).2 c132
      by_cases c141 : v9 = 11
      · replace h := (k_if h).1 c141
        refine m_tsw (k := 11) (tgt := 610) hx hb dL_law_33 c141 (by decide) (by decide) rfl (by decide) ?_
        refine lv_aload_n hx hb dL_law_610 rfl (lv_at hl 1 rfl) ?_
        refine lv_aload_n hx hb dL_law_611 rfl (lv_at hl 0 rfl) ?_
        refine lv_iload_n hx hb dL_law_612 rfl (lv_at hl 3 rfl) ?_
        refine lv_iconst (v := 1) hx hb dL_law_613 (by decide) ?_
        refine lv_iadd hx hb dL_law_614 ?_
        obtain ⟨ok142, h⟩ := k_gd h
        refine va_sld hx hb hX hbl hbA (hM.S hsz) (okS_1 ok142) dL_law_615 ?_
        refine lv_aload_n hx hb dL_law_616 rfl (lv_at hl 0 rfl) ?_
        refine lv_iload_n hx hb dL_law_617 rfl (lv_at hl 3 rfl) ?_
        refine lv_iconst (v := 2) hx hb dL_law_618 (by decide) ?_
        refine lv_iadd hx hb dL_law_619 ?_
        obtain ⟨ok143, h⟩ := k_gd h
        refine va_sld hx hb hX hbl hbA (hM.S hsz) (okS_1 ok143) dL_law_620 ?_
        refine lv_if_eq (tgt := 628) hx hb dL_law_621 (by decide) (fun c144 => ?_) (fun c144 => ?_)
        · replace h := (k_if h).1 c144
          refine lv_iconst (v := 0) hx hb dL_law_628 (by decide) ?_
          obtain ⟨ok145, h⟩ := k_gd h
          obtain ⟨w146, hzw146, h⟩ := k_bd h
          refine m_callV (C := RX7) (T := TX7) (N := 8) (ci := 7) (n := 2) (As := [.int (xs (Int32.toNatClampNeg (a3 + (1 : Int32)))), .int (0 : Int32)]) (rest := []) (st1 := (.int w146.1 :: [])) E hM hl.1 ok145 (by decide) rfl rfl (c_X7_held l D cy sz s.heap u b1 (xs (Int32.toNatClampNeg (a3 + (1 : Int32)))) (0 : Int32) hzw146) wl_L_66 wm_X7_held ws_X7_held wi_X7 wd_X7_held rfl rfl (by decide +kernel) ⟨by decide, by decide⟩ rfl rfl (by first | exact Nat.le_of_ble_eq_true rfl | simp [rv_cat, cat_i, cat_l, cat_r, cat_n]) dL_law_629 ⟨by show _ ≤ room_1.cells; omega, by show _ ≤ room_1.slots; omega⟩ rfl (fun H locs hM => ?_)
          refine lv_aload_n hx hb dL_law_632 rfl (lv_at hl 2 rfl) ?_
          refine lv_aload_n hx hb dL_law_633 rfl (lv_at hl 0 rfl) ?_
          refine lv_iload_n hx hb dL_law_634 rfl (lv_at hl 3 rfl) ?_
          refine lv_iconst (v := 1) hx hb dL_law_635 (by decide) ?_
          refine lv_iadd hx hb dL_law_636 ?_
          obtain ⟨ok147, h⟩ := k_gd h
          refine va_sld hx hb hX hbl hbA (hM.S hsz) (okS_1 ok147) dL_law_637 ?_
          refine lv_aload_n hx hb dL_law_638 rfl (lv_at hl 0 rfl) ?_
          refine lv_iload_n hx hb dL_law_639 rfl (lv_at hl 3 rfl) ?_
          refine lv_iconst (v := 2) hx hb dL_law_640 (by decide) ?_
          refine lv_iadd hx hb dL_law_641 ?_
          obtain ⟨ok148, h⟩ := k_gd h
          refine va_sld hx hb hX hbl hbA (hM.S hsz) (okS_1 ok148) dL_law_642 ?_
          refine lv_if_eq (tgt := 650) hx hb dL_law_643 (by decide) (fun c149 => ?_) (fun c149 => ?_)
          · replace h := (k_if h).1 c149
            refine lv_iconst (v := 0) hx hb dL_law_650 (by decide) ?_
            obtain ⟨ok150, h⟩ := k_gd h
            obtain ⟨w151, hzw151, h⟩ := k_bd h
            refine m_callV (C := RX8) (T := TX8) (N := 33) (ci := 8) (n := 2) (As := [.int (xs (Int32.toNatClampNeg (a3 + (1 : Int32)))), .int (0 : Int32)]) (rest := [.int w146.1]) (st1 := (.int w151.1 :: [.int w146.1])) E hM hl.1 ok150 (by decide) rfl rfl (c_X8_held l D cy sz s.heap w146.2 b2 (xs (Int32.toNatClampNeg (a3 + (1 : Int32)))) (0 : Int32) hzw151) wl_L_70 wm_X8_held ws_X8_held wi_X8 wd_X8_held rfl rfl (by decide +kernel) ⟨by decide, by decide⟩ rfl rfl (by first | exact Nat.le_of_ble_eq_true rfl | simp [rv_cat, cat_i, cat_l, cat_r, cat_n]) dL_law_651 ⟨by show _ ≤ room_1.cells; omega, by show _ ≤ room_1.slots; omega⟩ rfl (fun H locs hM => ?_)
            refine lv_icmp_eq (tgt := 1331) hx hb dL_law_654 (by decide) (fun c152 => ?_) (fun c152 => ?_)
            · replace h := (k_if h).1 c152
              obtain ⟨v153, hvv153⟩ : ∃ y : Int32, y = a3 + (6) := ⟨_, rfl⟩
              replace h := k_bb h v153 hvv153
              refine lv_iinc (v := v153) (lv' := [(3, .int v153), (0, .ref b), (1, .ref (sz + b1)), (2, .ref (sz + b2))]) hx hb dL_law_1331 hl (k := 3) rfl (by rw [hvv153]; rfl) (by decide) (by first | rfl | simp [rv_cat, cat_i, cat_l, cat_r, cat_n]) (fun ls hl => ?_)
              refine lv_goto (tgt := 18) hx hb dL_law_1334 (by decide) ?_
              exact ih _ _ H locs ls _ _ (by omega) (by omega) hM (lv_sub hl [1, 2, 3, 0] rfl) h
            · replace h := (k_if h).2 c152
              refine lv_iconst (v := 0) hx hb dL_law_657 (by decide) ?_
              exact absurd h (by decide)
          · replace h := (k_if h).2 c149
            refine lv_iconst (v := 1) hx hb dL_law_646 (by decide) ?_
            refine lv_goto (tgt := 651) hx hb dL_law_647 (by decide) ?_
            obtain ⟨ok154, h⟩ := k_gd h
            obtain ⟨w155, hzw155, h⟩ := k_bd h
            refine m_callV (C := RX8) (T := TX8) (N := 33) (ci := 8) (n := 2) (As := [.int (xs (Int32.toNatClampNeg (a3 + (1 : Int32)))), .int (1 : Int32)]) (rest := [.int w146.1]) (st1 := (.int w155.1 :: [.int w146.1])) E hM hl.1 ok154 (by decide) rfl rfl (c_X8_held l D cy sz s.heap w146.2 b2 (xs (Int32.toNatClampNeg (a3 + (1 : Int32)))) (1 : Int32) hzw155) wl_L_70 wm_X8_held ws_X8_held wi_X8 wd_X8_held rfl rfl (by decide +kernel) ⟨by decide, by decide⟩ rfl rfl (by first | exact Nat.le_of_ble_eq_true rfl | simp [rv_cat, cat_i, cat_l, cat_r, cat_n]) dL_law_651 ⟨by show _ ≤ room_1.cells; omega, by show _ ≤ room_1.slots; omega⟩ rfl (fun H locs hM => ?_)
            refine lv_icmp_eq (tgt := 1331) hx hb dL_law_654 (by decide) (fun c156 => ?_) (fun c156 => ?_)
            · replace h := (k_if h).1 c156
              obtain ⟨v157, hvv157⟩ : ∃ y : Int32, y = a3 + (6) := ⟨_, rfl⟩
              replace h := k_bb h v157 hvv157
              refine lv_iinc (v := v157) (lv' := [(3, .int v157), (0, .ref b), (1, .ref (sz + b1)), (2, .ref (sz + b2))]) hx hb dL_law_1331 hl (k := 3) rfl (by rw [hvv157]; rfl) (by decide) (by first | rfl | simp [rv_cat, cat_i, cat_l, cat_r, cat_n]) (fun ls hl => ?_)
              refine lv_goto (tgt := 18) hx hb dL_law_1334 (by decide) ?_
              exact ih _ _ H locs ls _ _ (by omega) (by omega) hM (lv_sub hl [1, 2, 3, 0] rfl) h
            · replace h := (k_if h).2 c156
              refine lv_iconst (v := 0) hx hb dL_law_657 (by decide) ?_
              exact absurd h (by decide)
        · replace h := (k_if h).2 c144
          refine lv_iconst (v := 1) hx hb dL_law_624 (by decide) ?_
          refine lv_goto (tgt := 629) hx hb dL_law_625 (by decide) ?_
          obtain ⟨ok158, h⟩ := k_gd h
          obtain ⟨w159, hzw159, h⟩ := k_bd h
          refine m_callV (C := RX7) (T := TX7) (N := 8) (ci := 7) (n := 2) (As := [.int (xs (Int32.toNatClampNeg (a3 + (1 : Int32)))), .int (1 : Int32)]) (rest := []) (st1 := (.int w159.1 :: [])) E hM hl.1 ok158 (by decide) rfl rfl (c_X7_held l D cy sz s.heap u b1 (xs (Int32.toNatClampNeg (a3 + (1 : Int32)))) (1 : Int32) hzw159) wl_L_66 wm_X7_held ws_X7_held wi_X7 wd_X7_held rfl rfl (by decide +kernel) ⟨by decide, by decide⟩ rfl rfl (by first | exact Nat.le_of_ble_eq_true rfl | simp [rv_cat, cat_i, cat_l, cat_r, cat_n]) dL_law_629 ⟨by show _ ≤ room_1.cells; omega, by show _ ≤ room_1.slots; omega⟩ rfl (fun H locs hM => ?_)
          refine lv_aload_n hx hb dL_law_632 rfl (lv_at hl 2 rfl) ?_
          refine lv_aload_n hx hb dL_law_633 rfl (lv_at hl 0 rfl) ?_
          refine lv_iload_n hx hb dL_law_634 rfl (lv_at hl 3 rfl) ?_
          refine lv_iconst (v := 1) hx hb dL_law_635 (by decide) ?_
          refine lv_iadd hx hb dL_law_636 ?_
          obtain ⟨ok160, h⟩ := k_gd h
          refine va_sld hx hb hX hbl hbA (hM.S hsz) (okS_1 ok160) dL_law_637 ?_
          refine lv_aload_n hx hb dL_law_638 rfl (lv_at hl 0 rfl) ?_
          refine lv_iload_n hx hb dL_law_639 rfl (lv_at hl 3 rfl) ?_
          refine lv_iconst (v := 2) hx hb dL_law_640 (by decide) ?_
          refine lv_iadd hx hb dL_law_641 ?_
          obtain ⟨ok161, h⟩ := k_gd h
          refine va_sld hx hb hX hbl hbA (hM.S hsz) (okS_1 ok161) dL_law_642 ?_
          refine lv_if_eq (tgt := 650) hx hb dL_law_643 (by decide) (fun c162 => ?_) (fun c162 => ?_)
          · replace h := (k_if h).1 c162
            refine lv_iconst (v := 0) hx hb dL_law_650 (by decide) ?_
            obtain ⟨ok163, h⟩ := k_gd h
            obtain ⟨w164, hzw164, h⟩ := k_bd h
            refine m_callV (C := RX8) (T := TX8) (N := 33) (ci := 8) (n := 2) (As := [.int (xs (Int32.toNatClampNeg (a3 + (1 : Int32)))), .int (0 : Int32)]) (rest := [.int w159.1]) (st1 := (.int w164.1 :: [.int w159.1])) E hM hl.1 ok163 (by decide) rfl rfl (c_X8_held l D cy sz s.heap w159.2 b2 (xs (Int32.toNatClampNeg (a3 + (1 : Int32)))) (0 : Int32) hzw164) wl_L_70 wm_X8_held ws_X8_held wi_X8 wd_X8_held rfl rfl (by decide +kernel) ⟨by decide, by decide⟩ rfl rfl (by first | exact Nat.le_of_ble_eq_true rfl | simp [rv_cat, cat_i, cat_l, cat_r, cat_n]) dL_law_651 ⟨by show _ ≤ room_1.cells; omega, by show _ ≤ room_1.slots; omega⟩ rfl (fun H locs hM => ?_)
            refine lv_icmp_eq (tgt := 1331) hx hb dL_law_654 (by decide) (fun c165 => ?_) (fun c165 => ?_)
            · replace h := (k_if h).1 c165
              obtain ⟨v166, hvv166⟩ : ∃ y : Int32, y = a3 + (6) := ⟨_, rfl⟩
              replace h := k_bb h v166 hvv166
              refine lv_iinc (v := v166) (lv' := [(3, .int v166), (0, .ref b), (1, .ref (sz + b1)), (2, .ref (sz + b2))]) hx hb dL_law_1331 hl (k := 3) rfl (by rw [hvv166]; rfl) (by decide) (by first | rfl | simp [rv_cat, cat_i, cat_l, cat_r, cat_n]) (fun ls hl => ?_)
              refine lv_goto (tgt := 18) hx hb dL_law_1334 (by decide) ?_
              exact ih _ _ H locs ls _ _ (by omega) (by omega) hM (lv_sub hl [1, 2, 3, 0] rfl) h
            · replace h := (k_if h).2 c165
              refine lv_iconst (v := 0) hx hb dL_law_657 (by decide) ?_
              exact absurd h (by decide)
          · replace h := (k_if h).2 c162
            refine lv_iconst (v := 1) hx hb dL_law_646 (by decide) ?_
            refine lv_goto (tgt := 651) hx hb dL_law_647 (by decide) ?_
            obtain ⟨ok167, h⟩ := k_gd h
            obtain ⟨w168, hzw168, h⟩ := k_bd h
            refine m_callV (C := RX8) (T := TX8) (N := 33) (ci := 8) (n := 2) (As := [.int (xs (Int32.toNatClampNeg (a3 + (1 : Int32)))), .int (1 : Int32)]) (rest := [.int w159.1]) (st1 := (.int w168.1 :: [.int w159.1])) E hM hl.1 ok167 (by decide) rfl rfl (c_X8_held l D cy sz s.heap w159.2 b2 (xs (Int32.toNatClampNeg (a3 + (1 : Int32)))) (1 : Int32) hzw168) wl_L_70 wm_X8_held ws_X8_held wi_X8 wd_X8_held rfl rfl (by decide +kernel) ⟨by decide, by decide⟩ rfl rfl (by first | exact Nat.le_of_ble_eq_true rfl | simp [rv_cat, cat_i, cat_l, cat_r, cat_n]) dL_law_651 ⟨by show _ ≤ room_1.cells; omega, by show _ ≤ room_1.slots; omega⟩ rfl (fun H locs hM => ?_)
            refine lv_icmp_eq (tgt := 1331) hx hb dL_law_654 (by decide) (fun c169 => ?_) (fun c169 => ?_)
            · replace h := (k_if h).1 c169
              obtain ⟨v170, hvv170⟩ : ∃ y : Int32, y = a3 + (6) := ⟨_, rfl⟩
              replace h := k_bb h v170 hvv170
              refine lv_iinc (v := v170) (lv' := [(3, .int v170), (0, .ref b), (1, .ref (sz + b1)), (2, .ref (sz + b2))]) hx hb dL_law_1331 hl (k := 3) rfl (by rw [hvv170]; rfl) (by decide) (by first | rfl | simp [rv_cat, cat_i, cat_l, cat_r, cat_n]) (fun ls hl => ?_)
              refine lv_goto (tgt := 18) hx hb dL_law_1334 (by decide) ?_
              exact ih _ _ H locs ls _ _ (by omega) (by omega) hM (lv_sub hl [1, 2, 3, 0] rfl) h
            · replace h := (k_if h).2 c169
              refine lv_iconst (v := 0) hx hb dL_law_657 (by decide) ?_
              exact absurd h (by decide)
      replace h := (k_if h).2 c141
      by_cases c171 : v9 = 12
      · replace h := (k_if h).1 c171
        refine m_tsw (k := 12) (tgt := 659) hx hb dL_law_33 c171 (by decide) (by decide) rfl (by decide) ?_
        refine lv_aload_n hx hb dL_law_659 rfl (lv_at hl 1 rfl) ?_
        refine lv_aload_n hx hb dL_law_660 rfl (lv_at hl 0 rfl) ?_
        refine lv_iload_n hx hb dL_law_661 rfl (lv_at hl 3 rfl) ?_
        refine lv_iconst (v := 1) hx hb dL_law_662 (by decide) ?_
        refine lv_iadd hx hb dL_law_663 ?_
        obtain ⟨ok172, h⟩ := k_gd h
        refine va_sld hx hb hX hbl hbA (hM.S hsz) (okS_1 ok172) dL_law_664 ?_
        obtain ⟨ok173, h⟩ := k_gd h
        obtain ⟨w174, hzw174, h⟩ := k_bd h
        refine m_callV (C := RX7) (T := TX7) (N := 8) (ci := 7) (n := 1) (As := [.int (xs (Int32.toNatClampNeg (a3 + (1 : Int32))))]) (rest := []) (st1 := (.int w174.1 :: [])) E hM hl.1 ok173 (by decide) rfl rfl (c_X7_quarrel l D cy sz s.heap u b1 (xs (Int32.toNatClampNeg (a3 + (1 : Int32)))) hzw174) wl_L_71 wm_X7_quarrel ws_X7_quarrel wi_X7 wd_X7_quarrel rfl rfl (by decide +kernel) ⟨by decide, by decide⟩ rfl rfl (by first | exact Nat.le_of_ble_eq_true rfl | simp [rv_cat, cat_i, cat_l, cat_r, cat_n]) dL_law_665 ⟨by show _ ≤ room_1.cells; omega, by show _ ≤ room_1.slots; omega⟩ rfl (fun H locs hM => ?_)
        refine lv_aload_n hx hb dL_law_668 rfl (lv_at hl 2 rfl) ?_
        refine lv_aload_n hx hb dL_law_669 rfl (lv_at hl 0 rfl) ?_
        refine lv_iload_n hx hb dL_law_670 rfl (lv_at hl 3 rfl) ?_
        refine lv_iconst (v := 1) hx hb dL_law_671 (by decide) ?_
        refine lv_iadd hx hb dL_law_672 ?_
        obtain ⟨ok175, h⟩ := k_gd h
        refine va_sld hx hb hX hbl hbA (hM.S hsz) (okS_1 ok175) dL_law_673 ?_
        obtain ⟨ok176, h⟩ := k_gd h
        obtain ⟨w177, hzw177, h⟩ := k_bd h
        refine m_callV (C := RX8) (T := TX8) (N := 33) (ci := 8) (n := 1) (As := [.int (xs (Int32.toNatClampNeg (a3 + (1 : Int32))))]) (rest := [.int w174.1]) (st1 := (.int w177.1 :: [.int w174.1])) E hM hl.1 ok176 (by decide) rfl rfl (c_X8_quarrel l D cy sz s.heap w174.2 b2 (xs (Int32.toNatClampNeg (a3 + (1 : Int32)))) hzw177) wl_L_75 wm_X8_quarrel ws_X8_quarrel wi_X8 wd_X8_quarrel rfl rfl (by decide +kernel) ⟨by decide, by decide⟩ rfl rfl (by first | exact Nat.le_of_ble_eq_true rfl | simp [rv_cat, cat_i, cat_l, cat_r, cat_n]) dL_law_674 ⟨by show _ ≤ room_1.cells; omega, by show _ ≤ room_1.slots; omega⟩ rfl (fun H locs hM => ?_)
        refine lv_icmp_eq (tgt := 1331) hx hb dL_law_677 (by decide) (fun c178 => ?_) (fun c178 => ?_)
        · replace h := (k_if h).1 c178
          obtain ⟨v179, hvv179⟩ : ∃ y : Int32, y = a3 + (6) := ⟨_, rfl⟩
          replace h := k_bb h v179 hvv179
          refine lv_iinc (v := v179) (lv' := [(3, .int v179), (0, .ref b), (1, .ref (sz + b1)), (2, .ref (sz + b2))]) hx hb dL_law_1331 hl (k := 3) rfl (by rw [hvv179]; rfl) (by decide) (by first | rfl | simp [rv_cat, cat_i, cat_l, cat_r, cat_n]) (fun ls hl => ?_)
          refine lv_goto (tgt := 18) hx hb dL_law_1334 (by decide) ?_
          exact ih _ _ H locs ls _ _ (by omega) (by omega) hM (lv_sub hl [1, 2, 3, 0] rfl) h
        · replace h := (k_if h).2 c178
          refine lv_iconst (v := 0) hx hb dL_law_680 (by decide) ?_
          exact absurd h (by decide)
      replace h := (k_if h).2 c171
      by_cases c180 : v9 = 13
      · replace h := (k_if h).1 c180
        refine m_tsw (k := 13) (tgt := 682) hx hb dL_law_33 c180 (by decide) (by decide) rfl (by decide) ?_
        refine lv_aload_n hx hb dL_law_682 rfl (lv_at hl 1 rfl) ?_
        refine lv_aload_n hx hb dL_law_683 rfl (lv_at hl 0 rfl) ?_
        refine lv_iload_n hx hb dL_law_684 rfl (lv_at hl 3 rfl) ?_
        refine lv_iconst (v := 1) hx hb dL_law_685 (by decide) ?_
        refine lv_iadd hx hb dL_law_686 ?_
        obtain ⟨ok181, h⟩ := k_gd h
        refine va_sld hx hb hX hbl hbA (hM.S hsz) (okS_1 ok181) dL_law_687 ?_
        refine lv_aload_n hx hb dL_law_688 rfl (lv_at hl 0 rfl) ?_
        refine lv_iload_n hx hb dL_law_689 rfl (lv_at hl 3 rfl) ?_
        refine lv_iconst (v := 2) hx hb dL_law_690 (by decide) ?_
        refine lv_iadd hx hb dL_law_691 ?_
        obtain ⟨ok182, h⟩ := k_gd h
        refine va_sld hx hb hX hbl hbA (hM.S hsz) (okS_1 ok182) dL_law_692 ?_
        obtain ⟨ok183, h⟩ := k_gd h
        obtain ⟨w184, hzw184, h⟩ := k_bd h
        refine m_callV (C := RX7) (T := TX7) (N := 8) (ci := 7) (n := 2) (As := [.int (xs (Int32.toNatClampNeg (a3 + (1 : Int32)))), .int (xs (Int32.toNatClampNeg (a3 + (2 : Int32))))]) (rest := []) (st1 := (.int w184.1 :: [])) E hM hl.1 ok183 (by decide) rfl rfl (c_X7_count l D cy sz s.heap u b1 (xs (Int32.toNatClampNeg (a3 + (1 : Int32)))) (xs (Int32.toNatClampNeg (a3 + (2 : Int32)))) hzw184) wl_L_76 wm_X7_count ws_X7_count wi_X7 wd_X7_count rfl rfl (by decide +kernel) ⟨by decide, by decide⟩ rfl rfl (by first | exact Nat.le_of_ble_eq_true rfl | simp [rv_cat, cat_i, cat_l, cat_r, cat_n]) dL_law_693 ⟨by show _ ≤ room_1.cells; omega, by show _ ≤ room_1.slots; omega⟩ rfl (fun H locs hM => ?_)
        refine lv_aload_n hx hb dL_law_696 rfl (lv_at hl 2 rfl) ?_
        refine lv_aload_n hx hb dL_law_697 rfl (lv_at hl 0 rfl) ?_
        refine lv_iload_n hx hb dL_law_698 rfl (lv_at hl 3 rfl) ?_
        refine lv_iconst (v := 1) hx hb dL_law_699 (by decide) ?_
        refine lv_iadd hx hb dL_law_700 ?_
        obtain ⟨ok185, h⟩ := k_gd h
        refine va_sld hx hb hX hbl hbA (hM.S hsz) (okS_1 ok185) dL_law_701 ?_
        refine lv_aload_n hx hb dL_law_702 rfl (lv_at hl 0 rfl) ?_
        refine lv_iload_n hx hb dL_law_703 rfl (lv_at hl 3 rfl) ?_
        refine lv_iconst (v := 2) hx hb dL_law_704 (by decide) ?_
        refine lv_iadd hx hb dL_law_705 ?_
        obtain ⟨ok186, h⟩ := k_gd h
        refine va_sld hx hb hX hbl hbA (hM.S hsz) (okS_1 ok186) dL_law_706 ?_
        obtain ⟨ok187, h⟩ := k_gd h
        obtain ⟨w188, hzw188, h⟩ := k_bd h
        refine m_callV (C := RX8) (T := TX8) (N := 33) (ci := 8) (n := 2) (As := [.int (xs (Int32.toNatClampNeg (a3 + (1 : Int32)))), .int (xs (Int32.toNatClampNeg (a3 + (2 : Int32))))]) (rest := [.int w184.1]) (st1 := (.int w188.1 :: [.int w184.1])) E hM hl.1 ok187 (by decide) rfl rfl (c_X8_count l D cy sz s.heap w184.2 b2 (xs (Int32.toNatClampNeg (a3 + (1 : Int32)))) (xs (Int32.toNatClampNeg (a3 + (2 : Int32)))) hzw188) wl_L_80 wm_X8_count ws_X8_count wi_X8 wd_X8_count rfl rfl (by decide +kernel) ⟨by decide, by decide⟩ rfl rfl (by first | exact Nat.le_of_ble_eq_true rfl | simp [rv_cat, cat_i, cat_l, cat_r, cat_n]) dL_law_707 ⟨by show _ ≤ room_1.cells; omega, by show _ ≤ room_1.slots; omega⟩ rfl (fun H locs hM => ?_)
        refine lv_icmp_eq (tgt := 1331) hx hb dL_law_710 (by decide) (fun c189 => ?_) (fun c189 => ?_)
        · replace h := (k_if h).1 c189
          obtain ⟨v190, hvv190⟩ : ∃ y : Int32, y = a3 + (6) := ⟨_, rfl⟩
          replace h := k_bb h v190 hvv190
          refine lv_iinc (v := v190) (lv' := [(3, .int v190), (0, .ref b), (1, .ref (sz + b1)), (2, .ref (sz + b2))]) hx hb dL_law_1331 hl (k := 3) rfl (by rw [hvv190]; rfl) (by decide) (by first | rfl | simp [rv_cat, cat_i, cat_l, cat_r, cat_n]) (fun ls hl => ?_)
          refine lv_goto (tgt := 18) hx hb dL_law_1334 (by decide) ?_
          exact ih _ _ H locs ls _ _ (by omega) (by omega) hM (lv_sub hl [1, 2, 3, 0] rfl) h
        · replace h := (k_if h).2 c189
          refine lv_iconst (v := 0) hx hb dL_law_713 (by decide) ?_
          exact absurd h (by decide)
      replace h := (k_if h).2 c180
      by_cases c191 : v9 = 14
      · replace h := (k_if h).1 c191
        refine m_tsw (k := 14) (tgt := 715) hx hb dL_law_33 c191 (by decide) (by decide) rfl (by decide) ?_
        refine lv_aload_n hx hb dL_law_715 rfl (lv_at hl 1 rfl) ?_
        refine lv_aload_n hx hb dL_law_716 rfl (lv_at hl 0 rfl) ?_
        refine lv_iload_n hx hb dL_law_717 rfl (lv_at hl 3 rfl) ?_
        refine lv_iconst (v := 1) hx hb dL_law_718 (by decide) ?_
        refine lv_iadd hx hb dL_law_719 ?_
        obtain ⟨ok192, h⟩ := k_gd h
        refine va_sld hx hb hX hbl hbA (hM.S hsz) (okS_1 ok192) dL_law_720 ?_
        refine lv_aload_n hx hb dL_law_721 rfl (lv_at hl 0 rfl) ?_
        refine lv_iload_n hx hb dL_law_722 rfl (lv_at hl 3 rfl) ?_
        refine lv_iconst (v := 2) hx hb dL_law_723 (by decide) ?_
        refine lv_iadd hx hb dL_law_724 ?_
        obtain ⟨ok193, h⟩ := k_gd h
        refine va_sld hx hb hX hbl hbA (hM.S hsz) (okS_1 ok193) dL_law_725 ?_
        obtain ⟨ok194, h⟩ := k_gd h
        obtain ⟨w195, hzw195, h⟩ := k_bd h
        refine m_callV (C := RX7) (T := TX7) (N := 8) (ci := 7) (n := 2) (As := [.int (xs (Int32.toNatClampNeg (a3 + (1 : Int32)))), .int (xs (Int32.toNatClampNeg (a3 + (2 : Int32))))]) (rest := []) (st1 := (.int w195.1 :: [])) E hM hl.1 ok194 (by decide) rfl rfl (c_X7_join l D cy sz s.heap u b1 (xs (Int32.toNatClampNeg (a3 + (1 : Int32)))) (xs (Int32.toNatClampNeg (a3 + (2 : Int32)))) hzw195) wl_L_81 wm_X7_join ws_X7_join wi_X7 wd_X7_join rfl rfl (by decide +kernel) ⟨by decide, by decide⟩ rfl rfl (by first | exact Nat.le_of_ble_eq_true rfl | simp [rv_cat, cat_i, cat_l, cat_r, cat_n]) dL_law_726 ⟨by show _ ≤ room_1.cells; omega, by show _ ≤ room_1.slots; omega⟩ rfl (fun H locs hM => ?_)
        refine lv_aload_n hx hb dL_law_729 rfl (lv_at hl 2 rfl) ?_
        refine lv_aload_n hx hb dL_law_730 rfl (lv_at hl 0 rfl) ?_
        refine lv_iload_n hx hb dL_law_731 rfl (lv_at hl 3 rfl) ?_
        refine lv_iconst (v := 1) hx hb dL_law_732 (by decide) ?_
        refine lv_iadd hx hb dL_law_733 ?_
        obtain ⟨ok196, h⟩ := k_gd h
        refine va_sld hx hb hX hbl hbA (hM.S hsz) (okS_1 ok196) dL_law_734 ?_
        refine lv_aload_n hx hb dL_law_735 rfl (lv_at hl 0 rfl) ?_
        refine lv_iload_n hx hb dL_law_736 rfl (lv_at hl 3 rfl) ?_
        refine lv_iconst (v := 2) hx hb dL_law_737 (by decide) ?_
        refine lv_iadd hx hb dL_law_738 ?_
        obtain ⟨ok197, h⟩ := k_gd h
        refine va_sld hx hb hX hbl hbA (hM.S hsz) (okS_1 ok197) dL_law_739 ?_
        obtain ⟨ok198, h⟩ := k_gd h
        obtain ⟨w199, hzw199, h⟩ := k_bd h
        refine m_callV (C := RX8) (T := TX8) (N := 33) (ci := 8) (n := 2) (As := [.int (xs (Int32.toNatClampNeg (a3 + (1 : Int32)))), .int (xs (Int32.toNatClampNeg (a3 + (2 : Int32))))]) (rest := [.int w195.1]) (st1 := (.int w199.1 :: [.int w195.1])) E hM hl.1 ok198 (by decide) rfl rfl (c_X8_join l D cy sz s.heap w195.2 b2 (xs (Int32.toNatClampNeg (a3 + (1 : Int32)))) (xs (Int32.toNatClampNeg (a3 + (2 : Int32)))) hzw199) wl_L_84 wm_X8_join ws_X8_join wi_X8 wd_X8_join rfl rfl (by decide +kernel) ⟨by decide, by decide⟩ rfl rfl (by first | exact Nat.le_of_ble_eq_true rfl | simp [rv_cat, cat_i, cat_l, cat_r, cat_n]) dL_law_740 ⟨by show _ ≤ room_1.cells; omega, by show _ ≤ room_1.slots; omega⟩ rfl (fun H locs hM => ?_)
        refine lv_icmp_eq (tgt := 1331) hx hb dL_law_743 (by decide) (fun c200 => ?_) (fun c200 => ?_)
        · replace h := (k_if h).1 c200
          obtain ⟨v201, hvv201⟩ : ∃ y : Int32, y = a3 + (6) := ⟨_, rfl⟩
          replace h := k_bb h v201 hvv201
          refine lv_iinc (v := v201) (lv' := [(3, .int v201), (0, .ref b), (1, .ref (sz + b1)), (2, .ref (sz + b2))]) hx hb dL_law_1331 hl (k := 3) rfl (by rw [hvv201]; rfl) (by decide) (by first | rfl | simp [rv_cat, cat_i, cat_l, cat_r, cat_n]) (fun ls hl => ?_)
          refine lv_goto (tgt := 18) hx hb dL_law_1334 (by decide) ?_
          exact ih _ _ H locs ls _ _ (by omega) (by omega) hM (lv_sub hl [1, 2, 3, 0] rfl) h
        · replace h := (k_if h).2 c200
          refine lv_iconst (v := 0) hx hb dL_law_746 (by decide) ?_
          exact absurd h (by decide)
      replace h := (k_if h).2 c191
      by_cases c202 : v9 = 15
      · replace h := (k_if h).1 c202
        refine m_tsw (k := 15) (tgt := 748) hx hb dL_law_33 c202 (by decide) (by decide) rfl (by decide) ?_
        refine lv_aload_n hx hb dL_law_748 rfl (lv_at hl 1 rfl) ?_
        refine lv_aload_n hx hb dL_law_749 rfl (lv_at hl 0 rfl) ?_
        refine lv_iload_n hx hb dL_law_750 rfl (lv_at hl 3 rfl) ?_
        refine lv_iconst (v := 1) hx hb dL_law_751 (by decide) ?_
        refine lv_iadd hx hb dL_law_752 ?_
        obtain ⟨ok203, h⟩ := k_gd h
        refine va_sld hx hb hX hbl hbA (hM.S hsz) (okS_1 ok203) dL_law_753 ?_
        refine lv_aload_n hx hb dL_law_754 rfl (lv_at hl 0 rfl) ?_
        refine lv_iload_n hx hb dL_law_755 rfl (lv_at hl 3 rfl) ?_
        refine lv_iconst (v := 2) hx hb dL_law_756 (by decide) ?_
        refine lv_iadd hx hb dL_law_757 ?_
        obtain ⟨ok204, h⟩ := k_gd h
        refine va_sld hx hb hX hbl hbA (hM.S hsz) (okS_1 ok204) dL_law_758 ?_
        refine lv_aload_n hx hb dL_law_759 rfl (lv_at hl 0 rfl) ?_
        refine lv_iload_n hx hb dL_law_760 rfl (lv_at hl 3 rfl) ?_
        refine lv_iconst (v := 3) hx hb dL_law_761 (by decide) ?_
        refine lv_iadd hx hb dL_law_762 ?_
        obtain ⟨ok205, h⟩ := k_gd h
        refine va_sld hx hb hX hbl hbA (hM.S hsz) (okS_1 ok205) dL_law_763 ?_
        obtain ⟨ok206, h⟩ := k_gd h
        obtain ⟨w207, hzw207, h⟩ := k_bd h
        refine m_callV (C := RX7) (T := TX7) (N := 8) (ci := 7) (n := 3) (As := [.int (xs (Int32.toNatClampNeg (a3 + (1 : Int32)))), .int (xs (Int32.toNatClampNeg (a3 + (2 : Int32)))), .int (xs (Int32.toNatClampNeg (a3 + (3 : Int32))))]) (rest := []) (st1 := (.int w207.1 :: [])) E hM hl.1 ok206 (by decide) rfl rfl (c_X7_close l D cy sz s.heap u b1 (xs (Int32.toNatClampNeg (a3 + (1 : Int32)))) (xs (Int32.toNatClampNeg (a3 + (2 : Int32)))) (xs (Int32.toNatClampNeg (a3 + (3 : Int32)))) hzw207) wl_L_85 wm_X7_close ws_X7_close wi_X7 wd_X7_close rfl rfl (by decide +kernel) ⟨by decide, by decide⟩ rfl rfl (by first | exact Nat.le_of_ble_eq_true rfl | simp [rv_cat, cat_i, cat_l, cat_r, cat_n]) dL_law_764 ⟨by show _ ≤ room_1.cells; omega, by show _ ≤ room_1.slots; omega⟩ rfl (fun H locs hM => ?_)
        refine lv_aload_n hx hb dL_law_767 rfl (lv_at hl 2 rfl) ?_
        refine lv_aload_n hx hb dL_law_768 rfl (lv_at hl 0 rfl) ?_
        refine lv_iload_n hx hb dL_law_769 rfl (lv_at hl 3 rfl) ?_
        refine lv_iconst (v := 1) hx hb dL_law_770 (by decide) ?_
        refine lv_iadd hx hb dL_law_771 ?_
        obtain ⟨ok208, h⟩ := k_gd h
        refine va_sld hx hb hX hbl hbA (hM.S hsz) (okS_1 ok208) dL_law_772 ?_
        refine lv_aload_n hx hb dL_law_773 rfl (lv_at hl 0 rfl) ?_
        refine lv_iload_n hx hb dL_law_774 rfl (lv_at hl 3 rfl) ?_
        refine lv_iconst (v := 2) hx hb dL_law_775 (by decide) ?_
        refine lv_iadd hx hb dL_law_776 ?_
        obtain ⟨ok209, h⟩ := k_gd h
        refine va_sld hx hb hX hbl hbA (hM.S hsz) (okS_1 ok209) dL_law_777 ?_
        refine lv_aload_n hx hb dL_law_778 rfl (lv_at hl 0 rfl) ?_
        refine lv_iload_n hx hb dL_law_779 rfl (lv_at hl 3 rfl) ?_
        refine lv_iconst (v := 3) hx hb dL_law_780 (by decide) ?_
        refine lv_iadd hx hb dL_law_781 ?_
        obtain ⟨ok210, h⟩ := k_gd h
        refine va_sld hx hb hX hbl hbA (hM.S hsz) (okS_1 ok210) dL_law_782 ?_
        obtain ⟨ok211, h⟩ := k_gd h
        obtain ⟨w212, hzw212, h⟩ := k_bd h
        refine m_callV (C := RX8) (T := TX8) (N := 33) (ci := 8) (n := 3) (As := [.int (xs (Int32.toNatClampNeg (a3 + (1 : Int32)))), .int (xs (Int32.toNatClampNeg (a3 + (2 : Int32)))), .int (xs (Int32.toNatClampNeg (a3 + (3 : Int32))))]) (rest := [.int w207.1]) (st1 := (.int w212.1 :: [.int w207.1])) E hM hl.1 ok211 (by decide) rfl rfl (c_X8_close l D cy sz s.heap w207.2 b2 (xs (Int32.toNatClampNeg (a3 + (1 : Int32)))) (xs (Int32.toNatClampNeg (a3 + (2 : Int32)))) (xs (Int32.toNatClampNeg (a3 + (3 : Int32)))) hzw212) wl_L_88 wm_X8_close ws_X8_close wi_X8 wd_X8_close rfl rfl (by decide +kernel) ⟨by decide, by decide⟩ rfl rfl (by first | exact Nat.le_of_ble_eq_true rfl | simp [rv_cat, cat_i, cat_l, cat_r, cat_n]) dL_law_783 ⟨by show _ ≤ room_1.cells; omega, by show _ ≤ room_1.slots; omega⟩ rfl (fun H locs hM => ?_)
        refine lv_icmp_eq (tgt := 1331) hx hb dL_law_786 (by decide) (fun c213 => ?_) (fun c213 => ?_)
        · replace h := (k_if h).1 c213
          obtain ⟨v214, hvv214⟩ : ∃ y : Int32, y = a3 + (6) := ⟨_, rfl⟩
          replace h := k_bb h v214 hvv214
          refine lv_iinc (v := v214) (lv' := [(3, .int v214), (0, .ref b), (1, .ref (sz + b1)), (2, .ref (sz + b2))]) hx hb dL_law_1331 hl (k := 3) rfl (by rw [hvv214]; rfl) (by decide) (by first | rfl | simp [rv_cat, cat_i, cat_l, cat_r, cat_n]) (fun ls hl => ?_)
          refine lv_goto (tgt := 18) hx hb dL_law_1334 (by decide) ?_
          exact ih _ _ H locs ls _ _ (by omega) (by omega) hM (lv_sub hl [1, 2, 3, 0] rfl) h
        · replace h := (k_if h).2 c213
          refine lv_iconst (v := 0) hx hb dL_law_789 (by decide) ?_
          exact absurd h (by decide)
      replace h := (k_if h).2 c202
      by_cases c215 : v9 = 16
      · replace h := (k_if h).1 c215
        refine m_tsw (k := 16) (tgt := 791) hx hb dL_law_33 c215 (by decide) (by decide) rfl (by decide) ?_
        refine lv_aload_n hx hb dL_law_791 rfl (lv_at hl 1 rfl) ?_
        refine lv_aload_n hx hb dL_law_792 rfl (lv_at hl 0 rfl) ?_
        refine lv_iload_n hx hb dL_law_793 rfl (lv_at hl 3 rfl) ?_
        refine lv_iconst (v := 1) hx hb dL_law_794 (by decide) ?_
        refine lv_iadd hx hb dL_law_795 ?_
        obtain ⟨ok216, h⟩ := k_gd h
        refine va_sld hx hb hX hbl hbA (hM.S hsz) (okS_1 ok216) dL_law_796 ?_
        refine lv_aload_n hx hb dL_law_797 rfl (lv_at hl 0 rfl) ?_
        refine lv_iload_n hx hb dL_law_798 rfl (lv_at hl 3 rfl) ?_
        refine lv_iconst (v := 2) hx hb dL_law_799 (by decide) ?_
        refine lv_iadd hx hb dL_law_800 ?_
        obtain ⟨ok217, h⟩ := k_gd h
        refine va_sld hx hb hX hbl hbA (hM.S hsz) (okS_1 ok217) dL_law_801 ?_
        refine lv_aload_n hx hb dL_law_802 rfl (lv_at hl 0 rfl) ?_
        refine lv_iload_n hx hb dL_law_803 rfl (lv_at hl 3 rfl) ?_
        refine lv_iconst (v := 3) hx hb dL_law_804 (by decide) ?_
        refine lv_iadd hx hb dL_law_805 ?_
        obtain ⟨ok218, h⟩ := k_gd h
        refine va_sld hx hb hX hbl hbA (hM.S hsz) (okS_1 ok218) dL_law_806 ?_
        obtain ⟨ok219, h⟩ := k_gd h
        obtain ⟨w220, hzw220, h⟩ := k_bd h
        refine m_callV (C := RX7) (T := TX7) (N := 8) (ci := 7) (n := 3) (As := [.int (xs (Int32.toNatClampNeg (a3 + (1 : Int32)))), .int (xs (Int32.toNatClampNeg (a3 + (2 : Int32)))), .int (xs (Int32.toNatClampNeg (a3 + (3 : Int32))))]) (rest := []) (st1 := (.int w220.1 :: [])) E hM hl.1 ok219 (by decide) rfl rfl (c_X7_sees l D cy sz s.heap u b1 (xs (Int32.toNatClampNeg (a3 + (1 : Int32)))) (xs (Int32.toNatClampNeg (a3 + (2 : Int32)))) (xs (Int32.toNatClampNeg (a3 + (3 : Int32)))) hzw220) wl_L_89 wm_X7_sees ws_X7_sees wi_X7 wd_X7_sees rfl rfl (by decide +kernel) ⟨by decide, by decide⟩ rfl rfl (by first | exact Nat.le_of_ble_eq_true rfl | simp [rv_cat, cat_i, cat_l, cat_r, cat_n]) dL_law_807 ⟨by show _ ≤ room_1.cells; omega, by show _ ≤ room_1.slots; omega⟩ rfl (fun H locs hM => ?_)
        refine lv_aload_n hx hb dL_law_810 rfl (lv_at hl 2 rfl) ?_
        refine lv_aload_n hx hb dL_law_811 rfl (lv_at hl 0 rfl) ?_
        refine lv_iload_n hx hb dL_law_812 rfl (lv_at hl 3 rfl) ?_
        refine lv_iconst (v := 1) hx hb dL_law_813 (by decide) ?_
        refine lv_iadd hx hb dL_law_814 ?_
        obtain ⟨ok221, h⟩ := k_gd h
        refine va_sld hx hb hX hbl hbA (hM.S hsz) (okS_1 ok221) dL_law_815 ?_
        refine lv_aload_n hx hb dL_law_816 rfl (lv_at hl 0 rfl) ?_
        refine lv_iload_n hx hb dL_law_817 rfl (lv_at hl 3 rfl) ?_
        refine lv_iconst (v := 2) hx hb dL_law_818 (by decide) ?_
        refine lv_iadd hx hb dL_law_819 ?_
        obtain ⟨ok222, h⟩ := k_gd h
        refine va_sld hx hb hX hbl hbA (hM.S hsz) (okS_1 ok222) dL_law_820 ?_
        refine lv_aload_n hx hb dL_law_821 rfl (lv_at hl 0 rfl) ?_
        refine lv_iload_n hx hb dL_law_822 rfl (lv_at hl 3 rfl) ?_
        refine lv_iconst (v := 3) hx hb dL_law_823 (by decide) ?_
        refine lv_iadd hx hb dL_law_824 ?_
        obtain ⟨ok223, h⟩ := k_gd h
        refine va_sld hx hb hX hbl hbA (hM.S hsz) (okS_1 ok223) dL_law_825 ?_
        obtain ⟨ok224, h⟩ := k_gd h
        obtain ⟨w225, hzw225, h⟩ := k_bd h
        refine m_callV (C := RX8) (T := TX8) (N := 33) (ci := 8) (n := 3) (As := [.int (xs (Int32.toNatClampNeg (a3 + (1 : Int32)))), .int (xs (Int32.toNatClampNeg (a3 + (2 : Int32)))), .int (xs (Int32.toNatClampNeg (a3 + (3 : Int32))))]) (rest := [.int w220.1]) (st1 := (.int w225.1 :: [.int w220.1])) E hM hl.1 ok224 (by decide) rfl rfl (c_X8_sees l D cy sz s.heap w220.2 b2 (xs (Int32.toNatClampNeg (a3 + (1 : Int32)))) (xs (Int32.toNatClampNeg (a3 + (2 : Int32)))) (xs (Int32.toNatClampNeg (a3 + (3 : Int32)))) hzw225) wl_L_93 wm_X8_sees ws_X8_sees wi_X8 wd_X8_sees rfl rfl (by decide +kernel) ⟨by decide, by decide⟩ rfl rfl (by first | exact Nat.le_of_ble_eq_true rfl | simp [rv_cat, cat_i, cat_l, cat_r, cat_n]) dL_law_826 ⟨by show _ ≤ room_1.cells; omega, by show _ ≤ room_1.slots; omega⟩ rfl (fun H locs hM => ?_)
        refine lv_icmp_eq (tgt := 1331) hx hb dL_law_829 (by decide) (fun c226 => ?_) (fun c226 => ?_)
        · replace h := (k_if h).1 c226
          obtain ⟨v227, hvv227⟩ : ∃ y : Int32, y = a3 + (6) := ⟨_, rfl⟩
          replace h := k_bb h v227 hvv227
          refine lv_iinc (v := v227) (lv' := [(3, .int v227), (0, .ref b), (1, .ref (sz + b1)), (2, .ref (sz + b2))]) hx hb dL_law_1331 hl (k := 3) rfl (by rw [hvv227]; rfl) (by decide) (by first | rfl | simp [rv_cat, cat_i, cat_l, cat_r, cat_n]) (fun ls hl => ?_)
          refine lv_goto (tgt := 18) hx hb dL_law_1334 (by decide) ?_
          exact ih _ _ H locs ls _ _ (by omega) (by omega) hM (lv_sub hl [1, 2, 3, 0] rfl) h
        · replace h := (k_if h).2 c226
          refine lv_iconst (v := 0) hx hb dL_law_832 (by decide) ?_
          exact absurd h (by decide)
      replace h := (k_if h).2 c215
      by_cases c228 : v9 = 17
      · replace h := (k_if h).1 c228
        refine m_tsw (k := 17) (tgt := 834) hx hb dL_law_33 c228 (by decide) (by decide) rfl (by decide) ?_
        refine lv_aload_n hx hb dL_law_834 rfl (lv_at hl 1 rfl) ?_
        refine lv_aload_n hx hb dL_law_835 rfl (lv_at hl 0 rfl) ?_
        refine lv_iload_n hx hb dL_law_836 rfl (lv_at hl 3 rfl) ?_
        refine lv_iconst (v := 1) hx hb dL_law_837 (by decide) ?_
        refine lv_iadd hx hb dL_law_838 ?_
        obtain ⟨ok229, h⟩ := k_gd h
        refine va_sld hx hb hX hbl hbA (hM.S hsz) (okS_1 ok229) dL_law_839 ?_
        refine lv_aload_n hx hb dL_law_840 rfl (lv_at hl 0 rfl) ?_
        refine lv_iload_n hx hb dL_law_841 rfl (lv_at hl 3 rfl) ?_
        refine lv_iconst (v := 2) hx hb dL_law_842 (by decide) ?_
        refine lv_iadd hx hb dL_law_843 ?_
        obtain ⟨ok230, h⟩ := k_gd h
        refine va_sld hx hb hX hbl hbA (hM.S hsz) (okS_1 ok230) dL_law_844 ?_
        refine lv_aload_n hx hb dL_law_845 rfl (lv_at hl 0 rfl) ?_
        refine lv_iload_n hx hb dL_law_846 rfl (lv_at hl 3 rfl) ?_
        refine lv_iconst (v := 3) hx hb dL_law_847 (by decide) ?_
        refine lv_iadd hx hb dL_law_848 ?_
        obtain ⟨ok231, h⟩ := k_gd h
        refine va_sld hx hb hX hbl hbA (hM.S hsz) (okS_1 ok231) dL_law_849 ?_
        refine lv_aload_n hx hb dL_law_850 rfl (lv_at hl 0 rfl) ?_
        refine lv_iload_n hx hb dL_law_851 rfl (lv_at hl 3 rfl) ?_
        refine lv_iconst (v := 4) hx hb dL_law_852 (by decide) ?_
        refine lv_iadd hx hb dL_law_853 ?_
        obtain ⟨ok232, h⟩ := k_gd h
        refine va_sld hx hb hX hbl hbA (hM.S hsz) (okS_1 ok232) dL_law_854 ?_
        obtain ⟨ok233, h⟩ := k_gd h
        obtain ⟨w234, hzw234, h⟩ := k_bd h
        refine m_callV (C := RX7) (T := TX7) (N := 8) (ci := 7) (n := 4) (As := [.int (xs (Int32.toNatClampNeg (a3 + (1 : Int32)))), .int (xs (Int32.toNatClampNeg (a3 + (2 : Int32)))), .int (xs (Int32.toNatClampNeg (a3 + (3 : Int32)))), .int (xs (Int32.toNatClampNeg (a3 + (4 : Int32))))]) (rest := []) (st1 := (.int w234.1 :: [])) E hM hl.1 ok233 (by decide) rfl rfl (c_X7_number l D cy sz s.heap u b1 (xs (Int32.toNatClampNeg (a3 + (1 : Int32)))) (xs (Int32.toNatClampNeg (a3 + (2 : Int32)))) (xs (Int32.toNatClampNeg (a3 + (3 : Int32)))) (xs (Int32.toNatClampNeg (a3 + (4 : Int32)))) hzw234) wl_L_94 wm_X7_number ws_X7_number wi_X7 wd_X7_number rfl rfl (by decide +kernel) ⟨by decide, by decide⟩ rfl rfl (by first | exact Nat.le_of_ble_eq_true rfl | simp [rv_cat, cat_i, cat_l, cat_r, cat_n]) dL_law_855 ⟨by show _ ≤ room_1.cells; omega, by show _ ≤ room_1.slots; omega⟩ rfl (fun H locs hM => ?_)
        refine lv_aload_n hx hb dL_law_858 rfl (lv_at hl 2 rfl) ?_
        refine lv_aload_n hx hb dL_law_859 rfl (lv_at hl 0 rfl) ?_
        refine lv_iload_n hx hb dL_law_860 rfl (lv_at hl 3 rfl) ?_
        refine lv_iconst (v := 1) hx hb dL_law_861 (by decide) ?_
        refine lv_iadd hx hb dL_law_862 ?_
        obtain ⟨ok235, h⟩ := k_gd h
        refine va_sld hx hb hX hbl hbA (hM.S hsz) (okS_1 ok235) dL_law_863 ?_
        refine lv_aload_n hx hb dL_law_864 rfl (lv_at hl 0 rfl) ?_
        refine lv_iload_n hx hb dL_law_865 rfl (lv_at hl 3 rfl) ?_
        refine lv_iconst (v := 2) hx hb dL_law_866 (by decide) ?_
        refine lv_iadd hx hb dL_law_867 ?_
        obtain ⟨ok236, h⟩ := k_gd h
        refine va_sld hx hb hX hbl hbA (hM.S hsz) (okS_1 ok236) dL_law_868 ?_
        refine lv_aload_n hx hb dL_law_869 rfl (lv_at hl 0 rfl) ?_
        refine lv_iload_n hx hb dL_law_870 rfl (lv_at hl 3 rfl) ?_
        refine lv_iconst (v := 3) hx hb dL_law_871 (by decide) ?_
        refine lv_iadd hx hb dL_law_872 ?_
        obtain ⟨ok237, h⟩ := k_gd h
        refine va_sld hx hb hX hbl hbA (hM.S hsz) (okS_1 ok237) dL_law_873 ?_
        refine lv_aload_n hx hb dL_law_874 rfl (lv_at hl 0 rfl) ?_
        refine lv_iload_n hx hb dL_law_875 rfl (lv_at hl 3 rfl) ?_
        refine lv_iconst (v := 4) hx hb dL_law_876 (by decide) ?_
        refine lv_iadd hx hb dL_law_877 ?_
        obtain ⟨ok238, h⟩ := k_gd h
        refine va_sld hx hb hX hbl hbA (hM.S hsz) (okS_1 ok238) dL_law_878 ?_
        obtain ⟨ok239, h⟩ := k_gd h
        obtain ⟨w240, hzw240, h⟩ := k_bd h
        refine m_callV (C := RX8) (T := TX8) (N := 33) (ci := 8) (n := 4) (As := [.int (xs (Int32.toNatClampNeg (a3 + (1 : Int32)))), .int (xs (Int32.toNatClampNeg (a3 + (2 : Int32)))), .int (xs (Int32.toNatClampNeg (a3 + (3 : Int32)))), .int (xs (Int32.toNatClampNeg (a3 + (4 : Int32))))]) (rest := [.int w234.1]) (st1 := (.int w240.1 :: [.int w234.1])) E hM hl.1 ok239 (by decide) rfl rfl (c_X8_number l D cy sz s.heap w234.2 b2 (xs (Int32.toNatClampNeg (a3 + (1 : Int32)))) (xs (Int32.toNatClampNeg (a3 + (2 : Int32)))) (xs (Int32.toNatClampNeg (a3 + (3 : Int32)))) (xs (Int32.toNatClampNeg (a3 + (4 : Int32)))) hzw240) wl_L_98 wm_X8_number ws_X8_number wi_X8 wd_X8_number rfl rfl (by decide +kernel) ⟨by decide, by decide⟩ rfl rfl (by first | exact Nat.le_of_ble_eq_true rfl | simp [rv_cat, cat_i, cat_l, cat_r, cat_n]) dL_law_879 ⟨by show _ ≤ room_1.cells; omega, by show _ ≤ room_1.slots; omega⟩ rfl (fun H locs hM => ?_)
        refine lv_icmp_eq (tgt := 1331) hx hb dL_law_882 (by decide) (fun c241 => ?_) (fun c241 => ?_)
        · replace h := (k_if h).1 c241
          obtain ⟨v242, hvv242⟩ : ∃ y : Int32, y = a3 + (6) := ⟨_, rfl⟩
          replace h := k_bb h v242 hvv242
          refine lv_iinc (v := v242) (lv' := [(3, .int v242), (0, .ref b), (1, .ref (sz + b1)), (2, .ref (sz + b2))]) hx hb dL_law_1331 hl (k := 3) rfl (by rw [hvv242]; rfl) (by decide) (by first | rfl | simp [rv_cat, cat_i, cat_l, cat_r, cat_n]) (fun ls hl => ?_)
          refine lv_goto (tgt := 18) hx hb dL_law_1334 (by decide) ?_
          exact ih _ _ H locs ls _ _ (by omega) (by omega) hM (lv_sub hl [1, 2, 3, 0] rfl) h
        · replace h := (k_if h).2 c241
          refine lv_iconst (v := 0) hx hb dL_law_885 (by decide) ?_
          exact absurd h (by decide)
      replace h := (k_if h).2 c228
      by_cases c243 : v9 = 18
      · replace h := (k_if h).1 c243
        refine m_tsw (k := 18) (tgt := 887) hx hb dL_law_33 c243 (by decide) (by decide) rfl (by decide) ?_
        refine lv_aload_n hx hb dL_law_887 rfl (lv_at hl 1 rfl) ?_
        refine lv_aload_n hx hb dL_law_888 rfl (lv_at hl 0 rfl) ?_
        refine lv_iload_n hx hb dL_law_889 rfl (lv_at hl 3 rfl) ?_
        refine lv_iconst (v := 1) hx hb dL_law_890 (by decide) ?_
        refine lv_iadd hx hb dL_law_891 ?_
        obtain ⟨ok244, h⟩ := k_gd h
        refine va_sld hx hb hX hbl hbA (hM.S hsz) (okS_1 ok244) dL_law_892 ?_
        refine lv_aload_n hx hb dL_law_893 rfl (lv_at hl 0 rfl) ?_
        refine lv_iload_n hx hb dL_law_894 rfl (lv_at hl 3 rfl) ?_
        refine lv_iconst (v := 2) hx hb dL_law_895 (by decide) ?_
        refine lv_iadd hx hb dL_law_896 ?_
        obtain ⟨ok245, h⟩ := k_gd h
        refine va_sld hx hb hX hbl hbA (hM.S hsz) (okS_1 ok245) dL_law_897 ?_
        refine lv_aload_n hx hb dL_law_898 rfl (lv_at hl 0 rfl) ?_
        refine lv_iload_n hx hb dL_law_899 rfl (lv_at hl 3 rfl) ?_
        refine lv_iconst (v := 3) hx hb dL_law_900 (by decide) ?_
        refine lv_iadd hx hb dL_law_901 ?_
        obtain ⟨ok246, h⟩ := k_gd h
        refine va_sld hx hb hX hbl hbA (hM.S hsz) (okS_1 ok246) dL_law_902 ?_
        refine lv_aload_n hx hb dL_law_903 rfl (lv_at hl 0 rfl) ?_
        refine lv_iload_n hx hb dL_law_904 rfl (lv_at hl 3 rfl) ?_
        refine lv_iconst (v := 4) hx hb dL_law_905 (by decide) ?_
        refine lv_iadd hx hb dL_law_906 ?_
        obtain ⟨ok247, h⟩ := k_gd h
        refine va_sld hx hb hX hbl hbA (hM.S hsz) (okS_1 ok247) dL_law_907 ?_
        refine lv_aload_n hx hb dL_law_908 rfl (lv_at hl 0 rfl) ?_
        refine lv_iload_n hx hb dL_law_909 rfl (lv_at hl 3 rfl) ?_
        refine lv_iconst (v := 5) hx hb dL_law_910 (by decide) ?_
        refine lv_iadd hx hb dL_law_911 ?_
        obtain ⟨ok248, h⟩ := k_gd h
        refine va_sld hx hb hX hbl hbA (hM.S hsz) (okS_1 ok248) dL_law_912 ?_
        obtain ⟨ok249, h⟩ := k_gd h
        obtain ⟨w250, hzw250, h⟩ := k_bd h
        refine m_callV (C := RX7) (T := TX7) (N := 8) (ci := 7) (n := 5) (As := [.int (xs (Int32.toNatClampNeg (a3 + (1 : Int32)))), .int (xs (Int32.toNatClampNeg (a3 + (2 : Int32)))), .int (xs (Int32.toNatClampNeg (a3 + (3 : Int32)))), .int (xs (Int32.toNatClampNeg (a3 + (4 : Int32)))), .int (xs (Int32.toNatClampNeg (a3 + (5 : Int32))))]) (rest := []) (st1 := (.int w250.1 :: [])) E hM hl.1 ok249 (by decide) rfl rfl (c_X7_find l D cy sz s.heap u b1 (xs (Int32.toNatClampNeg (a3 + (1 : Int32)))) (xs (Int32.toNatClampNeg (a3 + (2 : Int32)))) (xs (Int32.toNatClampNeg (a3 + (3 : Int32)))) (xs (Int32.toNatClampNeg (a3 + (4 : Int32)))) (xs (Int32.toNatClampNeg (a3 + (5 : Int32)))) hzw250) wl_L_99 wm_X7_find ws_X7_find wi_X7 wd_X7_find rfl rfl (by decide +kernel) ⟨by decide, by decide⟩ rfl rfl (by first | exact Nat.le_of_ble_eq_true rfl | simp [rv_cat, cat_i, cat_l, cat_r, cat_n]) dL_law_913 ⟨by show _ ≤ room_1.cells; omega, by show _ ≤ room_1.slots; omega⟩ rfl (fun H locs hM => ?_)
        refine lv_aload_n hx hb dL_law_916 rfl (lv_at hl 2 rfl) ?_
        refine lv_aload_n hx hb dL_law_917 rfl (lv_at hl 0 rfl) ?_
        refine lv_iload_n hx hb dL_law_918 rfl (lv_at hl 3 rfl) ?_
        refine lv_iconst (v := 1) hx hb dL_law_919 (by decide) ?_
        refine lv_iadd hx hb dL_law_920 ?_
        obtain ⟨ok251, h⟩ := k_gd h
        refine va_sld hx hb hX hbl hbA (hM.S hsz) (okS_1 ok251) dL_law_921 ?_
        refine lv_aload_n hx hb dL_law_922 rfl (lv_at hl 0 rfl) ?_
        refine lv_iload_n hx hb dL_law_923 rfl (lv_at hl 3 rfl) ?_
        refine lv_iconst (v := 2) hx hb dL_law_924 (by decide) ?_
        refine lv_iadd hx hb dL_law_925 ?_
        obtain ⟨ok252, h⟩ := k_gd h
        refine va_sld hx hb hX hbl hbA (hM.S hsz) (okS_1 ok252) dL_law_926 ?_
        refine lv_aload_n hx hb dL_law_927 rfl (lv_at hl 0 rfl) ?_
        refine lv_iload_n hx hb dL_law_928 rfl (lv_at hl 3 rfl) ?_
        refine lv_iconst (v := 3) hx hb dL_law_929 (by decide) ?_
        refine lv_iadd hx hb dL_law_930 ?_
        obtain ⟨ok253, h⟩ := k_gd h
        refine va_sld hx hb hX hbl hbA (hM.S hsz) (okS_1 ok253) dL_law_931 ?_
        refine lv_aload_n hx hb dL_law_932 rfl (lv_at hl 0 rfl) ?_
        refine lv_iload_n hx hb dL_law_933 rfl (lv_at hl 3 rfl) ?_
        refine lv_iconst (v := 4) hx hb dL_law_934 (by decide) ?_
        refine lv_iadd hx hb dL_law_935 ?_
        obtain ⟨ok254, h⟩ := k_gd h
        refine va_sld hx hb hX hbl hbA (hM.S hsz) (okS_1 ok254) dL_law_936 ?_
        refine lv_aload_n hx hb dL_law_937 rfl (lv_at hl 0 rfl) ?_
        refine lv_iload_n hx hb dL_law_938 rfl (lv_at hl 3 rfl) ?_
        refine lv_iconst (v := 5) hx hb dL_law_939 (by decide) ?_
        refine lv_iadd hx hb dL_law_940 ?_
        obtain ⟨ok255, h⟩ := k_gd h
        refine va_sld hx hb hX hbl hbA (hM.S hsz) (okS_1 ok255) dL_law_941 ?_
        obtain ⟨ok256, h⟩ := k_gd h
        obtain ⟨w257, hzw257, h⟩ := k_bd h
        refine m_callV (C := RX8) (T := TX8) (N := 33) (ci := 8) (n := 5) (As := [.int (xs (Int32.toNatClampNeg (a3 + (1 : Int32)))), .int (xs (Int32.toNatClampNeg (a3 + (2 : Int32)))), .int (xs (Int32.toNatClampNeg (a3 + (3 : Int32)))), .int (xs (Int32.toNatClampNeg (a3 + (4 : Int32)))), .int (xs (Int32.toNatClampNeg (a3 + (5 : Int32))))]) (rest := [.int w250.1]) (st1 := (.int w257.1 :: [.int w250.1])) E hM hl.1 ok256 (by decide) rfl rfl (c_X8_find l D cy sz s.heap w250.2 b2 (xs (Int32.toNatClampNeg (a3 + (1 : Int32)))) (xs (Int32.toNatClampNeg (a3 + (2 : Int32)))) (xs (Int32.toNatClampNeg (a3 + (3 : Int32)))) (xs (Int32.toNatClampNeg (a3 + (4 : Int32)))) (xs (Int32.toNatClampNeg (a3 + (5 : Int32)))) hzw257) wl_L_103 wm_X8_find ws_X8_find wi_X8 wd_X8_find rfl rfl (by decide +kernel) ⟨by decide, by decide⟩ rfl rfl (by first | exact Nat.le_of_ble_eq_true rfl | simp [rv_cat, cat_i, cat_l, cat_r, cat_n]) dL_law_942 ⟨by show _ ≤ room_1.cells; omega, by show _ ≤ room_1.slots; omega⟩ rfl (fun H locs hM => ?_)
        refine lv_icmp_eq (tgt := 1331) hx hb dL_law_945 (by decide) (fun c258 => ?_) (fun c258 => ?_)
        · replace h := (k_if h).1 c258
          obtain ⟨v259, hvv259⟩ : ∃ y : Int32, y = a3 + (6) := ⟨_, rfl⟩
          replace h := k_bb h v259 hvv259
          refine lv_iinc (v := v259) (lv' := [(3, .int v259), (0, .ref b), (1, .ref (sz + b1)), (2, .ref (sz + b2))]) hx hb dL_law_1331 hl (k := 3) rfl (by rw [hvv259]; rfl) (by decide) (by first | rfl | simp [rv_cat, cat_i, cat_l, cat_r, cat_n]) (fun ls hl => ?_)
          refine lv_goto (tgt := 18) hx hb dL_law_1334 (by decide) ?_
          exact ih _ _ H locs ls _ _ (by omega) (by omega) hM (lv_sub hl [1, 2, 3, 0] rfl) h
        · replace h := (k_if h).2 c258
          refine lv_iconst (v := 0) hx hb dL_law_948 (by decide) ?_
          exact absurd h (by decide)
      replace h := (k_if h).2 c243
      by_cases c260 : v9 = 19
      · replace h := (k_if h).1 c260
        refine m_tsw (k := 19) (tgt := 950) hx hb dL_law_33 c260 (by decide) (by decide) rfl (by decide) ?_
        refine lv_aload_n hx hb dL_law_950 rfl (lv_at hl 1 rfl) ?_
        refine lv_aload_n hx hb dL_law_951 rfl (lv_at hl 0 rfl) ?_
        refine lv_iload_n hx hb dL_law_952 rfl (lv_at hl 3 rfl) ?_
        refine lv_iconst (v := 1) hx hb dL_law_953 (by decide) ?_
        refine lv_iadd hx hb dL_law_954 ?_
        obtain ⟨ok261, h⟩ := k_gd h
        refine va_sld hx hb hX hbl hbA (hM.S hsz) (okS_1 ok261) dL_law_955 ?_
        refine lv_aload_n hx hb dL_law_956 rfl (lv_at hl 0 rfl) ?_
        refine lv_iload_n hx hb dL_law_957 rfl (lv_at hl 3 rfl) ?_
        refine lv_iconst (v := 2) hx hb dL_law_958 (by decide) ?_
        refine lv_iadd hx hb dL_law_959 ?_
        obtain ⟨ok262, h⟩ := k_gd h
        refine va_sld hx hb hX hbl hbA (hM.S hsz) (okS_1 ok262) dL_law_960 ?_
        obtain ⟨ok263, h⟩ := k_gd h
        obtain ⟨w264, hzw264, h⟩ := k_bd h
        refine m_callV (C := RX7) (T := TX7) (N := 8) (ci := 7) (n := 2) (As := [.int (xs (Int32.toNatClampNeg (a3 + (1 : Int32)))), .int (xs (Int32.toNatClampNeg (a3 + (2 : Int32))))]) (rest := []) (st1 := (.int w264.1 :: [])) E hM hl.1 ok263 (by decide) rfl rfl (c_X7_mark l D cy sz s.heap u b1 (xs (Int32.toNatClampNeg (a3 + (1 : Int32)))) (xs (Int32.toNatClampNeg (a3 + (2 : Int32)))) hzw264) wl_L_104 wm_X7_mark ws_X7_mark wi_X7 wd_X7_mark rfl rfl (by decide +kernel) ⟨by decide, by decide⟩ rfl rfl (by first | exact Nat.le_of_ble_eq_true rfl | simp [rv_cat, cat_i, cat_l, cat_r, cat_n]) dL_law_961 ⟨by show _ ≤ room_1.cells; omega, by show _ ≤ room_1.slots; omega⟩ rfl (fun H locs hM => ?_)
        refine lv_aload_n hx hb dL_law_964 rfl (lv_at hl 2 rfl) ?_
        refine lv_aload_n hx hb dL_law_965 rfl (lv_at hl 0 rfl) ?_
        refine lv_iload_n hx hb dL_law_966 rfl (lv_at hl 3 rfl) ?_
        refine lv_iconst (v := 1) hx hb dL_law_967 (by decide) ?_
        refine lv_iadd hx hb dL_law_968 ?_
        obtain ⟨ok265, h⟩ := k_gd h
        refine va_sld hx hb hX hbl hbA (hM.S hsz) (okS_1 ok265) dL_law_969 ?_
        refine lv_aload_n hx hb dL_law_970 rfl (lv_at hl 0 rfl) ?_
        refine lv_iload_n hx hb dL_law_971 rfl (lv_at hl 3 rfl) ?_
        refine lv_iconst (v := 2) hx hb dL_law_972 (by decide) ?_
        refine lv_iadd hx hb dL_law_973 ?_
        obtain ⟨ok266, h⟩ := k_gd h
        refine va_sld hx hb hX hbl hbA (hM.S hsz) (okS_1 ok266) dL_law_974 ?_
        obtain ⟨ok267, h⟩ := k_gd h
        obtain ⟨w268, hzw268, h⟩ := k_bd h
        refine m_callV (C := RX8) (T := TX8) (N := 33) (ci := 8) (n := 2) (As := [.int (xs (Int32.toNatClampNeg (a3 + (1 : Int32)))), .int (xs (Int32.toNatClampNeg (a3 + (2 : Int32))))]) (rest := [.int w264.1]) (st1 := (.int w268.1 :: [.int w264.1])) E hM hl.1 ok267 (by decide) rfl rfl (c_X8_mark l D cy sz s.heap w264.2 b2 (xs (Int32.toNatClampNeg (a3 + (1 : Int32)))) (xs (Int32.toNatClampNeg (a3 + (2 : Int32)))) hzw268) wl_L_107 wm_X8_mark ws_X8_mark wi_X8 wd_X8_mark rfl rfl (by decide +kernel) ⟨by decide, by decide⟩ rfl rfl (by first | exact Nat.le_of_ble_eq_true rfl | simp [rv_cat, cat_i, cat_l, cat_r, cat_n]) dL_law_975 ⟨by show _ ≤ room_1.cells; omega, by show _ ≤ room_1.slots; omega⟩ rfl (fun H locs hM => ?_)
        refine lv_icmp_eq (tgt := 1331) hx hb dL_law_978 (by decide) (fun c269 => ?_) (fun c269 => ?_)
        · replace h := (k_if h).1 c269
          obtain ⟨v270, hvv270⟩ : ∃ y : Int32, y = a3 + (6) := ⟨_, rfl⟩
          replace h := k_bb h v270 hvv270
          refine lv_iinc (v := v270) (lv' := [(3, .int v270), (0, .ref b), (1, .ref (sz + b1)), (2, .ref (sz + b2))]) hx hb dL_law_1331 hl (k := 3) rfl (by rw [hvv270]; rfl) (by decide) (by first | rfl | simp [rv_cat, cat_i, cat_l, cat_r, cat_n]) (fun ls hl => ?_)
          refine lv_goto (tgt := 18) hx hb dL_law_1334 (by decide) ?_
          exact ih _ _ H locs ls _ _ (by omega) (by omega) hM (lv_sub hl [1, 2, 3, 0] rfl) h
        · replace h := (k_if h).2 c269
          refine lv_iconst (v := 0) hx hb dL_law_981 (by decide) ?_
          exact absurd h (by decide)
      replace h := (k_if h).2 c260
      by_cases c271 : v9 = 20
      · replace h := (k_if h).1 c271
        refine m_tsw (k := 20) (tgt := 983) hx hb dL_law_33 c271 (by decide) (by decide) rfl (by decide) ?_
        refine lv_aload_n hx hb dL_law_983 rfl (lv_at hl 1 rfl) ?_
        refine lv_aload_n hx hb dL_law_984 rfl (lv_at hl 0 rfl) ?_
        refine lv_iload_n hx hb dL_law_985 rfl (lv_at hl 3 rfl) ?_
        refine lv_iconst (v := 1) hx hb dL_law_986 (by decide) ?_
        refine lv_iadd hx hb dL_law_987 ?_
        obtain ⟨ok272, h⟩ := k_gd h
        refine va_sld hx hb hX hbl hbA (hM.S hsz) (okS_1 ok272) dL_law_988 ?_
        refine lv_aload_n hx hb dL_law_989 rfl (lv_at hl 0 rfl) ?_
        refine lv_iload_n hx hb dL_law_990 rfl (lv_at hl 3 rfl) ?_
        refine lv_iconst (v := 2) hx hb dL_law_991 (by decide) ?_
        refine lv_iadd hx hb dL_law_992 ?_
        obtain ⟨ok273, h⟩ := k_gd h
        refine va_sld hx hb hX hbl hbA (hM.S hsz) (okS_1 ok273) dL_law_993 ?_
        refine lv_aload_n hx hb dL_law_994 rfl (lv_at hl 0 rfl) ?_
        refine lv_iload_n hx hb dL_law_995 rfl (lv_at hl 3 rfl) ?_
        refine lv_iconst (v := 3) hx hb dL_law_996 (by decide) ?_
        refine lv_iadd hx hb dL_law_997 ?_
        obtain ⟨ok274, h⟩ := k_gd h
        refine va_sld hx hb hX hbl hbA (hM.S hsz) (okS_1 ok274) dL_law_998 ?_
        obtain ⟨ok275, h⟩ := k_gd h
        obtain ⟨w276, hzw276, h⟩ := k_bd h
        refine m_callV (C := RX7) (T := TX7) (N := 8) (ci := 7) (n := 3) (As := [.int (xs (Int32.toNatClampNeg (a3 + (1 : Int32)))), .int (xs (Int32.toNatClampNeg (a3 + (2 : Int32)))), .int (xs (Int32.toNatClampNeg (a3 + (3 : Int32))))]) (rest := []) (st1 := (.int w276.1 :: [])) E hM hl.1 ok275 (by decide) rfl rfl (c_X7_walk l D cy sz s.heap u b1 (xs (Int32.toNatClampNeg (a3 + (1 : Int32)))) (xs (Int32.toNatClampNeg (a3 + (2 : Int32)))) (xs (Int32.toNatClampNeg (a3 + (3 : Int32)))) hzw276) wl_L_108 wm_X7_walk ws_X7_walk wi_X7 wd_X7_walk rfl rfl (by decide +kernel) ⟨by decide, by decide⟩ rfl rfl (by first | exact Nat.le_of_ble_eq_true rfl | simp [rv_cat, cat_i, cat_l, cat_r, cat_n]) dL_law_999 ⟨by show _ ≤ room_1.cells; omega, by show _ ≤ room_1.slots; omega⟩ rfl (fun H locs hM => ?_)
        refine lv_aload_n hx hb dL_law_1002 rfl (lv_at hl 2 rfl) ?_
        refine lv_aload_n hx hb dL_law_1003 rfl (lv_at hl 0 rfl) ?_
        refine lv_iload_n hx hb dL_law_1004 rfl (lv_at hl 3 rfl) ?_
        refine lv_iconst (v := 1) hx hb dL_law_1005 (by decide) ?_
        refine lv_iadd hx hb dL_law_1006 ?_
        obtain ⟨ok277, h⟩ := k_gd h
        refine va_sld hx hb hX hbl hbA (hM.S hsz) (okS_1 ok277) dL_law_1007 ?_
        refine lv_aload_n hx hb dL_law_1008 rfl (lv_at hl 0 rfl) ?_
        refine lv_iload_n hx hb dL_law_1009 rfl (lv_at hl 3 rfl) ?_
        refine lv_iconst (v := 2) hx hb dL_law_1010 (by decide) ?_
        refine lv_iadd hx hb dL_law_1011 ?_
        obtain ⟨ok278, h⟩ := k_gd h
        refine va_sld hx hb hX hbl hbA (hM.S hsz) (okS_1 ok278) dL_law_1012 ?_
        refine lv_aload_n hx hb dL_law_1013 rfl (lv_at hl 0 rfl) ?_
        refine lv_iload_n hx hb dL_law_1014 rfl (lv_at hl 3 rfl) ?_
        refine lv_iconst (v := 3) hx hb dL_law_1015 (by decide) ?_
        refine lv_iadd hx hb dL_law_1016 ?_
        obtain ⟨ok279, h⟩ := k_gd h
        refine va_sld hx hb hX hbl hbA (hM.S hsz) (okS_1 ok279) dL_law_1017 ?_
        obtain ⟨ok280, h⟩ := k_gd h
        obtain ⟨w281, hzw281, h⟩ := k_bd h
        refine m_callV (C := RX8) (T := TX8) (N := 33) (ci := 8) (n := 3) (As := [.int (xs (Int32.toNatClampNeg (a3 + (1 : Int32)))), .int (xs (Int32.toNatClampNeg (a3 + (2 : Int32)))), .int (xs (Int32.toNatClampNeg (a3 + (3 : Int32))))]) (rest := [.int w276.1]) (st1 := (.int w281.1 :: [.int w276.1])) E hM hl.1 ok280 (by decide) rfl rfl (c_X8_walk l D cy sz s.heap w276.2 b2 (xs (Int32.toNatClampNeg (a3 + (1 : Int32)))) (xs (Int32.toNatClampNeg (a3 + (2 : Int32)))) (xs (Int32.toNatClampNeg (a3 + (3 : Int32)))) hzw281) wl_L_111 wm_X8_walk ws_X8_walk wi_X8 wd_X8_walk rfl rfl (by decide +kernel) ⟨by decide, by decide⟩ rfl rfl (by first | exact Nat.le_of_ble_eq_true rfl | simp [rv_cat, cat_i, cat_l, cat_r, cat_n]) dL_law_1018 ⟨by show _ ≤ room_1.cells; omega, by show _ ≤ room_1.slots; omega⟩ rfl (fun H locs hM => ?_)
        refine lv_icmp_eq (tgt := 1331) hx hb dL_law_1021 (by decide) (fun c282 => ?_) (fun c282 => ?_)
        · replace h := (k_if h).1 c282
          obtain ⟨v283, hvv283⟩ : ∃ y : Int32, y = a3 + (6) := ⟨_, rfl⟩
          replace h := k_bb h v283 hvv283
          refine lv_iinc (v := v283) (lv' := [(3, .int v283), (0, .ref b), (1, .ref (sz + b1)), (2, .ref (sz + b2))]) hx hb dL_law_1331 hl (k := 3) rfl (by rw [hvv283]; rfl) (by decide) (by first | rfl | simp [rv_cat, cat_i, cat_l, cat_r, cat_n]) (fun ls hl => ?_)
          refine lv_goto (tgt := 18) hx hb dL_law_1334 (by decide) ?_
          exact ih _ _ H locs ls _ _ (by omega) (by omega) hM (lv_sub hl [1, 2, 3, 0] rfl) h
        · replace h := (k_if h).2 c282
          refine lv_iconst (v := 0) hx hb dL_law_1024 (by decide) ?_
          exact absurd h (by decide)
      replace h := (k_if h).2 c271
      by_cases c284 : v9 = 21
      · replace h := (k_if h).1 c284
        refine m_tsw (k := 21) (tgt := 1026) hx hb dL_law_33 c284 (by decide) (by decide) rfl (by decide) ?_
        refine lv_aload_n hx hb dL_law_1026 rfl (lv_at hl 1 rfl) ?_
        refine lv_aload_n hx hb dL_law_1027 rfl (lv_at hl 0 rfl) ?_
        refine lv_iload_n hx hb dL_law_1028 rfl (lv_at hl 3 rfl) ?_
        refine lv_iconst (v := 1) hx hb dL_law_1029 (by decide) ?_
        refine lv_iadd hx hb dL_law_1030 ?_
        obtain ⟨ok285, h⟩ := k_gd h
        refine va_sld hx hb hX hbl hbA (hM.S hsz) (okS_1 ok285) dL_law_1031 ?_
        refine lv_aload_n hx hb dL_law_1032 rfl (lv_at hl 0 rfl) ?_
        refine lv_iload_n hx hb dL_law_1033 rfl (lv_at hl 3 rfl) ?_
        refine lv_iconst (v := 2) hx hb dL_law_1034 (by decide) ?_
        refine lv_iadd hx hb dL_law_1035 ?_
        obtain ⟨ok286, h⟩ := k_gd h
        refine va_sld hx hb hX hbl hbA (hM.S hsz) (okS_1 ok286) dL_law_1036 ?_
        refine lv_aload_n hx hb dL_law_1037 rfl (lv_at hl 0 rfl) ?_
        refine lv_iload_n hx hb dL_law_1038 rfl (lv_at hl 3 rfl) ?_
        refine lv_iconst (v := 3) hx hb dL_law_1039 (by decide) ?_
        refine lv_iadd hx hb dL_law_1040 ?_
        obtain ⟨ok287, h⟩ := k_gd h
        refine va_sld hx hb hX hbl hbA (hM.S hsz) (okS_1 ok287) dL_law_1041 ?_
        obtain ⟨ok288, h⟩ := k_gd h
        obtain ⟨w289, hzw289, h⟩ := k_bd h
        refine m_callV (C := RX7) (T := TX7) (N := 8) (ci := 7) (n := 3) (As := [.int (xs (Int32.toNatClampNeg (a3 + (1 : Int32)))), .int (xs (Int32.toNatClampNeg (a3 + (2 : Int32)))), .int (xs (Int32.toNatClampNeg (a3 + (3 : Int32))))]) (rest := []) (st1 := (.int w289.1 :: [])) E hM hl.1 ok288 (by decide) rfl rfl (c_X7_fetch l D cy sz s.heap u b1 (xs (Int32.toNatClampNeg (a3 + (1 : Int32)))) (xs (Int32.toNatClampNeg (a3 + (2 : Int32)))) (xs (Int32.toNatClampNeg (a3 + (3 : Int32)))) hzw289) wl_L_112 wm_X7_fetch ws_X7_fetch wi_X7 wd_X7_fetch rfl rfl (by decide +kernel) ⟨by decide, by decide⟩ rfl rfl (by first | exact Nat.le_of_ble_eq_true rfl | simp [rv_cat, cat_i, cat_l, cat_r, cat_n]) dL_law_1042 ⟨by show _ ≤ room_1.cells; omega, by show _ ≤ room_1.slots; omega⟩ rfl (fun H locs hM => ?_)
        refine lv_aload_n hx hb dL_law_1045 rfl (lv_at hl 2 rfl) ?_
        refine lv_aload_n hx hb dL_law_1046 rfl (lv_at hl 0 rfl) ?_
        refine lv_iload_n hx hb dL_law_1047 rfl (lv_at hl 3 rfl) ?_
        refine lv_iconst (v := 1) hx hb dL_law_1048 (by decide) ?_
        refine lv_iadd hx hb dL_law_1049 ?_
        obtain ⟨ok290, h⟩ := k_gd h
        refine va_sld hx hb hX hbl hbA (hM.S hsz) (okS_1 ok290) dL_law_1050 ?_
        refine lv_aload_n hx hb dL_law_1051 rfl (lv_at hl 0 rfl) ?_
        refine lv_iload_n hx hb dL_law_1052 rfl (lv_at hl 3 rfl) ?_
        refine lv_iconst (v := 2) hx hb dL_law_1053 (by decide) ?_
        refine lv_iadd hx hb dL_law_1054 ?_
        obtain ⟨ok291, h⟩ := k_gd h
        refine va_sld hx hb hX hbl hbA (hM.S hsz) (okS_1 ok291) dL_law_1055 ?_
        refine lv_aload_n hx hb dL_law_1056 rfl (lv_at hl 0 rfl) ?_
        refine lv_iload_n hx hb dL_law_1057 rfl (lv_at hl 3 rfl) ?_
        refine lv_iconst (v := 3) hx hb dL_law_1058 (by decide) ?_
        refine lv_iadd hx hb dL_law_1059 ?_
        obtain ⟨ok292, h⟩ := k_gd h
        refine va_sld hx hb hX hbl hbA (hM.S hsz) (okS_1 ok292) dL_law_1060 ?_
        obtain ⟨ok293, h⟩ := k_gd h
        obtain ⟨w294, hzw294, h⟩ := k_bd h
        refine m_callV (C := RX8) (T := TX8) (N := 33) (ci := 8) (n := 3) (As := [.int (xs (Int32.toNatClampNeg (a3 + (1 : Int32)))), .int (xs (Int32.toNatClampNeg (a3 + (2 : Int32)))), .int (xs (Int32.toNatClampNeg (a3 + (3 : Int32))))]) (rest := [.int w289.1]) (st1 := (.int w294.1 :: [.int w289.1])) E hM hl.1 ok293 (by decide) rfl rfl (c_X8_fetch l D cy sz s.heap w289.2 b2 (xs (Int32.toNatClampNeg (a3 + (1 : Int32)))) (xs (Int32.toNatClampNeg (a3 + (2 : Int32)))) (xs (Int32.toNatClampNeg (a3 + (3 : Int32)))) hzw294) wl_L_115 wm_X8_fetch ws_X8_fetch wi_X8 wd_X8_fetch rfl rfl (by decide +kernel) ⟨by decide, by decide⟩ rfl rfl (by first | exact Nat.le_of_ble_eq_true rfl | simp [rv_cat, cat_i, cat_l, cat_r, cat_n]) dL_law_1061 ⟨by show _ ≤ room_1.cells; omega, by show _ ≤ room_1.slots; omega⟩ rfl (fun H locs hM => ?_)
        refine lv_icmp_eq (tgt := 1331) hx hb dL_law_1064 (by decide) (fun c295 => ?_) (fun c295 => ?_)
        · replace h := (k_if h).1 c295
          obtain ⟨v296, hvv296⟩ : ∃ y : Int32, y = a3 + (6) := ⟨_, rfl⟩
          replace h := k_bb h v296 hvv296
          refine lv_iinc (v := v296) (lv' := [(3, .int v296), (0, .ref b), (1, .ref (sz + b1)), (2, .ref (sz + b2))]) hx hb dL_law_1331 hl (k := 3) rfl (by rw [hvv296]; rfl) (by decide) (by first | rfl | simp [rv_cat, cat_i, cat_l, cat_r, cat_n]) (fun ls hl => ?_)
          refine lv_goto (tgt := 18) hx hb dL_law_1334 (by decide) ?_
          exact ih _ _ H locs ls _ _ (by omega) (by omega) hM (lv_sub hl [1, 2, 3, 0] rfl) h
        · replace h := (k_if h).2 c295
          refine lv_iconst (v := 0) hx hb dL_law_1067 (by decide) ?_
          exact absurd h (by decide)
      replace h := (k_if h).2 c284
      by_cases c297 : v9 = 22
      · replace h := (k_if h).1 c297
        refine m_tsw (k := 22) (tgt := 1069) hx hb dL_law_33 c297 (by decide) (by decide) rfl (by decide) ?_
        refine lv_aload_n hx hb dL_law_1069 rfl (lv_at hl 1 rfl) ?_
        refine lv_aload_n hx hb dL_law_1070 rfl (lv_at hl 0 rfl) ?_
        refine lv_iload_n hx hb dL_law_1071 rfl (lv_at hl 3 rfl) ?_
        refine lv_iconst (v := 1) hx hb dL_law_1072 (by decide) ?_
        refine lv_iadd hx hb dL_law_1073 ?_
        obtain ⟨ok298, h⟩ := k_gd h
        refine va_sld hx hb hX hbl hbA (hM.S hsz) (okS_1 ok298) dL_law_1074 ?_
        refine lv_aload_n hx hb dL_law_1075 rfl (lv_at hl 0 rfl) ?_
        refine lv_iload_n hx hb dL_law_1076 rfl (lv_at hl 3 rfl) ?_
        refine lv_iconst (v := 2) hx hb dL_law_1077 (by decide) ?_
        refine lv_iadd hx hb dL_law_1078 ?_
        obtain ⟨ok299, h⟩ := k_gd h
        refine va_sld hx hb hX hbl hbA (hM.S hsz) (okS_1 ok299) dL_law_1079 ?_
        obtain ⟨ok300, h⟩ := k_gd h
        obtain ⟨w301, hzw301, h⟩ := k_bd h
        refine m_callV (C := RX7) (T := TX7) (N := 8) (ci := 7) (n := 2) (As := [.int (xs (Int32.toNatClampNeg (a3 + (1 : Int32)))), .int (xs (Int32.toNatClampNeg (a3 + (2 : Int32))))]) (rest := []) (st1 := (.int w301.1 :: [])) E hM hl.1 ok300 (by decide) rfl rfl (c_X7_back l D cy sz s.heap u b1 (xs (Int32.toNatClampNeg (a3 + (1 : Int32)))) (xs (Int32.toNatClampNeg (a3 + (2 : Int32)))) hzw301) wl_L_116 wm_X7_back ws_X7_back wi_X7 wd_X7_back rfl rfl (by decide +kernel) ⟨by decide, by decide⟩ rfl rfl (by first | exact Nat.le_of_ble_eq_true rfl | simp [rv_cat, cat_i, cat_l, cat_r, cat_n]) dL_law_1080 ⟨by show _ ≤ room_1.cells; omega, by show _ ≤ room_1.slots; omega⟩ rfl (fun H locs hM => ?_)
        refine lv_aload_n hx hb dL_law_1083 rfl (lv_at hl 2 rfl) ?_
        refine lv_aload_n hx hb dL_law_1084 rfl (lv_at hl 0 rfl) ?_
        refine lv_iload_n hx hb dL_law_1085 rfl (lv_at hl 3 rfl) ?_
        refine lv_iconst (v := 1) hx hb dL_law_1086 (by decide) ?_
        refine lv_iadd hx hb dL_law_1087 ?_
        obtain ⟨ok302, h⟩ := k_gd h
        refine va_sld hx hb hX hbl hbA (hM.S hsz) (okS_1 ok302) dL_law_1088 ?_
        refine lv_aload_n hx hb dL_law_1089 rfl (lv_at hl 0 rfl) ?_
        refine lv_iload_n hx hb dL_law_1090 rfl (lv_at hl 3 rfl) ?_
        refine lv_iconst (v := 2) hx hb dL_law_1091 (by decide) ?_
        refine lv_iadd hx hb dL_law_1092 ?_
        obtain ⟨ok303, h⟩ := k_gd h
        refine va_sld hx hb hX hbl hbA (hM.S hsz) (okS_1 ok303) dL_law_1093 ?_
        obtain ⟨ok304, h⟩ := k_gd h
        obtain ⟨w305, hzw305, h⟩ := k_bd h
        refine m_callV (C := RX8) (T := TX8) (N := 33) (ci := 8) (n := 2) (As := [.int (xs (Int32.toNatClampNeg (a3 + (1 : Int32)))), .int (xs (Int32.toNatClampNeg (a3 + (2 : Int32))))]) (rest := [.int w301.1]) (st1 := (.int w305.1 :: [.int w301.1])) E hM hl.1 ok304 (by decide) rfl rfl (c_X8_back l D cy sz s.heap w301.2 b2 (xs (Int32.toNatClampNeg (a3 + (1 : Int32)))) (xs (Int32.toNatClampNeg (a3 + (2 : Int32)))) hzw305) wl_L_119 wm_X8_back ws_X8_back wi_X8 wd_X8_back rfl rfl (by decide +kernel) ⟨by decide, by decide⟩ rfl rfl (by first | exact Nat.le_of_ble_eq_true rfl | simp [rv_cat, cat_i, cat_l, cat_r, cat_n]) dL_law_1094 ⟨by show _ ≤ room_1.cells; omega, by show _ ≤ room_1.slots; omega⟩ rfl (fun H locs hM => ?_)
        refine lv_icmp_eq (tgt := 1331) hx hb dL_law_1097 (by decide) (fun c306 => ?_) (fun c306 => ?_)
        · replace h := (k_if h).1 c306
          obtain ⟨v307, hvv307⟩ : ∃ y : Int32, y = a3 + (6) := ⟨_, rfl⟩
          replace h := k_bb h v307 hvv307
          refine lv_iinc (v := v307) (lv' := [(3, .int v307), (0, .ref b), (1, .ref (sz + b1)), (2, .ref (sz + b2))]) hx hb dL_law_1331 hl (k := 3) rfl (by rw [hvv307]; rfl) (by decide) (by first | rfl | simp [rv_cat, cat_i, cat_l, cat_r, cat_n]) (fun ls hl => ?_)
          refine lv_goto (tgt := 18) hx hb dL_law_1334 (by decide) ?_
          exact ih _ _ H locs ls _ _ (by omega) (by omega) hM (lv_sub hl [1, 2, 3, 0] rfl) h
        · replace h := (k_if h).2 c306
          refine lv_iconst (v := 0) hx hb dL_law_1100 (by decide) ?_
          exact absurd h (by decide)
      replace h := (k_if h).2 c297
      by_cases c308 : v9 = 23
      · replace h := (k_if h).1 c308
        refine m_tsw (k := 23) (tgt := 1102) hx hb dL_law_33 c308 (by decide) (by decide) rfl (by decide) ?_
        refine lv_aload_n hx hb dL_law_1102 rfl (lv_at hl 1 rfl) ?_
        refine lv_aload_n hx hb dL_law_1103 rfl (lv_at hl 0 rfl) ?_
        refine lv_iload_n hx hb dL_law_1104 rfl (lv_at hl 3 rfl) ?_
        refine lv_iconst (v := 1) hx hb dL_law_1105 (by decide) ?_
        refine lv_iadd hx hb dL_law_1106 ?_
        obtain ⟨ok309, h⟩ := k_gd h
        refine va_sld hx hb hX hbl hbA (hM.S hsz) (okS_1 ok309) dL_law_1107 ?_
        refine lv_aload_n hx hb dL_law_1108 rfl (lv_at hl 0 rfl) ?_
        refine lv_iload_n hx hb dL_law_1109 rfl (lv_at hl 3 rfl) ?_
        refine lv_iconst (v := 2) hx hb dL_law_1110 (by decide) ?_
        refine lv_iadd hx hb dL_law_1111 ?_
        obtain ⟨ok310, h⟩ := k_gd h
        refine va_sld hx hb hX hbl hbA (hM.S hsz) (okS_1 ok310) dL_law_1112 ?_
        obtain ⟨ok311, h⟩ := k_gd h
        obtain ⟨w312, hzw312, h⟩ := k_bd h
        refine m_callV (C := RX7) (T := TX7) (N := 8) (ci := 7) (n := 2) (As := [.int (xs (Int32.toNatClampNeg (a3 + (1 : Int32)))), .int (xs (Int32.toNatClampNeg (a3 + (2 : Int32))))]) (rest := []) (st1 := (.int w312.1 :: [])) E hM hl.1 ok311 (by decide) rfl rfl (c_X7_where l D cy sz s.heap u b1 (xs (Int32.toNatClampNeg (a3 + (1 : Int32)))) (xs (Int32.toNatClampNeg (a3 + (2 : Int32)))) hzw312) wl_L_120 wm_X7_where ws_X7_where wi_X7 wd_X7_where rfl rfl (by decide +kernel) ⟨by decide, by decide⟩ rfl rfl (by first | exact Nat.le_of_ble_eq_true rfl | simp [rv_cat, cat_i, cat_l, cat_r, cat_n]) dL_law_1113 ⟨by show _ ≤ room_1.cells; omega, by show _ ≤ room_1.slots; omega⟩ rfl (fun H locs hM => ?_)
        refine lv_aload_n hx hb dL_law_1116 rfl (lv_at hl 2 rfl) ?_
        refine lv_aload_n hx hb dL_law_1117 rfl (lv_at hl 0 rfl) ?_
        refine lv_iload_n hx hb dL_law_1118 rfl (lv_at hl 3 rfl) ?_
        refine lv_iconst (v := 1) hx hb dL_law_1119 (by decide) ?_
        refine lv_iadd hx hb dL_law_1120 ?_
        obtain ⟨ok313, h⟩ := k_gd h
        refine va_sld hx hb hX hbl hbA (hM.S hsz) (okS_1 ok313) dL_law_1121 ?_
        refine lv_aload_n hx hb dL_law_1122 rfl (lv_at hl 0 rfl) ?_
        refine lv_iload_n hx hb dL_law_1123 rfl (lv_at hl 3 rfl) ?_
        refine lv_iconst (v := 2) hx hb dL_law_1124 (by decide) ?_
        refine lv_iadd hx hb dL_law_1125 ?_
        obtain ⟨ok314, h⟩ := k_gd h
        refine va_sld hx hb hX hbl hbA (hM.S hsz) (okS_1 ok314) dL_law_1126 ?_
        obtain ⟨ok315, h⟩ := k_gd h
        obtain ⟨w316, hzw316, h⟩ := k_bd h
        refine m_callV (C := RX8) (T := TX8) (N := 33) (ci := 8) (n := 2) (As := [.int (xs (Int32.toNatClampNeg (a3 + (1 : Int32)))), .int (xs (Int32.toNatClampNeg (a3 + (2 : Int32))))]) (rest := [.int w312.1]) (st1 := (.int w316.1 :: [.int w312.1])) E hM hl.1 ok315 (by decide) rfl rfl (c_X8_where l D cy sz s.heap w312.2 b2 (xs (Int32.toNatClampNeg (a3 + (1 : Int32)))) (xs (Int32.toNatClampNeg (a3 + (2 : Int32)))) hzw316) wl_L_123 wm_X8_where ws_X8_where wi_X8 wd_X8_where rfl rfl (by decide +kernel) ⟨by decide, by decide⟩ rfl rfl (by first | exact Nat.le_of_ble_eq_true rfl | simp [rv_cat, cat_i, cat_l, cat_r, cat_n]) dL_law_1127 ⟨by show _ ≤ room_1.cells; omega, by show _ ≤ room_1.slots; omega⟩ rfl (fun H locs hM => ?_)
        refine lv_icmp_eq (tgt := 1331) hx hb dL_law_1130 (by decide) (fun c317 => ?_) (fun c317 => ?_)
        · replace h := (k_if h).1 c317
          obtain ⟨v318, hvv318⟩ : ∃ y : Int32, y = a3 + (6) := ⟨_, rfl⟩
          replace h := k_bb h v318 hvv318
          refine lv_iinc (v := v318) (lv' := [(3, .int v318), (0, .ref b), (1, .ref (sz + b1)), (2, .ref (sz + b2))]) hx hb dL_law_1331 hl (k := 3) rfl (by rw [hvv318]; rfl) (by decide) (by first | rfl | simp [rv_cat, cat_i, cat_l, cat_r, cat_n]) (fun ls hl => ?_)
          refine lv_goto (tgt := 18) hx hb dL_law_1334 (by decide) ?_
          exact ih _ _ H locs ls _ _ (by omega) (by omega) hM (lv_sub hl [1, 2, 3, 0] rfl) h
        · replace h := (k_if h).2 c317
          refine lv_iconst (v := 0) hx hb dL_law_1133 (by decide) ?_
          exact absurd h (by decide)
      replace h := (k_if h).2 c308
      by_cases c319 : v9 = 24
      · replace h := (k_if h).1 c319
        refine m_tsw (k := 24) (tgt := 1135) hx hb dL_law_33 c319 (by decide) (by decide) rfl (by decide) ?_
        refine lv_aload_n hx hb dL_law_1135 rfl (lv_at hl 1 rfl) ?_
        refine lv_aload_n hx hb dL_law_1136 rfl (lv_at hl 0 rfl) ?_
        refine lv_iload_n hx hb dL_law_1137 rfl (lv_at hl 3 rfl) ?_
        refine lv_iconst (v := 1) hx hb dL_law_1138 (by decide) ?_
        refine lv_iadd hx hb dL_law_1139 ?_
        obtain ⟨ok320, h⟩ := k_gd h
        refine va_sld hx hb hX hbl hbA (hM.S hsz) (okS_1 ok320) dL_law_1140 ?_
        refine lv_aload_n hx hb dL_law_1141 rfl (lv_at hl 0 rfl) ?_
        refine lv_iload_n hx hb dL_law_1142 rfl (lv_at hl 3 rfl) ?_
        refine lv_iconst (v := 2) hx hb dL_law_1143 (by decide) ?_
        refine lv_iadd hx hb dL_law_1144 ?_
        obtain ⟨ok321, h⟩ := k_gd h
        refine va_sld hx hb hX hbl hbA (hM.S hsz) (okS_1 ok321) dL_law_1145 ?_
        obtain ⟨ok322, h⟩ := k_gd h
        obtain ⟨w323, hzw323, h⟩ := k_bd h
        refine m_callV (C := RX7) (T := TX7) (N := 8) (ci := 7) (n := 2) (As := [.int (xs (Int32.toNatClampNeg (a3 + (1 : Int32)))), .int (xs (Int32.toNatClampNeg (a3 + (2 : Int32))))]) (rest := []) (st1 := (.int w323.1 :: [])) E hM hl.1 ok322 (by decide) rfl rfl (c_X7_stand l D cy sz s.heap u b1 (xs (Int32.toNatClampNeg (a3 + (1 : Int32)))) (xs (Int32.toNatClampNeg (a3 + (2 : Int32)))) hzw323) wl_L_124 wm_X7_stand ws_X7_stand wi_X7 wd_X7_stand rfl rfl (by decide +kernel) ⟨by decide, by decide⟩ rfl rfl (by first | exact Nat.le_of_ble_eq_true rfl | simp [rv_cat, cat_i, cat_l, cat_r, cat_n]) dL_law_1146 ⟨by show _ ≤ room_1.cells; omega, by show _ ≤ room_1.slots; omega⟩ rfl (fun H locs hM => ?_)
        refine lv_aload_n hx hb dL_law_1149 rfl (lv_at hl 2 rfl) ?_
        refine lv_aload_n hx hb dL_law_1150 rfl (lv_at hl 0 rfl) ?_
        refine lv_iload_n hx hb dL_law_1151 rfl (lv_at hl 3 rfl) ?_
        refine lv_iconst (v := 1) hx hb dL_law_1152 (by decide) ?_
        refine lv_iadd hx hb dL_law_1153 ?_
        obtain ⟨ok324, h⟩ := k_gd h
        refine va_sld hx hb hX hbl hbA (hM.S hsz) (okS_1 ok324) dL_law_1154 ?_
        refine lv_aload_n hx hb dL_law_1155 rfl (lv_at hl 0 rfl) ?_
        refine lv_iload_n hx hb dL_law_1156 rfl (lv_at hl 3 rfl) ?_
        refine lv_iconst (v := 2) hx hb dL_law_1157 (by decide) ?_
        refine lv_iadd hx hb dL_law_1158 ?_
        obtain ⟨ok325, h⟩ := k_gd h
        refine va_sld hx hb hX hbl hbA (hM.S hsz) (okS_1 ok325) dL_law_1159 ?_
        obtain ⟨ok326, h⟩ := k_gd h
        obtain ⟨w327, hzw327, h⟩ := k_bd h
        refine m_callV (C := RX8) (T := TX8) (N := 33) (ci := 8) (n := 2) (As := [.int (xs (Int32.toNatClampNeg (a3 + (1 : Int32)))), .int (xs (Int32.toNatClampNeg (a3 + (2 : Int32))))]) (rest := [.int w323.1]) (st1 := (.int w327.1 :: [.int w323.1])) E hM hl.1 ok326 (by decide) rfl rfl (c_X8_stand l D cy sz s.heap w323.2 b2 (xs (Int32.toNatClampNeg (a3 + (1 : Int32)))) (xs (Int32.toNatClampNeg (a3 + (2 : Int32)))) hzw327) wl_L_127 wm_X8_stand ws_X8_stand wi_X8 wd_X8_stand rfl rfl (by decide +kernel) ⟨by decide, by decide⟩ rfl rfl (by first | exact Nat.le_of_ble_eq_true rfl | simp [rv_cat, cat_i, cat_l, cat_r, cat_n]) dL_law_1160 ⟨by show _ ≤ room_1.cells; omega, by show _ ≤ room_1.slots; omega⟩ rfl (fun H locs hM => ?_)
        refine lv_icmp_eq (tgt := 1331) hx hb dL_law_1163 (by decide) (fun c328 => ?_) (fun c328 => ?_)
        · replace h := (k_if h).1 c328
          obtain ⟨v329, hvv329⟩ : ∃ y : Int32, y = a3 + (6) := ⟨_, rfl⟩
          replace h := k_bb h v329 hvv329
          refine lv_iinc (v := v329) (lv' := [(3, .int v329), (0, .ref b), (1, .ref (sz + b1)), (2, .ref (sz + b2))]) hx hb dL_law_1331 hl (k := 3) rfl (by rw [hvv329]; rfl) (by decide) (by first | rfl | simp [rv_cat, cat_i, cat_l, cat_r, cat_n]) (fun ls hl => ?_)
          refine lv_goto (tgt := 18) hx hb dL_law_1334 (by decide) ?_
          exact ih _ _ H locs ls _ _ (by omega) (by omega) hM (lv_sub hl [1, 2, 3, 0] rfl) h
        · replace h := (k_if h).2 c328
          refine lv_iconst (v := 0) hx hb dL_law_1166 (by decide) ?_
          exact absurd h (by decide)
      replace h := (k_if h).2 c319
      by_cases c330 : v9 = 25
      · replace h := (k_if h).1 c330
        refine m_tsw (k := 25) (tgt := 1168) hx hb dL_law_33 c330 (by decide) (by decide) rfl (by decide) ?_
        refine lv_aload_n hx hb dL_law_1168 rfl (lv_at hl 1 rfl) ?_
        refine lv_aload_n hx hb dL_law_1169 rfl (lv_at hl 0 rfl) ?_
        refine lv_iload_n hx hb dL_law_1170 rfl (lv_at hl 3 rfl) ?_
        refine lv_iconst (v := 1) hx hb dL_law_1171 (by decide) ?_
        refine lv_iadd hx hb dL_law_1172 ?_
        obtain ⟨ok331, h⟩ := k_gd h
        refine va_sld hx hb hX hbl hbA (hM.S hsz) (okS_1 ok331) dL_law_1173 ?_
        refine lv_aload_n hx hb dL_law_1174 rfl (lv_at hl 0 rfl) ?_
        refine lv_iload_n hx hb dL_law_1175 rfl (lv_at hl 3 rfl) ?_
        refine lv_iconst (v := 2) hx hb dL_law_1176 (by decide) ?_
        refine lv_iadd hx hb dL_law_1177 ?_
        obtain ⟨ok332, h⟩ := k_gd h
        refine va_sld hx hb hX hbl hbA (hM.S hsz) (okS_1 ok332) dL_law_1178 ?_
        obtain ⟨ok333, h⟩ := k_gd h
        obtain ⟨w334, hzw334, h⟩ := k_bd h
        refine m_callV (C := RX7) (T := TX7) (N := 8) (ci := 7) (n := 2) (As := [.int (xs (Int32.toNatClampNeg (a3 + (1 : Int32)))), .int (xs (Int32.toNatClampNeg (a3 + (2 : Int32))))]) (rest := []) (st1 := (.int w334.1 :: [])) E hM hl.1 ok333 (by decide) rfl rfl (c_X7_goal l D cy sz s.heap u b1 (xs (Int32.toNatClampNeg (a3 + (1 : Int32)))) (xs (Int32.toNatClampNeg (a3 + (2 : Int32)))) hzw334) wl_L_128 wm_X7_goal ws_X7_goal wi_X7 wd_X7_goal rfl rfl (by decide +kernel) ⟨by decide, by decide⟩ rfl rfl (by first | exact Nat.le_of_ble_eq_true rfl | simp [rv_cat, cat_i, cat_l, cat_r, cat_n]) dL_law_1179 ⟨by show _ ≤ room_1.cells; omega, by show _ ≤ room_1.slots; omega⟩ rfl (fun H locs hM => ?_)
        refine lv_aload_n hx hb dL_law_1182 rfl (lv_at hl 2 rfl) ?_
        refine lv_aload_n hx hb dL_law_1183 rfl (lv_at hl 0 rfl) ?_
        refine lv_iload_n hx hb dL_law_1184 rfl (lv_at hl 3 rfl) ?_
        refine lv_iconst (v := 1) hx hb dL_law_1185 (by decide) ?_
        refine lv_iadd hx hb dL_law_1186 ?_
        obtain ⟨ok335, h⟩ := k_gd h
        refine va_sld hx hb hX hbl hbA (hM.S hsz) (okS_1 ok335) dL_law_1187 ?_
        refine lv_aload_n hx hb dL_law_1188 rfl (lv_at hl 0 rfl) ?_
        refine lv_iload_n hx hb dL_law_1189 rfl (lv_at hl 3 rfl) ?_
        refine lv_iconst (v := 2) hx hb dL_law_1190 (by decide) ?_
        refine lv_iadd hx hb dL_law_1191 ?_
        obtain ⟨ok336, h⟩ := k_gd h
        refine va_sld hx hb hX hbl hbA (hM.S hsz) (okS_1 ok336) dL_law_1192 ?_
        obtain ⟨ok337, h⟩ := k_gd h
        obtain ⟨w338, hzw338, h⟩ := k_bd h
        refine m_callV (C := RX8) (T := TX8) (N := 33) (ci := 8) (n := 2) (As := [.int (xs (Int32.toNatClampNeg (a3 + (1 : Int32)))), .int (xs (Int32.toNatClampNeg (a3 + (2 : Int32))))]) (rest := [.int w334.1]) (st1 := (.int w338.1 :: [.int w334.1])) E hM hl.1 ok337 (by decide) rfl rfl (c_X8_goal l D cy sz s.heap w334.2 b2 (xs (Int32.toNatClampNeg (a3 + (1 : Int32)))) (xs (Int32.toNatClampNeg (a3 + (2 : Int32)))) hzw338) wl_L_131 wm_X8_goal ws_X8_goal wi_X8 wd_X8_goal rfl rfl (by decide +kernel) ⟨by decide, by decide⟩ rfl rfl (by first | exact Nat.le_of_ble_eq_true rfl | simp [rv_cat, cat_i, cat_l, cat_r, cat_n]) dL_law_1193 ⟨by show _ ≤ room_1.cells; omega, by show _ ≤ room_1.slots; omega⟩ rfl (fun H locs hM => ?_)
        refine lv_icmp_eq (tgt := 1331) hx hb dL_law_1196 (by decide) (fun c339 => ?_) (fun c339 => ?_)
        · replace h := (k_if h).1 c339
          obtain ⟨v340, hvv340⟩ : ∃ y : Int32, y = a3 + (6) := ⟨_, rfl⟩
          replace h := k_bb h v340 hvv340
          refine lv_iinc (v := v340) (lv' := [(3, .int v340), (0, .ref b), (1, .ref (sz + b1)), (2, .ref (sz + b2))]) hx hb dL_law_1331 hl (k := 3) rfl (by rw [hvv340]; rfl) (by decide) (by first | rfl | simp [rv_cat, cat_i, cat_l, cat_r, cat_n]) (fun ls hl => ?_)
          refine lv_goto (tgt := 18) hx hb dL_law_1334 (by decide) ?_
          exact ih _ _ H locs ls _ _ (by omega) (by omega) hM (lv_sub hl [1, 2, 3, 0] rfl) h
        · replace h := (k_if h).2 c339
          refine lv_iconst (v := 0) hx hb dL_law_1199 (by decide) ?_
          exact absurd h (by decide)
      replace h := (k_if h).2 c330
      by_cases c341 : v9 = 26
      · replace h := (k_if h).1 c341
        refine m_tsw (k := 26) (tgt := 1201) hx hb dL_law_33 c341 (by decide) (by decide) rfl (by decide) ?_
        refine lv_aload_n hx hb dL_law_1201 rfl (lv_at hl 1 rfl) ?_
        obtain ⟨ok342, h⟩ := k_gd h
        obtain ⟨w343, hzw343, h⟩ := k_bd h
        refine m_callV (C := RX7) (T := TX7) (N := 8) (ci := 7) (n := 0) (As := []) (rest := []) (st1 := (.int w343.1 :: [])) E hM hl.1 ok342 (by decide) rfl rfl (c_X7_plan l D cy sz s.heap u b1 hzw343) wl_L_132 wm_X7_plan ws_X7_plan wi_X7 wd_X7_plan rfl rfl (by decide +kernel) ⟨by decide, by decide⟩ rfl rfl (by first | exact Nat.le_of_ble_eq_true rfl | simp [rv_cat, cat_i, cat_l, cat_r, cat_n]) dL_law_1202 ⟨by show _ ≤ room_1.cells; omega, by show _ ≤ room_1.slots; omega⟩ rfl (fun H locs hM => ?_)
        refine lv_aload_n hx hb dL_law_1205 rfl (lv_at hl 2 rfl) ?_
        obtain ⟨ok344, h⟩ := k_gd h
        obtain ⟨w345, hzw345, h⟩ := k_bd h
        refine m_callV (C := RX8) (T := TX8) (N := 33) (ci := 8) (n := 0) (As := []) (rest := [.int w343.1]) (st1 := (.int w345.1 :: [.int w343.1])) E hM hl.1 ok344 (by decide) rfl rfl (c_X8_plan l D cy sz s.heap w343.2 b2 hzw345) wl_L_135 wm_X8_plan ws_X8_plan wi_X8 wd_X8_plan rfl rfl (by decide +kernel) ⟨by decide, by decide⟩ rfl rfl (by first | exact Nat.le_of_ble_eq_true rfl | simp [rv_cat, cat_i, cat_l, cat_r, cat_n]) dL_law_1206 ⟨by show _ ≤ room_1.cells; omega, by show _ ≤ room_1.slots; omega⟩ rfl (fun H locs hM => ?_)
        refine lv_icmp_eq (tgt := 1331) hx hb dL_law_1209 (by decide) (fun c346 => ?_) (fun c346 => ?_)
        · replace h := (k_if h).1 c346
          obtain ⟨v347, hvv347⟩ : ∃ y : Int32, y = a3 + (6) := ⟨_, rfl⟩
          replace h := k_bb h v347 hvv347
          refine lv_iinc (v := v347) (lv' := [(3, .int v347), (0, .ref b), (1, .ref (sz + b1)), (2, .ref (sz + b2))]) hx hb dL_law_1331 hl (k := 3) rfl (by rw [hvv347]; rfl) (by decide) (by first | rfl | simp [rv_cat, cat_i, cat_l, cat_r, cat_n]) (fun ls hl => ?_)
          refine lv_goto (tgt := 18) hx hb dL_law_1334 (by decide) ?_
          exact ih _ _ H locs ls _ _ (by omega) (by omega) hM (lv_sub hl [1, 2, 3, 0] rfl) h
        · replace h := (k_if h).2 c346
          refine lv_iconst (v := 0) hx hb dL_law_1212 (by decide) ?_
          exact absurd h (by decide)
      replace h := (k_if h).2 c341
      by_cases c348 : v9 = 27
      · replace h := (k_if h).1 c348
        refine m_tsw (k := 27) (tgt := 1214) hx hb dL_law_33 c348 (by decide) (by decide) rfl (by decide) ?_
        refine lv_aload_n hx hb dL_law_1214 rfl (lv_at hl 1 rfl) ?_
        refine lv_aload_n hx hb dL_law_1215 rfl (lv_at hl 0 rfl) ?_
        refine lv_iload_n hx hb dL_law_1216 rfl (lv_at hl 3 rfl) ?_
        refine lv_iconst (v := 1) hx hb dL_law_1217 (by decide) ?_
        refine lv_iadd hx hb dL_law_1218 ?_
        obtain ⟨ok349, h⟩ := k_gd h
        refine va_sld hx hb hX hbl hbA (hM.S hsz) (okS_1 ok349) dL_law_1219 ?_
        refine lv_aload_n hx hb dL_law_1220 rfl (lv_at hl 0 rfl) ?_
        refine lv_iload_n hx hb dL_law_1221 rfl (lv_at hl 3 rfl) ?_
        refine lv_iconst (v := 2) hx hb dL_law_1222 (by decide) ?_
        refine lv_iadd hx hb dL_law_1223 ?_
        obtain ⟨ok350, h⟩ := k_gd h
        refine va_sld hx hb hX hbl hbA (hM.S hsz) (okS_1 ok350) dL_law_1224 ?_
        obtain ⟨ok351, h⟩ := k_gd h
        obtain ⟨w352, hzw352, h⟩ := k_bd h
        refine m_callV (C := RX7) (T := TX7) (N := 8) (ci := 7) (n := 2) (As := [.int (xs (Int32.toNatClampNeg (a3 + (1 : Int32)))), .int (xs (Int32.toNatClampNeg (a3 + (2 : Int32))))]) (rest := []) (st1 := (.int w352.1 :: [])) E hM hl.1 ok351 (by decide) rfl rfl (c_X7_carry l D cy sz s.heap u b1 (xs (Int32.toNatClampNeg (a3 + (1 : Int32)))) (xs (Int32.toNatClampNeg (a3 + (2 : Int32)))) hzw352) wl_L_136 wm_X7_carry ws_X7_carry wi_X7 wd_X7_carry rfl rfl (by decide +kernel) ⟨by decide, by decide⟩ rfl rfl (by first | exact Nat.le_of_ble_eq_true rfl | simp [rv_cat, cat_i, cat_l, cat_r, cat_n]) dL_law_1225 ⟨by show _ ≤ room_1.cells; omega, by show _ ≤ room_1.slots; omega⟩ rfl (fun H locs hM => ?_)
        refine lv_aload_n hx hb dL_law_1228 rfl (lv_at hl 2 rfl) ?_
        refine lv_aload_n hx hb dL_law_1229 rfl (lv_at hl 0 rfl) ?_
        refine lv_iload_n hx hb dL_law_1230 rfl (lv_at hl 3 rfl) ?_
        refine lv_iconst (v := 1) hx hb dL_law_1231 (by decide) ?_
        refine lv_iadd hx hb dL_law_1232 ?_
        obtain ⟨ok353, h⟩ := k_gd h
        refine va_sld hx hb hX hbl hbA (hM.S hsz) (okS_1 ok353) dL_law_1233 ?_
        refine lv_aload_n hx hb dL_law_1234 rfl (lv_at hl 0 rfl) ?_
        refine lv_iload_n hx hb dL_law_1235 rfl (lv_at hl 3 rfl) ?_
        refine lv_iconst (v := 2) hx hb dL_law_1236 (by decide) ?_
        refine lv_iadd hx hb dL_law_1237 ?_
        obtain ⟨ok354, h⟩ := k_gd h
        refine va_sld hx hb hX hbl hbA (hM.S hsz) (okS_1 ok354) dL_law_1238 ?_
        obtain ⟨ok355, h⟩ := k_gd h
        obtain ⟨w356, hzw356, h⟩ := k_bd h
        refine m_callV (C := RX8) (T := TX8) (N := 33) (ci := 8) (n := 2) (As := [.int (xs (Int32.toNatClampNeg (a3 + (1 : Int32)))), .int (xs (Int32.toNatClampNeg (a3 + (2 : Int32))))]) (rest := [.int w352.1]) (st1 := (.int w356.1 :: [.int w352.1])) E hM hl.1 ok355 (by decide) rfl rfl (c_X8_carry l D cy sz s.heap w352.2 b2 (xs (Int32.toNatClampNeg (a3 + (1 : Int32)))) (xs (Int32.toNatClampNeg (a3 + (2 : Int32)))) hzw356) wl_L_139 wm_X8_carry ws_X8_carry wi_X8 wd_X8_carry rfl rfl (by decide +kernel) ⟨by decide, by decide⟩ rfl rfl (by first | exact Nat.le_of_ble_eq_true rfl | simp [rv_cat, cat_i, cat_l, cat_r, cat_n]) dL_law_1239 ⟨by show _ ≤ room_1.cells; omega, by show _ ≤ room_1.slots; omega⟩ rfl (fun H locs hM => ?_)
        refine lv_icmp_eq (tgt := 1331) hx hb dL_law_1242 (by decide) (fun c357 => ?_) (fun c357 => ?_)
        · replace h := (k_if h).1 c357
          obtain ⟨v358, hvv358⟩ : ∃ y : Int32, y = a3 + (6) := ⟨_, rfl⟩
          replace h := k_bb h v358 hvv358
          refine lv_iinc (v := v358) (lv' := [(3, .int v358), (0, .ref b), (1, .ref (sz + b1)), (2, .ref (sz + b2))]) hx hb dL_law_1331 hl (k := 3) rfl (by rw [hvv358]; rfl) (by decide) (by first | rfl | simp [rv_cat, cat_i, cat_l, cat_r, cat_n]) (fun ls hl => ?_)
          refine lv_goto (tgt := 18) hx hb dL_law_1334 (by decide) ?_
          exact ih _ _ H locs ls _ _ (by omega) (by omega) hM (lv_sub hl [1, 2, 3, 0] rfl) h
        · replace h := (k_if h).2 c357
          refine lv_iconst (v := 0) hx hb dL_law_1245 (by decide) ?_
          exact absurd h (by decide)
      replace h := (k_if h).2 c348
      by_cases c359 : v9 = 28
      · replace h := (k_if h).1 c359
        refine m_tsw (k := 28) (tgt := 1247) hx hb dL_law_33 c359 (by decide) (by decide) rfl (by decide) ?_
        refine lv_aload_n hx hb dL_law_1247 rfl (lv_at hl 1 rfl) ?_
        obtain ⟨ok360, h⟩ := k_gd h
        obtain ⟨w361, hzw361, h⟩ := k_bd h
        refine m_callV (C := RX7) (T := TX7) (N := 8) (ci := 7) (n := 0) (As := []) (rest := []) (st1 := (.int w361.1 :: [])) E hM hl.1 ok360 (by decide) rfl rfl (c_X7_carried l D cy sz s.heap u b1 hzw361) wl_L_140 wm_X7_carried ws_X7_carried wi_X7 wd_X7_carried rfl rfl (by decide +kernel) ⟨by decide, by decide⟩ rfl rfl (by first | exact Nat.le_of_ble_eq_true rfl | simp [rv_cat, cat_i, cat_l, cat_r, cat_n]) dL_law_1248 ⟨by show _ ≤ room_1.cells; omega, by show _ ≤ room_1.slots; omega⟩ rfl (fun H locs hM => ?_)
        refine lv_aload_n hx hb dL_law_1251 rfl (lv_at hl 2 rfl) ?_
        obtain ⟨ok362, h⟩ := k_gd h
        obtain ⟨w363, hzw363, h⟩ := k_bd h
        refine m_callV (C := RX8) (T := TX8) (N := 33) (ci := 8) (n := 0) (As := []) (rest := [.int w361.1]) (st1 := (.int w363.1 :: [.int w361.1])) E hM hl.1 ok362 (by decide) rfl rfl (c_X8_carried l D cy sz s.heap w361.2 b2 hzw363) wl_L_144 wm_X8_carried ws_X8_carried wi_X8 wd_X8_carried rfl rfl (by decide +kernel) ⟨by decide, by decide⟩ rfl rfl (by first | exact Nat.le_of_ble_eq_true rfl | simp [rv_cat, cat_i, cat_l, cat_r, cat_n]) dL_law_1252 ⟨by show _ ≤ room_1.cells; omega, by show _ ≤ room_1.slots; omega⟩ rfl (fun H locs hM => ?_)
        refine lv_icmp_eq (tgt := 1331) hx hb dL_law_1255 (by decide) (fun c364 => ?_) (fun c364 => ?_)
        · replace h := (k_if h).1 c364
          obtain ⟨v365, hvv365⟩ : ∃ y : Int32, y = a3 + (6) := ⟨_, rfl⟩
          replace h := k_bb h v365 hvv365
          refine lv_iinc (v := v365) (lv' := [(3, .int v365), (0, .ref b), (1, .ref (sz + b1)), (2, .ref (sz + b2))]) hx hb dL_law_1331 hl (k := 3) rfl (by rw [hvv365]; rfl) (by decide) (by first | rfl | simp [rv_cat, cat_i, cat_l, cat_r, cat_n]) (fun ls hl => ?_)
          refine lv_goto (tgt := 18) hx hb dL_law_1334 (by decide) ?_
          exact ih _ _ H locs ls _ _ (by omega) (by omega) hM (lv_sub hl [1, 2, 3, 0] rfl) h
        · replace h := (k_if h).2 c364
          refine lv_iconst (v := 0) hx hb dL_law_1258 (by decide) ?_
          exact absurd h (by decide)
      replace h := (k_if h).2 c359
      by_cases c366 : v9 = 29
      · replace h := (k_if h).1 c366
        refine m_tsw (k := 29) (tgt := 1260) hx hb dL_law_33 c366 (by decide) (by decide) rfl (by decide) ?_
        refine lv_aload_n hx hb dL_law_1260 rfl (lv_at hl 1 rfl) ?_
        refine lv_aload_n hx hb dL_law_1261 rfl (lv_at hl 0 rfl) ?_
        refine lv_iload_n hx hb dL_law_1262 rfl (lv_at hl 3 rfl) ?_
        refine lv_iconst (v := 1) hx hb dL_law_1263 (by decide) ?_
        refine lv_iadd hx hb dL_law_1264 ?_
        obtain ⟨ok367, h⟩ := k_gd h
        refine va_sld hx hb hX hbl hbA (hM.S hsz) (okS_1 ok367) dL_law_1265 ?_
        refine lv_aload_n hx hb dL_law_1266 rfl (lv_at hl 0 rfl) ?_
        refine lv_iload_n hx hb dL_law_1267 rfl (lv_at hl 3 rfl) ?_
        refine lv_iconst (v := 2) hx hb dL_law_1268 (by decide) ?_
        refine lv_iadd hx hb dL_law_1269 ?_
        obtain ⟨ok368, h⟩ := k_gd h
        refine va_sld hx hb hX hbl hbA (hM.S hsz) (okS_1 ok368) dL_law_1270 ?_
        refine lv_aload_n hx hb dL_law_1271 rfl (lv_at hl 0 rfl) ?_
        refine lv_iload_n hx hb dL_law_1272 rfl (lv_at hl 3 rfl) ?_
        refine lv_iconst (v := 3) hx hb dL_law_1273 (by decide) ?_
        refine lv_iadd hx hb dL_law_1274 ?_
        obtain ⟨ok369, h⟩ := k_gd h
        refine va_sld hx hb hX hbl hbA (hM.S hsz) (okS_1 ok369) dL_law_1275 ?_
        obtain ⟨ok370, h⟩ := k_gd h
        obtain ⟨w371, hzw371, h⟩ := k_bd h
        refine m_callV (C := RX7) (T := TX7) (N := 8) (ci := 7) (n := 3) (As := [.int (xs (Int32.toNatClampNeg (a3 + (1 : Int32)))), .int (xs (Int32.toNatClampNeg (a3 + (2 : Int32)))), .int (xs (Int32.toNatClampNeg (a3 + (3 : Int32))))]) (rest := []) (st1 := (.int w371.1 :: [])) E hM hl.1 ok370 (by decide) rfl rfl (c_X7_search l D cy sz s.heap u b1 (xs (Int32.toNatClampNeg (a3 + (1 : Int32)))) (xs (Int32.toNatClampNeg (a3 + (2 : Int32)))) (xs (Int32.toNatClampNeg (a3 + (3 : Int32)))) hzw371) wl_L_145 wm_X7_search ws_X7_search wi_X7 wd_X7_search rfl rfl (by decide +kernel) ⟨by decide, by decide⟩ rfl rfl (by first | exact Nat.le_of_ble_eq_true rfl | simp [rv_cat, cat_i, cat_l, cat_r, cat_n]) dL_law_1276 ⟨by show _ ≤ room_1.cells; omega, by show _ ≤ room_1.slots; omega⟩ rfl (fun H locs hM => ?_)
        refine lv_aload_n hx hb dL_law_1279 rfl (lv_at hl 2 rfl) ?_
        refine lv_aload_n hx hb dL_law_1280 rfl (lv_at hl 0 rfl) ?_
        refine lv_iload_n hx hb dL_law_1281 rfl (lv_at hl 3 rfl) ?_
        refine lv_iconst (v := 1) hx hb dL_law_1282 (by decide) ?_
        refine lv_iadd hx hb dL_law_1283 ?_
        obtain ⟨ok372, h⟩ := k_gd h
        refine va_sld hx hb hX hbl hbA (hM.S hsz) (okS_1 ok372) dL_law_1284 ?_
        refine lv_aload_n hx hb dL_law_1285 rfl (lv_at hl 0 rfl) ?_
        refine lv_iload_n hx hb dL_law_1286 rfl (lv_at hl 3 rfl) ?_
        refine lv_iconst (v := 2) hx hb dL_law_1287 (by decide) ?_
        refine lv_iadd hx hb dL_law_1288 ?_
        obtain ⟨ok373, h⟩ := k_gd h
        refine va_sld hx hb hX hbl hbA (hM.S hsz) (okS_1 ok373) dL_law_1289 ?_
        refine lv_aload_n hx hb dL_law_1290 rfl (lv_at hl 0 rfl) ?_
        refine lv_iload_n hx hb dL_law_1291 rfl (lv_at hl 3 rfl) ?_
        refine lv_iconst (v := 3) hx hb dL_law_1292 (by decide) ?_
        refine lv_iadd hx hb dL_law_1293 ?_
        obtain ⟨ok374, h⟩ := k_gd h
        refine va_sld hx hb hX hbl hbA (hM.S hsz) (okS_1 ok374) dL_law_1294 ?_
        obtain ⟨ok375, h⟩ := k_gd h
        obtain ⟨w376, hzw376, h⟩ := k_bd h
        refine m_callV (C := RX8) (T := TX8) (N := 33) (ci := 8) (n := 3) (As := [.int (xs (Int32.toNatClampNeg (a3 + (1 : Int32)))), .int (xs (Int32.toNatClampNeg (a3 + (2 : Int32)))), .int (xs (Int32.toNatClampNeg (a3 + (3 : Int32))))]) (rest := [.int w371.1]) (st1 := (.int w376.1 :: [.int w371.1])) E hM hl.1 ok375 (by decide) rfl rfl (c_X8_search l D cy sz s.heap w371.2 b2 (xs (Int32.toNatClampNeg (a3 + (1 : Int32)))) (xs (Int32.toNatClampNeg (a3 + (2 : Int32)))) (xs (Int32.toNatClampNeg (a3 + (3 : Int32)))) hzw376) wl_L_148 wm_X8_search ws_X8_search wi_X8 wd_X8_search rfl rfl (by decide +kernel) ⟨by decide, by decide⟩ rfl rfl (by first | exact Nat.le_of_ble_eq_true rfl | simp [rv_cat, cat_i, cat_l, cat_r, cat_n]) dL_law_1295 ⟨by show _ ≤ room_1.cells; omega, by show _ ≤ room_1.slots; omega⟩ rfl (fun H locs hM => ?_)
        refine lv_icmp_eq (tgt := 1331) hx hb dL_law_1298 (by decide) (fun c377 => ?_) (fun c377 => ?_)
        · replace h := (k_if h).1 c377
          obtain ⟨v378, hvv378⟩ : ∃ y : Int32, y = a3 + (6) := ⟨_, rfl⟩
          replace h := k_bb h v378 hvv378
          refine lv_iinc (v := v378) (lv' := [(3, .int v378), (0, .ref b), (1, .ref (sz + b1)), (2, .ref (sz + b2))]) hx hb dL_law_1331 hl (k := 3) rfl (by rw [hvv378]; rfl) (by decide) (by first | rfl | simp [rv_cat, cat_i, cat_l, cat_r, cat_n]) (fun ls hl => ?_)
          refine lv_goto (tgt := 18) hx hb dL_law_1334 (by decide) ?_
          exact ih _ _ H locs ls _ _ (by omega) (by omega) hM (lv_sub hl [1, 2, 3, 0] rfl) h
        · replace h := (k_if h).2 c377
          refine lv_iconst (v := 0) hx hb dL_law_1301 (by decide) ?_
          exact absurd h (by decide)
      replace h := (k_if h).2 c366
      by_cases c379 : v9 = 30
      · replace h := (k_if h).1 c379
        refine m_tsw (k := 30) (tgt := 1303) hx hb dL_law_33 c379 (by decide) (by decide) rfl (by decide) ?_
        refine lv_aload_n hx hb dL_law_1303 rfl (lv_at hl 1 rfl) ?_
        obtain ⟨ok380, h⟩ := k_gd h
        obtain ⟨w381, hzw381, h⟩ := k_bd h
        refine m_callV (C := RX7) (T := TX7) (N := 8) (ci := 7) (n := 0) (As := []) (rest := []) (st1 := (.long w381 :: [])) E hM hl.1 ok380 (by decide) rfl rfl (c_X7_upper l D cy sz s.heap u b1 hzw381) wl_L_149 wm_X7_upper ws_X7_upper wi_X7 wd_X7_upper rfl rfl (by decide +kernel) ⟨by decide, by decide⟩ rfl rfl (by first | exact Nat.le_of_ble_eq_true rfl | simp [rv_cat, cat_i, cat_l, cat_r, cat_n]) dL_law_1304 ⟨by show _ ≤ room_1.cells; omega, by show _ ≤ room_1.slots; omega⟩ rfl (fun H locs hM => ?_)
        refine lv_aload_n hx hb dL_law_1307 rfl (lv_at hl 2 rfl) ?_
        obtain ⟨ok382, h⟩ := k_gd h
        obtain ⟨w383, hzw383, h⟩ := k_bd h
        refine m_callV (C := RX8) (T := TX8) (N := 33) (ci := 8) (n := 0) (As := []) (rest := [.long w381]) (st1 := (.long w383.1 :: [.long w381])) E hM hl.1 ok382 (by decide) rfl rfl (c_X8_upper l D cy sz s.heap u b2 hzw383) wl_L_153 wm_X8_upper ws_X8_upper wi_X8 wd_X8_upper rfl rfl (by decide +kernel) ⟨by decide, by decide⟩ rfl rfl (by first | exact Nat.le_of_ble_eq_true rfl | simp [rv_cat, cat_i, cat_l, cat_r, cat_n]) dL_law_1308 ⟨by show _ ≤ room_1.cells; omega, by show _ ≤ room_1.slots; omega⟩ rfl (fun H locs hM => ?_)
        refine W.lcmp hx hb dL_law_1311 ?_
        refine lv_if_eq (tgt := 1331) hx hb dL_law_1312 (by decide) (fun c384 => ?_) (fun c384 => ?_)
        · replace h := (k_if h).1 c384
          obtain ⟨v385, hvv385⟩ : ∃ y : Int32, y = a3 + (6) := ⟨_, rfl⟩
          replace h := k_bb h v385 hvv385
          refine lv_iinc (v := v385) (lv' := [(3, .int v385), (0, .ref b), (1, .ref (sz + b1)), (2, .ref (sz + b2))]) hx hb dL_law_1331 hl (k := 3) rfl (by rw [hvv385]; rfl) (by decide) (by first | rfl | simp [rv_cat, cat_i, cat_l, cat_r, cat_n]) (fun ls hl => ?_)
          refine lv_goto (tgt := 18) hx hb dL_law_1334 (by decide) ?_
          exact ih _ _ H locs ls _ _ (by omega) (by omega) hM (lv_sub hl [1, 2, 3, 0] rfl) h
        · replace h := (k_if h).2 c384
          refine lv_iconst (v := 0) hx hb dL_law_1315 (by decide) ?_
          exact absurd h (by decide)
      replace h := (k_if h).2 c379
      by_cases c386 : v9 = 31
      · replace h := (k_if h).1 c386
        refine m_tsw (k := 31) (tgt := 1317) hx hb dL_law_33 c386 (by decide) (by decide) rfl (by decide) ?_
        refine lv_aload_n hx hb dL_law_1317 rfl (lv_at hl 1 rfl) ?_
        obtain ⟨ok387, h⟩ := k_gd h
        obtain ⟨w388, hzw388, h⟩ := k_bd h
        refine m_callV (C := RX7) (T := TX7) (N := 8) (ci := 7) (n := 0) (As := []) (rest := []) (st1 := (.long w388 :: [])) E hM hl.1 ok387 (by decide) rfl rfl (c_X7_lower l D cy sz s.heap u b1 hzw388) wl_L_154 wm_X7_lower ws_X7_lower wi_X7 wd_X7_lower rfl rfl (by decide +kernel) ⟨by decide, by decide⟩ rfl rfl (by first | exact Nat.le_of_ble_eq_true rfl | simp [rv_cat, cat_i, cat_l, cat_r, cat_n]) dL_law_1318 ⟨by show _ ≤ room_1.cells; omega, by show _ ≤ room_1.slots; omega⟩ rfl (fun H locs hM => ?_)
        refine lv_aload_n hx hb dL_law_1321 rfl (lv_at hl 2 rfl) ?_
        obtain ⟨ok389, h⟩ := k_gd h
        obtain ⟨w390, hzw390, h⟩ := k_bd h
        refine m_callV (C := RX8) (T := TX8) (N := 33) (ci := 8) (n := 0) (As := []) (rest := [.long w388]) (st1 := (.long w390.1 :: [.long w388])) E hM hl.1 ok389 (by decide) rfl rfl (c_X8_lower l D cy sz s.heap u b2 hzw390) wl_L_157 wm_X8_lower ws_X8_lower wi_X8 wd_X8_lower rfl rfl (by decide +kernel) ⟨by decide, by decide⟩ rfl rfl (by first | exact Nat.le_of_ble_eq_true rfl | simp [rv_cat, cat_i, cat_l, cat_r, cat_n]) dL_law_1322 ⟨by show _ ≤ room_1.cells; omega, by show _ ≤ room_1.slots; omega⟩ rfl (fun H locs hM => ?_)
        refine W.lcmp hx hb dL_law_1325 ?_
        refine lv_if_eq (tgt := 1331) hx hb dL_law_1326 (by decide) (fun c391 => ?_) (fun c391 => ?_)
        · replace h := (k_if h).1 c391
          obtain ⟨v392, hvv392⟩ : ∃ y : Int32, y = a3 + (6) := ⟨_, rfl⟩
          replace h := k_bb h v392 hvv392
          refine lv_iinc (v := v392) (lv' := [(3, .int v392), (0, .ref b), (1, .ref (sz + b1)), (2, .ref (sz + b2))]) hx hb dL_law_1331 hl (k := 3) rfl (by rw [hvv392]; rfl) (by decide) (by first | rfl | simp [rv_cat, cat_i, cat_l, cat_r, cat_n]) (fun ls hl => ?_)
          refine lv_goto (tgt := 18) hx hb dL_law_1334 (by decide) ?_
          exact ih _ _ H locs ls _ _ (by omega) (by omega) hM (lv_sub hl [1, 2, 3, 0] rfl) h
        · replace h := (k_if h).2 c391
          refine lv_iconst (v := 0) hx hb dL_law_1329 (by decide) ?_
          exact absurd h (by decide)
      replace h := (k_if h).2 c386
      refine lv_tableOut (tgt := 1331) hx hb dL_law_33 (by have qc10 := lv_neT (a := 0) c10 (by decide); have qc17 := lv_neT (a := 1) c17 (by decide); have qc30 := lv_neT (a := 2) c30 (by decide); have qc45 := lv_neT (a := 3) c45 (by decide); have qc56 := lv_neT (a := 4) c56 (by decide); have qc73 := lv_neT (a := 5) c73 (by decide); have qc84 := lv_neT (a := 6) c84 (by decide); have qc95 := lv_neT (a := 7) c95 (by decide); have qc108 := lv_neT (a := 8) c108 (by decide); have qc119 := lv_neT (a := 9) c119 (by decide); have qc132 := lv_neT (a := 10) c132 (by decide); have qc141 := lv_neT (a := 11) c141 (by decide); have qc171 := lv_neT (a := 12) c171 (by decide); have qc180 := lv_neT (a := 13) c180 (by decide); have qc191 := lv_neT (a := 14) c191 (by decide); have qc202 := lv_neT (a := 15) c202 (by decide); have qc215 := lv_neT (a := 16) c215 (by decide); have qc228 := lv_neT (a := 17) c228 (by decide); have qc243 := lv_neT (a := 18) c243 (by decide); have qc260 := lv_neT (a := 19) c260 (by decide); have qc271 := lv_neT (a := 20) c271 (by decide); have qc284 := lv_neT (a := 21) c284 (by decide); have qc297 := lv_neT (a := 22) c297 (by decide); have qc308 := lv_neT (a := 23) c308 (by decide); have qc319 := lv_neT (a := 24) c319 (by decide); have qc330 := lv_neT (a := 25) c330 (by decide); have qc341 := lv_neT (a := 26) c341 (by decide); have qc348 := lv_neT (a := 27) c348 (by decide); have qc359 := lv_neT (a := 28) c359 (by decide); have qc366 := lv_neT (a := 29) c366 (by decide); have qc379 := lv_neT (a := 30) c379 (by decide); have qc386 := lv_neT (a := 31) c386 (by decide); omega) (by decide) ?_
      obtain ⟨v393, hvv393⟩ : ∃ y : Int32, y = a3 + (6) := ⟨_, rfl⟩
      replace h := k_bb h v393 hvv393
      refine lv_iinc (v := v393) (lv' := [(3, .int v393), (0, .ref b), (1, .ref (sz + b1)), (2, .ref (sz + b2))]) hx hb dL_law_1331 hl (k := 3) rfl (by rw [hvv393]; rfl) (by decide) (by first | rfl | simp [rv_cat, cat_i, cat_l, cat_r, cat_n]) (fun ls hl => ?_)
      refine lv_goto (tgt := 18) hx hb dL_law_1334 (by decide) ?_
      exact ih _ _ H locs ls _ _ (by omega) (by omega) hM (lv_sub hl [1, 2, 3, 0] rfl) h

def f_law (xs : Nat → Int32) (L : Nat) (u : Mm) : Option Int32 := gd (okN u 7) (bb (u.1) (fun q2 => bd (f_X7_init q2 (nw u)) (fun w3 => gd (okN w3 8) (bb (w3.1) (fun q5 => bd (f_X8_init q5 (nw w3)) (fun w6 => L_law xs L q2 q5 1000 (0 : Int32) w6))))))
set_option maxHeartbeats 4000000 in
set_option maxRecDepth 100000 in
theorem c_law {p : Program} {l : Launch} {e : Env} {s : State} {m : MethodId} {below : List Frame} {meth : Method} {c : Code} {D : va_G} {cy : Nat → ClassId} {sz b L : Nat} {xs : Nat → Int32} (hX : va_X b L xs s s.heap) (hbl : b < s.heap.size) (hbA : ¬ sz ≤ b) (hsz : s.heap.size = sz) (hr : meth.sig.returnType = ret) (hlk : meth.locks = false) (E : EE p s m #[Value.ref b] c cL_law 4 RL D cy) {u : Mm} {H : Heap} {locs : List Loc} (hM : MM D cy sz s.heap u H locs) {ls : Array Slot} (hl : lv_has ls 4 [(0, .ref b)]) (h : f_law xs L u = some 1) : W p l e room_1 s m #[Value.ref b] below meth c H locs 0 0 (lw_Z below #[Value.ref b] s) (F0 m 0 ls []) := by
  obtain ⟨hx, hb, hml, hown, hts, hKK⟩ := id E
  obtain ⟨H0, hH0⟩ : ∃ H0, H0 = s.heap := ⟨_, rfl⟩
  have hrc := rm_c
  have hrs := rm_s
  unfold f_law at h
  obtain ⟨ok1, h⟩ := k_gd h
  obtain ⟨q2, hq2⟩ : ∃ y : Nat, y = (u).1 := ⟨_, rfl⟩
  replace h := k_bb h q2 hq2
  refine m_new hq2 E hM (ci := 7) (N := 8) (C := RX7) (T := TX7) tyX7 tyX7_ok ok1 (by decide) rfl rfl inX7 wc_L_7 wn_X7 wi_X7 (fun j hj => by rcases (show j = 0 ∨ j = 1 ∨ j = 2 ∨ j = 3 ∨ j = 4 ∨ j = 5 ∨ j = 6 ∨ j = 7 by omega) with rfl | rfl | rfl | rfl | rfl | rfl | rfl | rfl <;> first | exact (nw_i _).symm | exact (nw_l _).symm | exact (nw_r _).symm) (by decide) (by decide) dL_law_0 (fun H hM => ?_)
  refine lv_dup hx hb dL_law_3 rfl ?_
  obtain ⟨w3, hzw3, h⟩ := k_bd h
  refine m_callI (n := 0) (As := []) (rest := [.ref (sz + q2)]) (st1 := [.ref (sz + q2)]) E hM hl.1 (c_X7_init l D cy sz s.heap (nw u) q2 hzw3) wl_L_9 wm_X7_init wi_X7 wd_X7_init rfl rfl rfl (by decide +kernel) ⟨by decide, by decide⟩ rfl rfl (by first | exact Nat.le_of_ble_eq_true rfl | simp [rv_cat, cat_i, cat_l, cat_r, cat_n]) dL_law_4 ⟨by show _ ≤ room_1.cells; omega, by show _ ≤ room_1.slots; omega⟩ rfl (fun H locs hM => ?_)
  refine lv_astore_n (i := 1) (lv' := [(1, .ref (sz + q2)), (0, .ref b)]) hx hb dL_law_7 rfl hl (by decide) (by first | rfl | simp [rv_cat, cat_i, cat_l, cat_r, cat_n]) (fun ls hl => ?_)
  obtain ⟨ok4, h⟩ := k_gd h
  obtain ⟨q5, hq5⟩ : ∃ y : Nat, y = (w3).1 := ⟨_, rfl⟩
  replace h := k_bb h q5 hq5
  refine m_new hq5 E hM (ci := 8) (N := 33) (C := RX8) (T := TX8) tyX8 tyX8_ok ok4 (by decide) rfl rfl inX8 wc_L_10 wn_X8 wi_X8 (fun j hj => by rcases (show j = 0 ∨ j = 1 ∨ j = 2 ∨ j = 3 ∨ j = 4 ∨ j = 5 ∨ j = 6 ∨ j = 7 ∨ j = 8 ∨ j = 9 ∨ j = 10 ∨ j = 11 ∨ j = 12 ∨ j = 13 ∨ j = 14 ∨ j = 15 ∨ j = 16 ∨ j = 17 ∨ j = 18 ∨ j = 19 ∨ j = 20 ∨ j = 21 ∨ j = 22 ∨ j = 23 ∨ j = 24 ∨ j = 25 ∨ j = 26 ∨ j = 27 ∨ j = 28 ∨ j = 29 ∨ j = 30 ∨ j = 31 ∨ j = 32 by omega) with rfl | rfl | rfl | rfl | rfl | rfl | rfl | rfl | rfl | rfl | rfl | rfl | rfl | rfl | rfl | rfl | rfl | rfl | rfl | rfl | rfl | rfl | rfl | rfl | rfl | rfl | rfl | rfl | rfl | rfl | rfl | rfl | rfl <;> first | exact (nw_i _).symm | exact (nw_l _).symm | exact (nw_r _).symm) (by decide) (by decide) dL_law_8 (fun H hM => ?_)
  refine lv_dup hx hb dL_law_11 rfl ?_
  obtain ⟨w6, hzw6, h⟩ := k_bd h
  refine m_callI (n := 0) (As := []) (rest := [.ref (sz + q5)]) (st1 := [.ref (sz + q5)]) E hM hl.1 (c_X8_init l D cy sz s.heap (nw w3) q5 hzw6) wl_L_12 wm_X8_init wi_X8 wd_X8_init rfl rfl rfl (by decide +kernel) ⟨by decide, by decide⟩ rfl rfl (by first | exact Nat.le_of_ble_eq_true rfl | simp [rv_cat, cat_i, cat_l, cat_r, cat_n]) dL_law_12 ⟨by show _ ≤ room_1.cells; omega, by show _ ≤ room_1.slots; omega⟩ rfl (fun H locs hM => ?_)
  refine lv_astore_n (i := 2) (lv' := [(2, .ref (sz + q5)), (1, .ref (sz + q2)), (0, .ref b)]) hx hb dL_law_15 rfl hl (by decide) (by first | rfl | simp [rv_cat, cat_i, cat_l, cat_r, cat_n]) (fun ls hl => ?_)
  refine lv_iconst (v := 0) hx hb dL_law_16 (by decide) ?_
  refine lv_istore_n (i := 3) (lv' := [(3, .int (0 : Int32)), (2, .ref (sz + q5)), (1, .ref (sz + q2)), (0, .ref b)]) hx hb dL_law_17 rfl hl (by decide) (by first | rfl | simp [rv_cat, cat_i, cat_l, cat_r, cat_n]) (fun ls hl => ?_)
  exact lp_law hX hbl hbA hsz hr hlk E 1000 _ _ H locs ls _ _ (by omega) (by omega) hM (lv_sub hl [3, 2, 1, 0] rfl) h
