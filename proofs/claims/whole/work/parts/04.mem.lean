/-! MEMORY: the cells that the law and what it calls have made, by number: cell r lies at address sz + r. A memory: how many cells, what ints, longs and references they hold. -/
abbrev Mm : Type := Nat × (Nat → Nat → Int32) × (Nat → Nat → Int64) × (Nat → Nat → Option Nat)
def gI (u : Mm) (r k : Nat) : Int32 := u.2.1 r k
def gL (u : Mm) (r k : Nat) : Int64 := u.2.2.1 r k
def gR (u : Mm) (r k : Nat) : Option Nat := u.2.2.2 r k
def up2 {α : Type} (f : Nat → Nat → α) (r k : Nat) (v : α) : Nat → Nat → α := fun a j => if a = r ∧ j = k then v else f a j
def upr {α : Type} (f : Nat → Nat → α) (r : Nat) (g : Nat → α) : Nat → Nat → α := fun a j => if a = r then g j else f a j
def sI (u : Mm) (r k : Nat) (v : Int32) : Mm := (u.1, up2 u.2.1 r k v, u.2.2.1, u.2.2.2)
def sL (u : Mm) (r k : Nat) (v : Int64) : Mm := (u.1, u.2.1, up2 u.2.2.1 r k v, u.2.2.2)
def sR (u : Mm) (r k : Nat) (v : Option Nat) : Mm := (u.1, u.2.1, u.2.2.1, up2 u.2.2.2 r k v)
/-- a whole row of ints, of longs -/
def rI (u : Mm) (r : Nat) (g : Nat → Int32) : Mm := (u.1, upr u.2.1 r g, u.2.2.1, u.2.2.2)
def rL (u : Mm) (r : Nat) (g : Nat → Int64) : Mm := (u.1, u.2.1, upr u.2.2.1 r g, u.2.2.2)
/-- one cell more, empty -/
def nw (u : Mm) : Mm := (u.1 + 1, upr u.2.1 u.1 (fun _ => 0), upr u.2.2.1 u.1 (fun _ => 0), upr u.2.2.2 u.1 (fun _ => none))
/-- the cells of the law: which kind each number has (0 to 8: objects by the classes' list; 9 int rows, 10 long rows, 11 boolean rows, 12 rows of things, 13 rows of trays), how long a row is; from 60 on: a thing, its row of fields, a thing .. -/
def shpT : List Nat := [7, 13, 0, 12, 12, 11, 2, 9, 9, 9, 4, 1, 9, 9, 1, 9, 9, 9, 9, 9, 9, 3, 9, 10, 10, 6, 10, 6, 10, 6, 10, 6, 10, 8, 9, 9, 10, 9, 9, 9, 9, 9, 9, 9, 9, 9, 9, 9, 9, 9, 9, 9, 9, 9, 9, 9, 9, 9, 9, 9]
def alnT : List Nat := [0, 4, 0, 80, 80, 80, 0, 200, 200, 200, 0, 0, 80, 40, 0, 80, 40, 80, 80, 80, 80, 0, 20, 20, 20, 0, 40, 0, 40, 0, 40, 0, 40, 0, 4, 4, 160, 80, 80, 80, 80, 480, 80, 80, 80, 80, 80, 80, 80, 80, 80, 200, 200, 200, 40, 80, 400, 400, 400, 20]
def shp (r : Nat) : Nat := if r < 60 then shpT.getD r 99 else if r % 2 = 0 then 5 else 9
def aln (r : Nat) : Nat := if r < 60 then alnT.getD r 0 else 6
def nfl (c : Nat) : Nat := [4, 2, 4, 4, 7, 11, 3, 8, 33].getD c 0
def kd (c k : Nat) : Nat := match c with
  | 0 => [2, 0, 2, 2].getD k 0
  | 1 => [2, 2].getD k 0
  | 2 => [2, 2, 2, 0].getD k 0
  | 3 => [2, 2, 2, 0].getD k 0
  | 4 => [2, 2, 2, 2, 2, 2, 0].getD k 0
  | 5 => [0, 0, 2, 2, 0, 0, 0, 0, 0, 0, 0].getD k 0
  | 6 => [2, 0, 0].getD k 0
  | 7 => [2, 2, 2, 2, 2, 0, 1, 1].getD k 0
  | 8 => [0, 0, 1, 1, 2, 2, 2, 0, 2, 2, 2, 2, 2, 2, 2, 2, 2, 2, 2, 2, 2, 2, 0, 2, 2, 2, 2, 2, 2, 2, 2, 0, 2].getD k 0
  | 9 => 0
  | 10 => 1
  | 11 => 0
  | _ => 2
/-- the value that stands in a place, by its kind: 0 an int, 1 a long, else a reference -/
def rv (sz : Nat) (x : Option Nat) : Value := va_rf (x.map (fun a => sz + a))
def mv (sz : Nat) (u : Mm) (kk r k : Nat) : Value := match kk with
  | 0 => .int (gI u r k)
  | 1 => .long (gL u r k)
  | _ => rv sz (gR u r k)
theorem rv_cat (sz : Nat) (x : Option Nat) : (rv sz x).category = 1 := by cases x <;> rfl
theorem cat_i (x : Int32) : (Value.int x).category = 1 := rfl
theorem cat_l (x : Int64) : (Value.long x).category = 2 := rfl
theorem cat_r (x : Nat) : (Value.ref x).category = 1 := rfl
theorem cat_n : Value.null.category = 1 := rfl
def cellOk (D : va_G) (cy : Nat → ClassId) (sz : Nat) (u : Mm) (r : Nat) (H : Heap) : Prop :=
  if shp r < 9 then t_OB (sz + r) (D.1 (shp r)) (nfl (shp r)) (D.2 (shp r)) H (fun k => mv sz u (kd (shp r) k) r k)
  else H[sz + r]? = some (arrV (cy (shp r)) (aln r) (fun j => mv sz u (kd (shp r) 0) r j))
/-- the heap is that of the law's start below sz, and the memory's cells from there on; all that was written lies there -/
def MM (D : va_G) (cy : Nat → ClassId) (sz : Nat) (H0 : Heap) (u : Mm) (H : Heap) (locs : List Loc) : Prop :=
  H.size = sz + u.1 ∧ (∀ q : Nat, q < sz → H[q]? = H0[q]?) ∧ (∀ r : Nat, r < u.1 → cellOk D cy sz u r H) ∧ ∀ q ∈ locs, sz ≤ q.base
def okO (u : Mm) (r c : Nat) : Bool := decide (r < u.1) && decide (shp r = c)
def okA (u : Mm) (r c : Nat) (i : Int32) : Bool := decide (r < u.1) && decide (shp r = c) && decide (¬ (i < 0 ∨ aln r ≤ i.toNatClampNeg))
def okN (u : Mm) (c : Nat) : Bool := decide (shp u.1 = c)
def okM (u : Mm) (c n : Nat) : Bool := decide (shp u.1 = c) && decide (aln u.1 = n)
def isB (v : Int32) : Bool := decide (v = 0) || decide (v = 1)
theorem okO_1 {u : Mm} {r c : Nat} (h : okO u r c = true) : r < u.1 ∧ shp r = c := by simpa [okO] using h
theorem okA_1 {u : Mm} {r c : Nat} {i : Int32} (h : okA u r c i = true) : r < u.1 ∧ shp r = c ∧ vp_in i (aln r) := by
  simp only [okA, Bool.and_eq_true, decide_eq_true_eq] at h
  exact ⟨h.1.1, h.1.2, h.2⟩
theorem okO_nw {u : Mm} {r c : Nat} (h : okO u r c = true) : okO (nw u) r c = true := by
  have := okO_1 h
  have h2 : r < (nw u).1 := Nat.lt_succ_of_lt this.1
  simp [okO, this.2, h2]
theorem okO_new {u : Mm} {c : Nat} (h : okN u c = true) : okO (nw u) u.1 c = true := by
  have h1 : shp u.1 = c := by simpa [okN] using h
  have h2 : u.1 < (nw u).1 := Nat.lt_succ_self _
  simp [okO, h1, h2]
theorem okO_newM {u : Mm} {c n : Nat} (h : okM u c n = true) : okO (nw u) u.1 c = true := by
  have h1 : shp u.1 = c ∧ aln u.1 = n := by simpa [okM] using h
  have h2 : u.1 < (nw u).1 := Nat.lt_succ_self _
  simp [okO, h1.1, h2]
theorem okO_newq {u : Mm} {c q : Nat} (hq : q = u.1) (h : okN u c = true) : okO (nw u) q c = true := by subst hq; exact okO_new h
theorem okO_newMq {u : Mm} {c n q : Nat} (hq : q = u.1) (h : okM u c n = true) : okO (nw u) q c = true := by subst hq; exact okO_newM h
/-- pieces of the programs: a guard, a name, a call, a case on a reference -/
def gd {α : Type} (b : Bool) (X : Option α) : Option α := match b with
  | true => X
  | false => none
def bb {α β : Type} (e : β) (K : β → Option α) : Option α := K e
def bd {α β : Type} (e : Option β) (K : β → Option α) : Option α := match e with
  | none => none
  | some v => K v
def cs {α : Type} (x : Option Nat) (A : Option α) (B : Nat → Option α) : Option α := match x with
  | none => A
  | some k => B k
theorem k_gd {α : Type} {b : Bool} {X : Option α} {res : α} (h : gd b X = some res) : b = true ∧ X = some res := by
  cases b
  · cases h
  · exact ⟨rfl, h⟩
theorem k_bb {α β : Type} {e : β} {K : β → Option α} {res : α} (h : bb e K = some res) (v : β) (hv : v = e) : K v = some res := by
  subst hv
  exact h
theorem k_bd {α β : Type} {e : Option β} {K : β → Option α} {res : α} (h : bd e K = some res) : ∃ v, e = some v ∧ K v = some res := by
  cases e with
  | none => cases h
  | some v => exact ⟨v, rfl, h⟩
theorem k_if {α : Type} {c : Prop} [Decidable c] {A B : Option α} {res : α} (h : (if c then A else B) = some res) : (c → A = some res) ∧ (¬ c → B = some res) := by
  by_cases hc : c
  · rw [if_pos hc] at h
    exact ⟨fun _ => h, fun q => absurd hc q⟩
  · rw [if_neg hc] at h
    exact ⟨fun q => absurd q hc, fun _ => h⟩
theorem gd_t {α : Type} (X : Option α) : gd true X = X := rfl
theorem bd_s {α β : Type} (v : β) (K : β → Option α) : bd (some v) K = K v := rfl
theorem cs_n {α : Type} (A : Option α) (B : Nat → Option α) : cs none A B = A := rfl
theorem cs_s {α : Type} (k : Nat) (A : Option α) (B : Nat → Option α) : cs (some k) A B = B k := rfl
theorem bb_e {α β : Type} (e : β) (K : β → Option α) : bb e K = K e := rfl
/-- a store: one cell changes -/
theorem MM.put {D : va_G} {cy : Nat → ClassId} {sz : Nat} {H0 H H' : Heap} {u u' : Mm} {locs : List Loc} {r : Nat} (h : MM D cy sz H0 u H locs) (hr : r < u.1) (z : H'.size = H.size) (oq : ∀ q : Nat, q ≠ sz + r → H'[q]? = H[q]?) (h1 : u'.1 = u.1)
    (hs : ∀ r' kk k : Nat, r' ≠ r → mv sz u' kk r' k = mv sz u kk r' k) (hc : cellOk D cy sz u' r H') {L : List Loc} (hL : ∀ q ∈ L, sz ≤ q.base) : MM D cy sz H0 u' H' (locs ++ L) := by
  obtain ⟨a1, a2, a3, a4⟩ := h
  refine ⟨by rw [z, a1, h1], fun q hq => by rw [oq q (by omega)]; exact a2 q hq, fun r' hr' => ?_, fun q hq => ?_⟩
  · by_cases e : r' = r
    · subst e; exact hc
    · have h2 := a3 r' (by rw [← h1]; exact hr')
      have h3 : H'[sz + r']? = H[sz + r']? := oq _ (by omega)
      unfold cellOk at h2 ⊢
      split
      · rename_i hlt
        rw [if_pos hlt] at h2
        exact (h2.kept h3).to (fun k _ => (hs r' _ k e).symm)
      · rename_i hlt
        rw [if_neg hlt] at h2
        rw [h3, h2]
        congr 2
        funext j
        exact (hs r' _ j e).symm
  · rcases List.mem_append.mp hq with h | h
    · exact a4 q h
    · exact hL q h
theorem mv_sI {sz : Nat} {u : Mm} {r k : Nat} {v : Int32} : ∀ r' kk j : Nat, r' ≠ r → mv sz (sI u r k v) kk r' j = mv sz u kk r' j := by
  intro r' kk j h
  match kk with
  | 0 => simp [mv, gI, sI, up2, h]
  | 1 => rfl
  | n + 2 => rfl
theorem mv_sL {sz : Nat} {u : Mm} {r k : Nat} {v : Int64} : ∀ r' kk j : Nat, r' ≠ r → mv sz (sL u r k v) kk r' j = mv sz u kk r' j := by
  intro r' kk j h
  match kk with
  | 0 => rfl
  | 1 => simp [mv, gL, sL, up2, h]
  | n + 2 => rfl
theorem mv_sR {sz : Nat} {u : Mm} {r k : Nat} {v : Option Nat} : ∀ r' kk j : Nat, r' ≠ r → mv sz (sR u r k v) kk r' j = mv sz u kk r' j := by
  intro r' kk j h
  match kk with
  | 0 => rfl
  | 1 => rfl
  | n + 2 => simp [mv, gR, sR, up2, h]
theorem mv_rI {sz : Nat} {u : Mm} {r : Nat} {g : Nat → Int32} : ∀ r' kk j : Nat, r' ≠ r → mv sz (rI u r g) kk r' j = mv sz u kk r' j := by
  intro r' kk j h
  match kk with
  | 0 => simp [mv, gI, rI, upr, h]
  | 1 => rfl
  | n + 2 => rfl
theorem mv_rL {sz : Nat} {u : Mm} {r : Nat} {g : Nat → Int64} : ∀ r' kk j : Nat, r' ≠ r → mv sz (rL u r g) kk r' j = mv sz u kk r' j := by
  intro r' kk j h
  match kk with
  | 0 => rfl
  | 1 => simp [mv, gL, rL, upr, h]
  | n + 2 => rfl
theorem mv_nw {sz : Nat} {u : Mm} : ∀ r' kk j : Nat, r' ≠ u.1 → mv sz (nw u) kk r' j = mv sz u kk r' j := by
  intro r' kk j h
  match kk with
  | 0 => simp [mv, gI, nw, upr, h]
  | 1 => simp [mv, gL, nw, upr, h]
  | n + 2 => simp [mv, gR, nw, upr, h]
theorem MM.new {D : va_G} {cy : Nat → ClassId} {sz : Nat} {H0 H H' : Heap} {u : Mm} {locs : List Loc} (h : MM D cy sz H0 u H locs) (z : H'.size = sz + u.1 + 1) (oq : ∀ q : Nat, q < sz + u.1 → H'[q]? = H[q]?) (hc : cellOk D cy sz (nw u) u.1 H') : MM D cy sz H0 (nw u) H' locs := by
  obtain ⟨a1, a2, a3, a4⟩ := h
  refine ⟨by rw [z]; rfl, fun q hq => by rw [oq q (by omega)]; exact a2 q hq, fun r' hr' => ?_, a4⟩
  by_cases e : r' = u.1
  · subst e; exact hc
  · have hr2 : r' < u.1 := by
      have : r' < u.1 + 1 := hr'
      omega
    have h2 := a3 r' hr2
    have h3 : H'[sz + r']? = H[sz + r']? := oq _ (by omega)
    unfold cellOk at h2 ⊢
    split
    · rename_i hlt
      rw [if_pos hlt] at h2
      exact (h2.kept h3).to (fun k _ => (mv_nw r' _ k e).symm)
    · rename_i hlt
      rw [if_neg hlt] at h2
      rw [h3, h2]
      congr 2
      funext j
      exact (mv_nw r' _ j e).symm
/-- the tables' part of a world: the classes, the classes of the arrays, the nest mates' links -/
def tysOf (cy : Nat → ClassId) : List (ClassId × FieldType) := [(cy 9, .int), (cy 10, .long), (cy 11, .boolean), (cy 12, .object RX5), (cy 13, .object RX6)]
def KK (D : va_G) (cy : Nat → ClassId) (U : State) : Prop := va_K D vwCl (tysOf cy) U ∧ va_AO RX5 U ∧ va_AO RX6 U ∧ ∀ w ∈ nestW, va_Nw w U
theorem nestW_ok : ∀ w ∈ nestW, w.onTables = true := by decide
theorem nestW_link : ∀ w ∈ nestW, ∃ a i x h, w = Cond.methodLinkNest a i x h := by
  intro w hw
  simp only [nestW, List.mem_cons, List.not_mem_nil, or_false] at hw
  rcases hw with rfl | rfl | rfl | rfl | rfl <;> exact ⟨_, _, _, _, rfl⟩
theorem KK.warm {D : va_G} {cy : Nat → ClassId} {s U : State} (hW : s.WarmedH U.vm) (h : KK D cy s) : KK D cy U := by
  obtain ⟨h1, h2, h3, h4⟩ := h
  refine ⟨h1.moved hW.alike, h2.moved hW.alike, h3.moved hW.alike, fun w hw => ?_⟩
  have hq := h4 w hw
  obtain ⟨a, i, x, y, rfl⟩ := nestW_link w hw
  exact va_Nw.warmM hW hq
theorem KK.same {D : va_G} {cy : Nat → ClassId} {s U : State} (hv : s.vm = U.vm) (h : KK D cy s) : KK D cy U := by
  obtain ⟨h1, h2, h3, h4⟩ := h
  have ha : s.vm.Alike U.vm := by rw [hv]; exact Vm.Alike.refl _
  exact ⟨h1.moved ha, h2.moved ha, h3.moved ha, fun w hw => va_Nw.same (nestW_ok w hw) hv (h4 w hw)⟩
/-- what a walk stands on -/
def EE (p : Program) (s : State) (m : MethodId) (args : Array Value) (c : Code) (cc : ByteArray) (nL : Nat) (own : String) (D : va_G) (cy : Nat → ClassId) : Prop :=
  p.tables.exec = Jvm.exec ∧ c.code = cc ∧ c.maxLocals = nL ∧ s.vm.findClass own = some m.cls ∧ (∀ w ∈ uw, w.before args s = true) ∧ KK D cy s
def Pre (D : va_G) (cy : Nat → ClassId) (sz : Nat) (H0 : Heap) (u : Mm) (av : List Value) : Array Value → State → Prop := fun v U => v = av.toArray ∧ MM D cy sz H0 u U.heap [] ∧ KK D cy U
def Post (D : va_G) (cy : Nat → ClassId) (sz : Nat) (H0 : Heap) (o : Option Value) (u' : Mm) : Array Value → State → Outcome → State → Prop := fun _ _ oc t => oc = .returned o ∧ MM D cy sz H0 u' t.heap []
theorem Pre.blind {D : va_G} {cy : Nat → ClassId} {sz : Nat} {H0 : Heap} {u : Mm} {av : List Value} : FrameBlind (Pre D cy sz H0 u av) := by
  intro a U g mk h
  exact ⟨h.1, h.2.1, KK.same (s := U) (U := U.calling g mk a) rfl h.2.2⟩
/-- a method's contract: called in memory u with av it returns o, in memory u' -/
abbrev Ctr (l : Launch) (y : MethodName) (cc : ByteArray) (mxL : Nat) (ret : Option FieldType) (rm : Room) (mc ms : Nat) (D : va_G) (cy : Nat → ClassId) (sz : Nat) (H0 : Heap) (u : Mm) (av : List Value) (o : Option Value) (u' : Mm) : Prop :=
  Met l y (Cond.code y cc mxL ret :: uw) rm (Pre D cy sz H0 u av) (Post D cy sz H0 o u') mc ms (fun q => sz ≤ q)
