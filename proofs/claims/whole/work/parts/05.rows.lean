section MROWS
variable {p : Program} {l : Launch} {e : Env} {R : Room} {s : State} {m : MethodId} {args : Array Value} {below : List Frame} {meth : Method} {c : Code} {H : Heap} {locs : List Loc} {cells slots : Nat} {Q : State → Prop}
variable {cc : ByteArray} {pc nL : Nat} {ls : Array Slot} {rest : List Value} {own : String} {D : va_G} {cy : Nat → ClassId} {sz : Nat} {H0 : Heap} {u : Mm} {r : Nat}
theorem cell_obj {ci N : Nat} {C : String} {T : u_T} (hM : MM D cy sz H0 u H locs) (hok : okO u r ci = true) (hci : ci < 9) (hN : nfl ci = N) : t_OB (sz + r) (D.1 ci) N (D.2 ci) H (fun k => mv sz u (kd ci k) r k) := by
  obtain ⟨h1, h2⟩ := okO_1 hok
  have h3 := hM.2.2.1 r h1
  unfold cellOk at h3
  rw [h2, if_pos hci, hN] at h3
  exact h3
theorem cell_arr {sh : Nat} (hM : MM D cy sz H0 u H locs) (h1 : r < u.1) (h2 : shp r = sh) (hsh : ¬ sh < 9) : H[sz + r]? = some (arrV (cy sh) (aln r) (fun j => mv sz u (kd sh 0) r j)) := by
  have h3 := hM.2.2.1 r h1
  unfold cellOk at h3
  rw [h2, if_neg hsh] at h3
  exact h3
theorem m_get (E : EE p s m args c cc nL own D cy) (hM : MM D cy sz H0 u H locs) {ci N k index : Nat} {C ref : String} {T : u_T} (hok : okO u r ci = true) (hci : ci < 9) (hN : nfl ci = N) (hc : vwCl[ci]? = some (C, T, N)) (hk : k < N) (hin : ∀ w ∈ u_ws C T N, w ∈ uw) (href : (T k).1 = ref) (hlink : Cond.fieldLink own index ref (T k).2.1 (T k).2.2.1 ∈ uw) (hdg : decode cc pc = .ok (.getfield index, 3))
    (kk : W p l e R s m args below meth c H locs cells slots Q (F0 m (pc + 3) ls (mv sz u (kd ci k) r k :: rest))) : W p l e R s m args below meth c H locs cells slots Q (F0 m pc ls (.ref (sz + r) :: rest)) := by
  obtain ⟨hx, hb, hml, hown, hts, hK, -⟩ := E
  obtain ⟨cell, q1, q2, q3, q4⟩ := cell_obj (C := C) (T := T) hM hok hci hN
  obtain ⟨hS, hfc, kC, hkC, hkind⟩ := hK.1 ci _ hc
  obtain ⟨cf, kf, fi, f, hi, hsl⟩ := hS k hk
  subst href
  refine W.getf hx hb hown (hts _ hlink) hi (u_facts hfc hkC (u_lays hts hin hk) hi).1 q1 (by rw [q3]; exact fun h => by cases h) (v := mv sz u (kd ci k) r k) ?_ rfl rfl hdg kk
  rw [hsl, q4 k hk]
theorem cell_set {ci N k : Nat} {u' : Mm} {cell : Cell} {H' : Heap} {v : Value} (hok : okO u r ci = true) (hci : ci < 9) (hN : nfl ci = N) (hk : k < N) (hap : ∀ a b, a < N → b < N → a ≠ b → D.2 ci a ≠ D.2 ci b) (q2 : cell.cls = D.1 ci) (q3 : cell.vm = .none) (q4 : ∀ j, j < N → cell.slots[D.2 ci j]? = some (mv sz u (kd ci j) r j))
    (e1 : H'[sz + r]? = some (cell.setSlot (D.2 ci k) v)) (hv : ∀ j, j < N → updV (fun j => mv sz u (kd ci j) r j) k v j = mv sz u' (kd ci j) r j) : cellOk D cy sz u' r H' := by
  obtain ⟨h1, h2⟩ := okO_1 hok
  unfold cellOk
  rw [h2, if_pos hci, hN]
  exact t_OB.to (V := updV (fun j => mv sz u (kd ci j) r j) k v) ⟨_, e1, q2, q3, t_set (V := fun j => mv sz u (kd ci j) r j) q4 hap hk v⟩ hv
theorem m_put (E : EE p s m args c cc nL own D cy) (hM : MM D cy sz H0 u H locs) {ci N k index : Nat} {C ref : String} {T : u_T} {u' : Mm} (ty0 : Nat → FieldType) (hty : ∀ k, k < N → parseFieldDescriptor (T k).2.2.1 = some (ty0 k)) (hnm : ∀ a, a < N → ∀ b, b < N → a ≠ b → (T a).2.1 ≠ (T b).2.1) (hok : okO u r ci = true) (hci : ci < 9) (hN : nfl ci = N) (hc : vwCl[ci]? = some (C, T, N)) (hk : k < N) (hin : ∀ w ∈ u_ws C T N, w ∈ uw) (href : (T k).1 = ref) (hlink : Cond.fieldLink own index ref (T k).2.1 (T k).2.2.1 ∈ uw)
    (hfin : (T k).2.2.2 = false ∨ ((T k).2.2.2 = true ∧ meth.name = "<init>" ∧ (T k).1 = own)) {v : Value} (hn : narrow (ty0 k) v = v) (hfit : fits (ty0 k) v = true) (h1 : u'.1 = u.1) (hs : ∀ r' kk j : Nat, r' ≠ r → mv sz u' kk r' j = mv sz u kk r' j) (hv : ∀ j, j < N → updV (fun j => mv sz u (kd ci j) r j) k v j = mv sz u' (kd ci j) r j) (hdg : decode cc pc = .ok (.putfield index, 3))
    (kk : ∀ (H1 : Heap) (locs1 : List Loc), MM D cy sz H0 u' H1 locs1 → W p l e R s m args below meth c H1 locs1 cells slots Q (F0 m (pc + 3) ls rest)) : W p l e R s m args below meth c H locs cells slots Q (F0 m pc ls (v :: .ref (sz + r) :: rest)) := by
  obtain ⟨hx, hb, hml, hown, hts, hK, -⟩ := E
  have hap := va_apart (own := own) hts hin ty0 hty hnm hK hc
  obtain ⟨cell, q1, q2, q3, q4⟩ := cell_obj (C := C) (T := T) hM hok hci hN
  obtain ⟨hS, hfc, kC, hkC, hkind⟩ := hK.1 ci _ hc
  obtain ⟨cf, kf, fi, f, hi, hsl⟩ := hS k hk
  have hlay := hts _ (hin _ (u_in_lay hk))
  have hst := (u_facts hfc hkC (u_lays hts hin hk) hi).1
  subst href
  have hrl : r < u.1 := (okO_1 hok).1
  rcases hfin with hfin | ⟨hfin, hin2, hdecl⟩
  · unfold u_lay at hlay
    rw [if_neg (by rw [hfin]; decide)] at hlay
    have h6 := u_store hfc hkC hkind hlay hi (hty k hk) hn hfit
    refine W.putK hx hb (f := f) ⟨hown, hts _ hlink, ⟨_, _, _, hi⟩, hst⟩ (by rw [q2]; exact h6) q1 q3 (by rw [hsl]; exact k2_hasslot (q4 k hk)) rfl rfl hdg fun H' e1 e2 e3 => ?_
    rw [hsl] at e1 ⊢
    exact kk H' _ (hM.put hrl e2 e3 h1 hs (cell_set hok hci hN hk hap q2 q3 q4 e1 hv) (fun q hq => by rw [List.mem_singleton.mp hq]; exact Nat.le_add_right _ _))
  · unfold u_lay at hlay
    rw [if_pos hfin] at hlay
    have hcf : m.cls = cf := by
      obtain ⟨_, _, c', _, _, _, -, -, hf', -, -, -, hown2, -⟩ := Cond.laysFinal_spec hlay
      have e1 : c' = cf := by have := hi.symm.trans hf'; simp at this; exact this.1.symm
      rw [hdecl] at hown2
      rw [← e1]; exact Option.some.inj (hown.symm.trans hown2)
    have h6 := u_fits hfc hkC hkind (Or.inr hlay) hi (hty k hk) hn hfit
    refine W.putFinK hx hb hown (hts _ hlink) hi hst hcf hin2 (by rw [q2]; exact h6) q1 q3 (by rw [hsl]; exact k2_hasslot (q4 k hk)) rfl rfl hdg fun H' e1 e2 e3 => ?_
    rw [hsl] at e1 ⊢
    exact kk H' _ (hM.put hrl e2 e3 h1 hs (cell_set hok hci hN hk hap q2 q3 q4 e1 hv) (fun q hq => by rw [List.mem_singleton.mp hq]; exact Nat.le_add_right _ _))
theorem upd_sI {ci k : Nat} {x : Int32} (h : kd ci k = 0) : ∀ j, updV (fun j => mv sz u (kd ci j) r j) k (.int x) j = mv sz (sI u r k x) (kd ci j) r j := by
  intro j
  by_cases hj : j = k
  · subst hj; simp [updV, h, mv, gI, sI, up2]
  · simp only [updV, if_neg hj]
    generalize kd ci j = q
    match q with
    | 0 => simp [mv, gI, sI, up2, hj]
    | 1 => rfl
    | n + 2 => rfl
theorem upd_sL {ci k : Nat} {x : Int64} (h : kd ci k = 1) : ∀ j, updV (fun j => mv sz u (kd ci j) r j) k (.long x) j = mv sz (sL u r k x) (kd ci j) r j := by
  intro j
  by_cases hj : j = k
  · subst hj; simp [updV, h, mv, gL, sL, up2]
  · simp only [updV, if_neg hj]
    generalize kd ci j = q
    match q with
    | 0 => rfl
    | 1 => simp [mv, gL, sL, up2, hj]
    | n + 2 => rfl
theorem upd_sR {ci k : Nat} {x : Option Nat} (h : kd ci k = 2) : ∀ j, updV (fun j => mv sz u (kd ci j) r j) k (rv sz x) j = mv sz (sR u r k x) (kd ci j) r j := by
  intro j
  by_cases hj : j = k
  · subst hj; simp [updV, h, mv, gR, sR, up2]
  · simp only [updV, if_neg hj]
    generalize kd ci j = q
    match q with
    | 0 => rfl
    | 1 => rfl
    | n + 2 => simp [mv, gR, sR, up2, hj]
theorem rv_nar {sz : Nat} {x : Option Nat} {ty : FieldType} (h : (∃ n, ty = .object n) ∨ ∃ t, ty = .array t) : narrow ty (rv sz x) = rv sz x ∧ fits ty (rv sz x) = true := by
  rcases h with ⟨n, rfl⟩ | ⟨t, rfl⟩ <;> cases x <;> exact ⟨rfl, rfl⟩
-- arrays
theorem m_iald (E : EE p s m args c cc nL own D cy) (hM : MM D cy sz H0 u H locs) {i : Int32} (hok : okA u r 9 i = true) (hdg : decode cc pc = .ok (.iaload, 1))
    (kk : W p l e R s m args below meth c H locs cells slots Q (F0 m (pc + 1) ls (.int (gI u r i.toNatClampNeg) :: rest))) : W p l e R s m args below meth c H locs cells slots Q (F0 m pc ls (.int i :: .ref (sz + r) :: rest)) := by
  obtain ⟨hx, hb, hml, hown, hts, hK, -⟩ := E
  obtain ⟨h1, h2, h3⟩ := okA_1 hok
  have hlt : i.toNatClampNeg < aln r := Nat.not_le.mp fun q => h3 (Or.inr q)
  exact W.iald (v := .int (gI u r i.toNatClampNeg)) hx hb (cell_arr hM h1 h2 (by decide)) ((hK.2 0 (cy 9, .int) rfl).1 _ _) (fun q => by cases q) (by rw [arrV_size]; exact h3) (by rw [arrV_read _ _ hlt]; rfl) rfl rfl hdg kk
theorem m_zald (E : EE p s m args c cc nL own D cy) (hM : MM D cy sz H0 u H locs) {i : Int32} (hok : okA u r 11 i = true) (hdg : decode cc pc = .ok (.baload, 1))
    (kk : W p l e R s m args below meth c H locs cells slots Q (F0 m (pc + 1) ls (.int (gI u r i.toNatClampNeg) :: rest))) : W p l e R s m args below meth c H locs cells slots Q (F0 m pc ls (.int i :: .ref (sz + r) :: rest)) := by
  obtain ⟨hx, hb, hml, hown, hts, hK, -⟩ := E
  obtain ⟨h1, h2, h3⟩ := okA_1 hok
  have hlt : i.toNatClampNeg < aln r := Nat.not_le.mp fun q => h3 (Or.inr q)
  exact W.zald (v := .int (gI u r i.toNatClampNeg)) hx hb (cell_arr hM h1 h2 (by decide)) ((hK.2 2 (cy 11, .boolean) rfl).1 _ _) (fun q => by cases q) (by rw [arrV_size]; exact h3) (by rw [arrV_read _ _ hlt]; rfl) rfl rfl hdg kk
theorem m_lald (E : EE p s m args c cc nL own D cy) (hM : MM D cy sz H0 u H locs) {i : Int32} (hok : okA u r 10 i = true) (hdg : decode cc pc = .ok (.laload, 1))
    (kk : W p l e R s m args below meth c H locs cells slots Q (F0 m (pc + 1) ls (.long (gL u r i.toNatClampNeg) :: rest))) : W p l e R s m args below meth c H locs cells slots Q (F0 m pc ls (.int i :: .ref (sz + r) :: rest)) := by
  obtain ⟨hx, hb, hml, hown, hts, hK, -⟩ := E
  obtain ⟨h1, h2, h3⟩ := okA_1 hok
  have hlt : i.toNatClampNeg < aln r := Nat.not_le.mp fun q => h3 (Or.inr q)
  exact W.lald (v := .long (gL u r i.toNatClampNeg)) hx hb (cell_arr hM h1 h2 (by decide)) ((hK.2 1 (cy 10, .long) rfl).1 _ _) (fun q => by cases q) (by rw [arrV_size]; exact h3) (by rw [arrV_read _ _ hlt]; rfl) rfl rfl hdg kk
theorem m_aald {sh tp : Nat} {C : String} (hsh : ¬ sh < 9) (hkd : kd sh 0 = 2) (htp : (tysOf cy)[tp]? = some (cy sh, .object C)) (E : EE p s m args c cc nL own D cy) (hM : MM D cy sz H0 u H locs) {i : Int32} (hok : okA u r sh i = true) (hdg : decode cc pc = .ok (.aaload, 1))
    (kk : ∀ x, gR u r i.toNatClampNeg = x → W p l e R s m args below meth c H locs cells slots Q (F0 m (pc + 1) ls (rv sz x :: rest))) : W p l e R s m args below meth c H locs cells slots Q (F0 m pc ls (.int i :: .ref (sz + r) :: rest)) := by
  obtain ⟨hx, hb, hml, hown, hts, hK, -⟩ := E
  obtain ⟨h1, h2, h3⟩ := okA_1 hok
  have hlt : i.toNatClampNeg < aln r := Nat.not_le.mp fun q => h3 (Or.inr q)
  exact W.aald (v := rv sz (gR u r i.toNatClampNeg)) (ty := .object C) hx hb (cell_arr hM h1 h2 hsh) ((hK.2 tp _ htp).1 _ _) rfl (fun q => by cases q) (by rw [arrV_size]; exact h3) (by rw [arrV_read _ _ hlt, hkd]; rfl) rfl rfl hdg (kk _ rfl)
theorem m_arrset {sh : Nat} {u' : Mm} {H' : Heap} {i : Nat} {v : Value} (h2 : shp r = sh) (hsh : ¬ sh < 9) (e1 : H'[sz + r]? = some ((arrV (cy sh) (aln r) (fun j => mv sz u (kd sh 0) r j)).setSlot i v)) (hv : ∀ j, updV (fun j => mv sz u (kd sh 0) r j) i v j = mv sz u' (kd sh 0) r j) : cellOk D cy sz u' r H' := by
  unfold cellOk
  rw [h2, if_neg hsh, e1, arrV_store]
  congr 2
  funext j
  exact hv j
theorem upd_aI {k : Nat} {x : Int32} : ∀ j, updV (fun j => mv sz u 0 r j) k (.int x) j = mv sz (sI u r k x) 0 r j := by
  intro j
  by_cases hj : j = k
  · subst hj; simp [updV, mv, gI, sI, up2]
  · simp [updV, hj, mv, gI, sI, up2]
theorem upd_aL {k : Nat} {x : Int64} : ∀ j, updV (fun j => mv sz u 1 r j) k (.long x) j = mv sz (sL u r k x) 1 r j := by
  intro j
  by_cases hj : j = k
  · subst hj; simp [updV, mv, gL, sL, up2]
  · simp [updV, hj, mv, gL, sL, up2]
theorem upd_aR {k : Nat} {x : Option Nat} : ∀ j, updV (fun j => mv sz u 2 r j) k (rv sz x) j = mv sz (sR u r k x) 2 r j := by
  intro j
  by_cases hj : j = k
  · subst hj; simp [updV, mv, gR, sR, up2]
  · simp [updV, hj, mv, gR, sR, up2]
theorem m_iast (E : EE p s m args c cc nL own D cy) (hM : MM D cy sz H0 u H locs) {i x : Int32} (hok : okA u r 9 i = true) (hdg : decode cc pc = .ok (.iastore, 1))
    (kk : ∀ (H1 : Heap) (locs1 : List Loc), MM D cy sz H0 (sI u r i.toNatClampNeg x) H1 locs1 → W p l e R s m args below meth c H1 locs1 cells slots Q (F0 m (pc + 1) ls rest)) : W p l e R s m args below meth c H locs cells slots Q (F0 m pc ls (.int x :: .int i :: .ref (sz + r) :: rest)) := by
  obtain ⟨hx, hb, hml, hown, hts, hK, -⟩ := E
  obtain ⟨h1, h2, h3⟩ := okA_1 hok
  refine W.iast hx hb (cell_arr hM h1 h2 (by decide)) ((hK.2 0 (cy 9, .int) rfl).1 _ _) (fun q => by cases q) (by rw [arrV_size]; exact h3) rfl rfl hdg fun H1 e z oq => ?_
  exact kk H1 _ (hM.put (u' := sI u r i.toNatClampNeg x) h1 z oq rfl mv_sI (m_arrset h2 (by decide) e upd_aI) (fun q hq => by rw [List.mem_singleton.mp hq]; exact Nat.le_add_right _ _))
theorem m_zast (E : EE p s m args c cc nL own D cy) (hM : MM D cy sz H0 u H locs) {i x : Int32} (hxn : narrow .boolean (.int x) = .int x) (hok : okA u r 11 i = true) (hdg : decode cc pc = .ok (.bastore, 1))
    (kk : ∀ (H1 : Heap) (locs1 : List Loc), MM D cy sz H0 (sI u r i.toNatClampNeg x) H1 locs1 → W p l e R s m args below meth c H1 locs1 cells slots Q (F0 m (pc + 1) ls rest)) : W p l e R s m args below meth c H locs cells slots Q (F0 m pc ls (.int x :: .int i :: .ref (sz + r) :: rest)) := by
  obtain ⟨hx, hb, hml, hown, hts, hK, -⟩ := E
  obtain ⟨h1, h2, h3⟩ := okA_1 hok
  refine W.zast hx hb (cell_arr hM h1 h2 (by decide)) ((hK.2 2 (cy 11, .boolean) rfl).1 _ _) (fun q => by cases q) (by rw [arrV_size]; exact h3) rfl rfl hdg fun H1 e z oq => ?_
  rw [hxn] at e
  exact kk H1 _ (hM.put (u' := sI u r i.toNatClampNeg x) h1 z oq rfl mv_sI (m_arrset h2 (by decide) e upd_aI) (fun q hq => by rw [List.mem_singleton.mp hq]; exact Nat.le_add_right _ _))
theorem m_last (E : EE p s m args c cc nL own D cy) (hM : MM D cy sz H0 u H locs) {i : Int32} {x : Int64} (hok : okA u r 10 i = true) (hdg : decode cc pc = .ok (.lastore, 1))
    (kk : ∀ (H1 : Heap) (locs1 : List Loc), MM D cy sz H0 (sL u r i.toNatClampNeg x) H1 locs1 → W p l e R s m args below meth c H1 locs1 cells slots Q (F0 m (pc + 1) ls rest)) : W p l e R s m args below meth c H locs cells slots Q (F0 m pc ls (.long x :: .int i :: .ref (sz + r) :: rest)) := by
  obtain ⟨hx, hb, hml, hown, hts, hK, -⟩ := E
  obtain ⟨h1, h2, h3⟩ := okA_1 hok
  refine W.last hx hb (cell_arr hM h1 h2 (by decide)) ((hK.2 1 (cy 10, .long) rfl).1 _ _) (fun q => by cases q) (by rw [arrV_size]; exact h3) rfl rfl hdg fun H1 e z oq => ?_
  exact kk H1 _ (hM.put (u' := sL u r i.toNatClampNeg x) h1 z oq rfl mv_sL (m_arrset h2 (by decide) e upd_aL) (fun q hq => by rw [List.mem_singleton.mp hq]; exact Nat.le_add_right _ _))
theorem m_aast {sh tp ci N : Nat} {T : u_T} {C : String} (hsh : ¬ sh < 9) (hkd : kd sh 0 = 2) (htp : (tysOf cy)[tp]? = some (cy sh, .object C)) (hci : ci < 9) (hN : nfl ci = N) (hc : vwCl[ci]? = some (C, T, N)) (E : EE p s m args c cc nL own D cy) (hM : MM D cy sz H0 u H locs) {i : Int32} {x : Nat} (hok : okA u r sh i = true) (hv : okO u x ci = true) (hdg : decode cc pc = .ok (.aastore, 1))
    (kk : ∀ (H1 : Heap) (locs1 : List Loc), MM D cy sz H0 (sR u r i.toNatClampNeg (some x)) H1 locs1 → W p l e R s m args below meth c H1 locs1 cells slots Q (F0 m (pc + 1) ls rest)) : W p l e R s m args below meth c H locs cells slots Q (F0 m pc ls (.ref (sz + x) :: .int i :: .ref (sz + r) :: rest)) := by
  obtain ⟨hx, hb, hml, hown, hts, hK, -⟩ := E
  obtain ⟨h1, h2, h3⟩ := okA_1 hok
  have hlt : i.toNatClampNeg < aln r := Nat.not_le.mp fun q => h3 (Or.inr q)
  have h0 : ¬ i < 0 := fun q => h3 (Or.inl q)
  obtain ⟨cellV, g1, g2, g3, -⟩ := cell_obj (C := C) (T := T) hM hv hci hN
  have hcls := (hK.1 ci _ hc).2
  obtain ⟨kA, comp, k1, k2, k3, -⟩ := (hK.2 tp _ htp).2
  have hcomp : comp = D.1 ci := Option.some.inj (k3.symm.trans hcls.1)
  subst hcomp
  obtain ⟨kC, hkC, -⟩ := hcls.2
  refine W.aast hx hb (cell_arr hM h1 h2 hsh) (fun q h => by cases h) (fun h => by cases h) k1 k2 rfl hkC ⟨h0, by rw [arrV_size]; exact hlt⟩ g1 (fun q h => by rw [g3] at h; cases h) (by rw [g2]; exact hkC) (by rw [g2]; exact va_assign hcls) rfl rfl hdg fun H1 e z oq => ?_
  exact kk H1 _ (hM.put (u' := sR u r i.toNatClampNeg (some x)) h1 z oq rfl mv_sR (m_arrset h2 hsh e (by rw [hkd]; exact upd_aR (x := some x))) (fun q hq => by rw [List.mem_singleton.mp hq]; exact Nat.le_add_right _ _))
theorem m_alen {sh tp : Nat} {ty : FieldType} (hsh : ¬ sh < 9) (htp : (tysOf cy)[tp]? = some (cy sh, ty)) (E : EE p s m args c cc nL own D cy) (hM : MM D cy sz H0 u H locs) (hok : okO u r sh = true) (hdg : decode cc pc = .ok (.arraylength, 1))
    (kk : W p l e R s m args below meth c H locs cells slots Q (F0 m (pc + 1) ls (.int (Int32.ofNat (aln r)) :: rest))) : W p l e R s m args below meth c H locs cells slots Q (F0 m pc ls (.ref (sz + r) :: rest)) := by
  obtain ⟨hx, hb, hml, hown, hts, hK, -⟩ := E
  obtain ⟨h1, h2⟩ := okO_1 hok
  exact W.alen (n := Int32.ofNat (aln r)) hx hb (cell_arr hM h1 h2 hsh) ((hK.2 tp _ htp).1 _ _) (by rw [arrV_size] <;> rfl) rfl rfl hdg kk
-- new cells
theorem m_new {q : Nat} (hq : q = u.1) (E : EE p s m args c cc nL own D cy) (hM : MM D cy sz H0 u H locs) {ci N index : Nat} {C : String} {T : u_T} (ty0 : Nat → FieldType) (hty : ∀ k, k < N → parseFieldDescriptor (T k).2.2.1 = some (ty0 k)) (hok : okN u ci = true) (hci : ci < 9) (hN : nfl ci = N) (hc : vwCl[ci]? = some (C, T, N)) (hin : ∀ w ∈ u_ws C T N, w ∈ uw) (hcl : Cond.classLink own index C ∈ uw) (hinst : Cond.instantiable C N ∈ uw) (hini : Cond.initialized C ∈ uw)
    (hd : ∀ j, j < N → defaultValue (ty0 j) = mv sz (nw u) (kd ci j) u.1 j) (hcells : cells + 1 ≤ R.cells) (hslots : slots + N ≤ R.slots) (hdg : decode cc pc = .ok (.new index, 3))
    (kk : ∀ (H1 : Heap), MM D cy sz H0 (nw u) H1 locs → W p l e R s m args below meth c H1 locs (cells + 1) (slots + N) Q (F0 m (pc + 3) ls (.ref (sz + q) :: rest))) : W p l e R s m args below meth c H locs cells slots Q (F0 m pc ls rest) := by
  subst hq
  obtain ⟨hx, hb, hml, hown, hts, hK, -⟩ := E
  have hKn := hK.1 ci _ hc
  have hs : shp u.1 = ci := by simpa [okN] using hok
  refine W.newcK hx hb hown (hts _ hcl) (hts _ hinst) (hts _ hini) rfl hdg hcells hslots hKn.2.1 hM.1 fun H1 kC hkC e1 z1 o1 => ?_
  refine kk H1 (hM.new z1 (fun q hq => o1 q hq) ?_)
  unfold cellOk
  rw [hs, if_pos hci, hN]
  exact (u_born ty0 hts hin hKn hkC e1 hty).to hd
theorem m_newa {q : Nat} (hq : q = u.1) {sh : Nat} {atype : ArrayType} {ty : FieldType} (hsh : ¬ sh < 9) (hty : newarray.typeOf atype = ty) (tp : Nat) (htp : (tysOf cy)[tp]? = some (cy sh, ty)) (hRA : ∀ U : State, va_RA U (cy sh) ty → U.vm.findClass ("[" ++ ty.toString) = some (cy sh)) (harr : Cond.arrayClass ty ∈ uw) (E : EE p s m args c cc nL own D cy) (hM : MM D cy sz H0 u H locs)
    {n : Int32} {N : Nat} (hok : okM u sh N = true) (hn : ¬ n < 0) (hN : n.toNatClampNeg = N) (hbytes : N * componentBytes ty ≤ 536870912) (hd : defaultValue ty = mv sz (nw u) (kd sh 0) u.1 0) (hd2 : ∀ j, mv sz (nw u) (kd sh 0) u.1 j = mv sz (nw u) (kd sh 0) u.1 0) (hcells : cells + 1 ≤ R.cells) (hslots : slots + N ≤ R.slots) (hdg : decode cc pc = .ok (.newarray atype, 2))
    (kk : ∀ (H1 : Heap), MM D cy sz H0 (nw u) H1 locs → W p l e R s m args below meth c H1 locs (cells + 1) (slots + N) Q (F0 m (pc + 2) ls (.ref (sz + q) :: rest))) : W p l e R s m args below meth c H locs cells slots Q (F0 m pc ls (.int n :: rest)) := by
  subst hq
  subst hty
  obtain ⟨hx, hb, hml, hown, hts, hK, -⟩ := E
  have hs : shp u.1 = sh ∧ aln u.1 = N := by simpa [okM] using hok
  refine va_newaK hx hb (hts _ harr) rfl hdg rfl hn hN hbytes hcells hslots hM.1 fun H1 cA e1 z1 o1 hAr hNm => ?_
  refine kk H1 (hM.new z1 (fun q hq => o1 q hq) ?_)
  have hcA : cA = cy sh := Option.some.inj (hNm.symm.trans (hRA s (hK.2 tp _ htp).2))
  unfold cellOk
  rw [hs.1, if_neg hsh, hs.2, e1, hcA]
  congr 2
  funext j
  rw [hd2 j, ← hd]
theorem m_newq {q : Nat} (hq : q = u.1) {sh : Nat} {C : String} {index : Nat} (hsh : ¬ sh < 9) (hkd : kd sh 0 = 2) (tp : Nat) (htp : (tysOf cy)[tp]? = some (cy sh, .object C)) (hover : va_AO C s) (hcl : Cond.classLink own index C ∈ uw) (E : EE p s m args c cc nL own D cy) (hM : MM D cy sz H0 u H locs)
    {n : Int32} {N : Nat} (hok : okM u sh N = true) (hn : ¬ n < 0) (hN : n.toNatClampNeg = N) (hbytes : N * 4 ≤ 536870912) (hcells : cells + 1 ≤ R.cells) (hslots : slots + N ≤ R.slots) (hdg : decode cc pc = .ok (.anewarray index, 3))
    (kk : ∀ (H1 : Heap), MM D cy sz H0 (nw u) H1 locs → W p l e R s m args below meth c H1 locs (cells + 1) (slots + N) Q (F0 m (pc + 3) ls (.ref (sz + q) :: rest))) : W p l e R s m args below meth c H locs cells slots Q (F0 m pc ls (.int n :: rest)) := by
  subst hq
  subst hN
  obtain ⟨hx, hb, hml, hown, hts, hK, -⟩ := E
  have hs : shp u.1 = sh ∧ aln u.1 = n.toNatClampNeg := by simpa [okM] using hok
  refine W.anew hx hb hown (hts _ hcl) (va_AO.use hover) rfl hdg rfl hn hbytes hcells hslots fun cA kA comp f1 f2 f3 f4 => ?_
  generalize hH1 : H.push ({ cls := cA, slots := Array.replicate n.toNatClampNeg .null, vm := .none } : Cell) = H1
  have z1 : H1.size = H.size + 1 := by rw [← hH1, Array.size_push]
  have e1 : H1[H.size]? = some (arrV cA n.toNatClampNeg (fun _ => .null)) := by rw [← hH1, Array.getElem?_push_size, ← arrV_new]
  have o1 : ∀ q : Nat, q < H.size → H1[q]? = H[q]? := fun q hq => by rw [← hH1, Array.getElem?_push, if_neg (Nat.ne_of_lt hq)]
  obtain ⟨kA', comp', k1, k2, k3, k4⟩ := (hK.2 tp _ htp).2
  have hcA : cA = cy sh := Option.some.inj (f1.symm.trans k4)
  rw [hM.1] at z1 e1 o1
  rw [hM.1]
  refine kk H1 (hM.new z1 o1 ?_)
  unfold cellOk
  rw [hs.1, if_neg hsh, hs.2, e1, hcA]
  congr 2
  funext j
  rw [hkd]
  simp [mv, gR, nw, upr, rv, va_rf]
theorem nw_i {u : Mm} (j : Nat) : mv sz (nw u) 0 u.1 j = .int 0 := by simp [mv, gI, nw, upr]
theorem nw_l {u : Mm} (j : Nat) : mv sz (nw u) 1 u.1 j = .long 0 := by simp [mv, gL, nw, upr]
theorem nw_r {u : Mm} (j : Nat) : mv sz (nw u) 2 u.1 j = .null := by simp [mv, gR, nw, upr, rv, va_rf]
-- references in locals
theorem m_aload_n (hx : p.tables.exec = Jvm.exec) (hb : c.code = cc) {k : Fin 4} {i : Nat} {x : Option Nat} (hdg : decode cc pc = .ok (.aload_n k, 1)) (hi : (k : Nat) = i) (hl : ls[i]? = some (.val (rv sz x)))
    (kk : W p l e R s m args below meth c H locs cells slots Q (F0 m (pc + 1) ls (rv sz x :: rest))) : W p l e R s m args below meth c H locs cells slots Q (F0 m pc ls (rest)) := by
  cases x with
  | none => exact lv_aload_nN hx hb hdg hi hl kk
  | some a => exact lv_aload_n hx hb hdg hi hl kk
theorem m_aload (hx : p.tables.exec = Jvm.exec) (hb : c.code = cc) {i : Nat} {x : Option Nat} (hdg : decode cc pc = .ok (.aload i, 2)) (hl : ls[i]? = some (.val (rv sz x)))
    (kk : W p l e R s m args below meth c H locs cells slots Q (F0 m (pc + 2) ls (rv sz x :: rest))) : W p l e R s m args below meth c H locs cells slots Q (F0 m pc ls (rest)) := by
  cases x with
  | none => exact lv_aloadN hx hb hdg hl kk
  | some a => exact lv_aload hx hb hdg hl kk
theorem m_astore_n (hx : p.tables.exec = Jvm.exec) (hb : c.code = cc) {k : Fin 4} {i : Nat} {x : Option Nat} {lv lv' : List (Nat × Value)} (hdg : decode cc pc = .ok (.astore_n k, 1)) (hi : (k : Nat) = i) (h : lv_has ls nL lv) (hn : i < nL) (hl : (i, rv sz x) :: lv.filter (fun q => !(q.1 == i) && !(q.1 + 1 == i && q.2.category == 2)) = lv')
    (kk : ∀ ls' : Array Slot, lv_has ls' nL lv' → W p l e R s m args below meth c H locs cells slots Q (F0 m (pc + 1) ls' rest)) : W p l e R s m args below meth c H locs cells slots Q (F0 m pc ls (rv sz x :: rest)) := by
  cases x with
  | none => exact lv_astore_nN hx hb hdg hi h hn hl kk
  | some a => exact lv_astore_n hx hb hdg hi h hn hl kk
theorem m_astore (hx : p.tables.exec = Jvm.exec) (hb : c.code = cc) {i : Nat} {x : Option Nat} {lv lv' : List (Nat × Value)} (hdg : decode cc pc = .ok (.astore i, 2)) (h : lv_has ls nL lv) (hn : i < nL) (hl : (i, rv sz x) :: lv.filter (fun q => !(q.1 == i) && !(q.1 + 1 == i && q.2.category == 2)) = lv')
    (kk : ∀ ls' : Array Slot, lv_has ls' nL lv' → W p l e R s m args below meth c H locs cells slots Q (F0 m (pc + 2) ls' rest)) : W p l e R s m args below meth c H locs cells slots Q (F0 m pc ls (rv sz x :: rest)) := by
  cases x with
  | none => exact lv_astoreN hx hb hdg h hn hl kk
  | some a => exact lv_astore hx hb hdg h hn hl kk
theorem m_acmp_eq (hx : p.tables.exec = Jvm.exec) (hb : c.code = cc) {x y : Option Nat} {off : Int} {tgt : Nat} (hdg : decode cc pc = .ok (.if_acmp .eq off, 3)) (ht : (pc : Int) + off = (tgt : Int))
    (kt : x = y → W p l e R s m args below meth c H locs cells slots Q (F0 m tgt ls rest)) (kf : ¬ x = y → W p l e R s m args below meth c H locs cells slots Q (F0 m (pc + 3) ls rest)) : W p l e R s m args below meth c H locs cells slots Q (F0 m pc ls (rv sz y :: rv sz x :: rest)) := by
  refine lv_acmp_eq hx hb hdg ht (fun h => kt ?_) (fun h => kf (fun q => h (by rw [q])))
  cases x <;> cases y <;> simp at h <;> simp [h]
theorem m_acmp_ne (hx : p.tables.exec = Jvm.exec) (hb : c.code = cc) {x y : Option Nat} {off : Int} {tgt : Nat} (hdg : decode cc pc = .ok (.if_acmp .ne off, 3)) (ht : (pc : Int) + off = (tgt : Int))
    (kt : ¬ x = y → W p l e R s m args below meth c H locs cells slots Q (F0 m tgt ls rest)) (kf : x = y → W p l e R s m args below meth c H locs cells slots Q (F0 m (pc + 3) ls rest)) : W p l e R s m args below meth c H locs cells slots Q (F0 m pc ls (rv sz y :: rv sz x :: rest)) := by
  refine lv_acmp_ne hx hb hdg ht (fun h => kt (fun q => h (by rw [q]))) (fun h => kf ?_)
  cases x <;> cases y <;> simp at h <;> simp [h]
-- ends
theorem post_of {o : Option Value} {u u' : Mm} {av : Array Value} (hM : MM D cy sz H0 u H locs) (hu : u' = u) : ∀ t : State, t.heap = H → Post D cy sz H0 o u' av s (.returned o) t := by
  intro t ht
  subst hu
  exact ⟨rfl, by rw [ht]; exact ⟨hM.1, hM.2.1, hM.2.2.1, fun q h => by cases h⟩⟩
theorem m_iret (hx : p.tables.exec = Jvm.exec) (hb : c.code = cc) (hr : meth.sig.returnType = some .int) (hlk : meth.locks = false) (hM : MM D cy sz H0 u H locs) {v : Int32} {o : Option Value} {u' : Mm} (ho : o = some (.int v)) (hu : u' = u) (hdg : decode cc pc = .ok (.ireturn, 1)) : W p l e R s m args below meth c H locs cells slots (MQ below (Post D cy sz H0 o u') args s cells slots (fun q => sz ≤ q)) (F0 m pc ls [.int v]) := by
  subst ho
  exact W.iret hx hb hr (fun t ht _ => post_of hM hu t ht) hM.2.2.2 hdg hlk
theorem isB_nar {v : Int32} (h : isB v = true) : narrow .boolean (.int v) = .int v := by
  simp only [isB, Bool.or_eq_true, decide_eq_true_eq] at h
  rcases h with rfl | rfl <;> decide
theorem m_zret (hx : p.tables.exec = Jvm.exec) (hb : c.code = cc) (hr : meth.sig.returnType = some .boolean) (hlk : meth.locks = false) (hM : MM D cy sz H0 u H locs) {v : Int32} {o : Option Value} {u' : Mm} (hB : isB v = true) (ho : o = some (.int v)) (hu : u' = u) (hdg : decode cc pc = .ok (.ireturn, 1)) : W p l e R s m args below meth c H locs cells slots (MQ below (Post D cy sz H0 o u') args s cells slots (fun q => sz ≤ q)) (F0 m pc ls [.int v]) := by
  subst ho
  exact W.zret hx hb hr (isB_nar hB) (fun t ht _ => post_of hM hu t ht) hM.2.2.2 hdg hlk
theorem m_lret (hx : p.tables.exec = Jvm.exec) (hb : c.code = cc) (hr : meth.sig.returnType = some .long) (hlk : meth.locks = false) (hM : MM D cy sz H0 u H locs) {v : Int64} {o : Option Value} {u' : Mm} (ho : o = some (.long v)) (hu : u' = u) (hdg : decode cc pc = .ok (.lreturn, 1)) : W p l e R s m args below meth c H locs cells slots (MQ below (Post D cy sz H0 o u') args s cells slots (fun q => sz ≤ q)) (F0 m pc ls [.long v]) := by
  subst ho
  exact W.lret hx hb hr (fun t ht _ => post_of hM hu t ht) hM.2.2.2 hdg hlk
theorem m_vret (hx : p.tables.exec = Jvm.exec) (hb : c.code = cc) (hr : meth.sig.returnType = none) (hlk : meth.locks = false) (hM : MM D cy sz H0 u H locs) {u' : Mm} (hu : u' = u) (hdg : decode cc pc = .ok (.return_, 1)) : W p l e R s m args below meth c H locs cells slots (MQ below (Post D cy sz H0 none u') args s cells slots (fun q => sz ≤ q)) (F0 m pc ls []) :=
  W.vret hx hb hr (fun t ht _ => post_of hM hu t ht) hM.2.2.2 hdg hlk
theorem m_aret (hx : p.tables.exec = Jvm.exec) (hb : c.code = cc) {n : String} (hr : meth.sig.returnType = some (.object n)) (hlk : meth.locks = false) (hM : MM D cy sz H0 u H locs) {x : Option Nat} {o : Option Value} {u' : Mm} (ho : o = some (rv sz x)) (hu : u' = u) (hdg : decode cc pc = .ok (.areturn, 1)) : W p l e R s m args below meth c H locs cells slots (MQ below (Post D cy sz H0 o u') args s cells slots (fun q => sz ≤ q)) (F0 m pc ls [rv sz x]) := by
  subst ho
  exact W.aret hx hb hr (Or.inl ⟨n, rfl⟩) (va_rf_or _) (fun t ht _ => post_of hM hu t ht) hM.2.2.2 hdg hlk
-- a method's start
theorem m_start {y : MethodName} {mxL : Nat} {ret : Option FieldType} {rm : Room} {mc ms : Nat} {av : List Value} {o : Option Value} {u' : Mm} {lv : List (Nat × Value)} (hy : plainName y.cls = true) (hlen : (lg_sl av).length ≤ mxL) (hlv : lv_args 0 av = lv)
    (body : ∀ p e s m below meth c ls, EE p s m av.toArray c cc mxL y.cls D cy → meth.sig.returnType = ret → meth.locks = false → meth.name = y.name → MM D cy sz H0 u s.heap [] → lv_has ls mxL lv →
      W p l e rm s m av.toArray below meth c s.heap [] 0 0 (MQ below (Post D cy sz H0 o u') av.toArray s mc ms (fun q => sz ≤ q)) (F0 m 0 ls [])) : Ctr l y cc mxL ret rm mc ms D cy sz H0 u av o u' := by
  refine Met.ofW (cc := cc) (maxL := mxL) (ret := ret) hy rfl ?_
  intro p e s m args below meth c s₁ B hml hv
  obtain ⟨rfl, hM, hK⟩ := hv
  have hts := atoms_spec (ws := Cond.code y cc mxL ret :: uw) B.pre
  have hl := lv_entry av (n := mxL) hlen
  rw [lg_entry_eq]
  generalize (lg_sl av ++ List.replicate (mxL - (lg_sl av).length) Slot.unset).toArray = ls at hl ⊢
  exact body p e s m below meth c ls ⟨B.exec, B.bytes, hml, findClass_of_methodNamed B.named, fun w hw => hts w (List.mem_cons_of_mem _ hw), hK⟩ B.returns B.notSynchronized (name_of_methodNamed B.named B.method).1 hM (hlv ▸ hl)
-- calls
theorem run_back {mc ms : Nat} {st0 : List Value} {a : Array Value} {o : Option Value} {u' : Mm} (hM : MM D cy sz H0 u H locs) (hr : va_Run p l e R s m args below meth c H locs cells slots mc ms (F0 m pc ls st0) rest (Post D cy sz H0 o u' a) (fun q => sz ≤ q))
    (kk : ∀ (H1 : Heap) (locs1 : List Loc), MM D cy sz H0 u' H1 locs1 → W p l e R s m args below meth c H1 locs1 (cells + mc) (slots + ms) Q (F0 m (pc + 3) ls (o.toList ++ rest))) : W p l e R s m args below meth c H locs cells slots Q (F0 m pc ls st0) := by
  intro T hT X
  obtain ⟨v, st₀, t, T', L, h0, X', hL, e1, e2, ⟨hv, hm⟩, st⟩ := hr T hT X
  cases hv
  have hM1 : MM D cy sz H0 u' T'.heap (locs ++ L) := by
    rw [e1]
    refine ⟨hm.1, hm.2.1, hm.2.2.1, fun q hq => ?_⟩
    rcases List.mem_append.mp hq with h | h
    · exact hM.2.2.2 q h
    · exact hL q h
  obtain ⟨t2, a1, b1⟩ := kk T'.heap (locs ++ L) hM1 T' rfl X'
  exact ⟨t2, st t2 a1, b1⟩
variable {y : MethodName} {mxL mc ms n index : Nat} {ret : Option FieldType} {rm : Room} {As : List Value} {o : Option Value} {u' : Mm} {bc : ByteArray} {C : String}
theorem pre_ok {av : List Value} (E : EE p s m args c cc nL own D cy) (hM : MM D cy sz H0 u H locs) : ∀ U : State, U.heap = H → s.WarmedH U.vm → Pre D cy sz H0 u av av.toArray U := fun U hU hW => ⟨rfl, by rw [hU]; exact ⟨hM.1, hM.2.1, hM.2.2.1, fun q h => by cases h⟩, E.2.2.2.2.2.warm hW⟩
theorem m_callV (E : EE p s m args c cc nL own D cy) (hM : MM D cy sz H0 u H locs) (hls : ls.size = nL) {ci N : Nat} {T : u_T} (hok : okO u r ci = true) (hci : ci < 9) (hN : nfl ci = N) (hc : vwCl[ci]? = some (C, T, N)) (hC : Ctr l y bc mxL ret rm mc ms D cy sz H0 u (.ref (sz + r) :: As) o u')
    (w1 : Cond.methodLink own index y ∈ uw) (w2 : Cond.instanceMethod y ∈ uw) (w3 : Cond.selects C y y ∈ uw) (w4 : Cond.initialized C ∈ uw) (w5 : Cond.code y bc mxL ret ∈ uw) (hrc : rm.cells = mc) (hrs : rm.slots = ms)
    (hd : y.cls = C ∧ y.cls ≠ "java/lang/invoke/MethodHandle" ∧ y.cls ≠ "java/lang/invoke/VarHandle" ∧ (parseMethodDescriptor y.desc).map (fun d => d.parameters.length) = some n) (hR : rm.frames + 1 ≤ R.frames ∧ 8 + (mxL + 11) + rm.locals ≤ R.locals) (hn : As.length = n) {st0 : List Value} (hst : st0 = As.reverse ++ .ref (sz + r) :: rest) (hW : (rest.map fun v => v.category).sum ≤ 8) (hdg : decode cc pc = .ok (.invokevirtual index, 3)) (hf : cells + mc ≤ R.cells ∧ slots + ms ≤ R.slots)
    {st1 : List Value} (hst1 : o.toList ++ rest = st1)
    (kk : ∀ (H1 : Heap) (locs1 : List Loc), MM D cy sz H0 u' H1 locs1 → W p l e R s m args below meth c H1 locs1 (cells + mc) (slots + ms) Q (F0 m (pc + 3) ls st1)) : W p l e R s m args below meth c H locs cells slots Q (F0 m pc ls st0) := by
  subst hst1
  have hG : GoodIn uw (wsV own index C y (Cond.code y bc mxL ret :: uw)) := by
    intro w hw
    rcases List.mem_append.mp hw with h | h
    · simp only [List.mem_cons, List.not_mem_nil, or_false] at h
      rcases h with rfl | rfl | rfl | rfl
      · exact ⟨w1, uw_good _ w1⟩
      · exact ⟨w2, uw_good _ w2⟩
      · exact ⟨w3, uw_good _ w3⟩
      · exact ⟨w4, uw_good _ w4⟩
    · exact uw_of w5 w h
  obtain ⟨cell, q1, q2, q3, q4⟩ := cell_obj (C := C) (T := T) hM hok hci hN
  refine run_back hM (va_runV (As := As) (rest := rest) (n := n) ⟨E.1, E.2.1, E.2.2.1, E.2.2.2.1, E.2.2.2.2.1⟩ hC (cwV n E.2.2.2.2.1 hG rfl hrc hrs hd hR) ⟨Pre.blind, ⟨cell, q1, by rw [q3]; rfl, by rw [q2]; exact (E.2.2.2.2.2.1.1 ci _ hc).2.1⟩, pre_ok E hM⟩ rfl hn hls hst (lv_room hW) hdg hf) kk
theorem m_callS (E : EE p s m args c cc nL own D cy) (hM : MM D cy sz H0 u H locs) (hls : ls.size = nL) (hC : Ctr l y bc mxL ret rm mc ms D cy sz H0 u As o u')
    (w1 : Cond.methodLink own index y ∈ uw) (w2 : Cond.static y ∈ uw) (w4 : Cond.initialized y.cls ∈ uw) (w5 : Cond.code y bc mxL ret ∈ uw) (hrc : rm.cells = mc) (hrs : rm.slots = ms)
    (hd : y.cls ≠ "java/lang/invoke/MethodHandle" ∧ y.cls ≠ "java/lang/invoke/VarHandle" ∧ (parseMethodDescriptor y.desc).map (fun d => d.parameters.length) = some n) (hR : rm.frames + 1 ≤ R.frames ∧ 8 + (mxL + 11) + rm.locals ≤ R.locals) (hn : As.length = n) {st0 : List Value} (hst : st0 = As.reverse ++ rest) (hW : (rest.map fun v => v.category).sum ≤ 8) (hdg : decode cc pc = .ok (.invokestatic index, 3)) (hf : cells + mc ≤ R.cells ∧ slots + ms ≤ R.slots)
    {st1 : List Value} (hst1 : o.toList ++ rest = st1)
    (kk : ∀ (H1 : Heap) (locs1 : List Loc), MM D cy sz H0 u' H1 locs1 → W p l e R s m args below meth c H1 locs1 (cells + mc) (slots + ms) Q (F0 m (pc + 3) ls st1)) : W p l e R s m args below meth c H locs cells slots Q (F0 m pc ls st0) := by
  subst hst1
  have hG : GoodIn uw (va_wsS own index y (Cond.code y bc mxL ret :: uw)) := by
    intro w hw
    rcases List.mem_append.mp hw with h | h
    · simp only [List.mem_cons, List.not_mem_nil, or_false] at h
      rcases h with rfl | rfl | rfl
      · exact ⟨w1, uw_good _ w1⟩
      · exact ⟨w2, uw_good _ w2⟩
      · exact ⟨w4, uw_good _ w4⟩
    · exact uw_of w5 w h
  refine run_back hM (va_runS (As := As) (rest := rest) (n := n) ⟨E.1, E.2.1, E.2.2.1, E.2.2.2.1, E.2.2.2.2.1⟩ hC (va_cwS n E.2.2.2.2.1 hG rfl hrc hrs hd hR) ⟨Pre.blind, pre_ok E hM⟩ rfl hn hls hst (lv_room hW) hdg hf) kk
theorem m_callSN {host : String} (E : EE p s m args c cc nL own D cy) (hM : MM D cy sz H0 u H locs) (hls : ls.size = nL) (hC : Ctr l y bc mxL ret rm mc ms D cy sz H0 u As o u')
    (w1 : Cond.methodLinkNest own index y host ∈ nestW) (w2 : Cond.static y ∈ uw) (w4 : Cond.initialized y.cls ∈ uw) (w5 : Cond.code y bc mxL ret ∈ uw) (hrc : rm.cells = mc) (hrs : rm.slots = ms)
    (hd : y.cls ≠ "java/lang/invoke/MethodHandle" ∧ y.cls ≠ "java/lang/invoke/VarHandle" ∧ (parseMethodDescriptor y.desc).map (fun d => d.parameters.length) = some n) (hR : rm.frames + 1 ≤ R.frames ∧ 8 + (mxL + 11) + rm.locals ≤ R.locals) (hn : As.length = n) {st0 : List Value} (hst : st0 = As.reverse ++ rest) (hW : (rest.map fun v => v.category).sum ≤ 8) (hdg : decode cc pc = .ok (.invokestatic index, 3)) (hf : cells + mc ≤ R.cells ∧ slots + ms ≤ R.slots)
    {st1 : List Value} (hst1 : o.toList ++ rest = st1)
    (kk : ∀ (H1 : Heap) (locs1 : List Loc), MM D cy sz H0 u' H1 locs1 → W p l e R s m args below meth c H1 locs1 (cells + mc) (slots + ms) Q (F0 m (pc + 3) ls st1)) : W p l e R s m args below meth c H locs cells slots Q (F0 m pc ls st0) := by
  subst hst1
  refine run_back hM (va_runSN (As := As) (rest := rest) (n := n) ⟨E.1, E.2.1, E.2.2.1, E.2.2.2.1, E.2.2.2.2.1⟩ hC ⟨va_cnB n E.2.2.2.2.1 (uw_of w5) rfl hrc hrs (E.2.2.2.2.2.2.2.2 _ w1) (E.2.2.2.2.1 _ w4) hd hR, E.2.2.2.2.1 _ w2, trivial⟩ ⟨Pre.blind, pre_ok E hM⟩ rfl hn hls hst (lv_room hW) hdg hf) kk
theorem m_callI (E : EE p s m args c cc nL own D cy) (hM : MM D cy sz H0 u H locs) (hls : ls.size = nL) (hC : Ctr l y bc mxL none rm mc ms D cy sz H0 u (.ref (sz + r) :: As) o u')
    (w1 : Cond.methodLink own index y ∈ uw) (w2 : Cond.instanceMethod y ∈ uw) (w4 : Cond.initialized y.cls ∈ uw) (w5 : Cond.code y bc mxL none ∈ uw) (hrc : rm.cells = mc) (hrs : rm.slots = ms) (hy1 : y.name = "<init>")
    (hd : y.cls ≠ "java/lang/invoke/MethodHandle" ∧ y.cls ≠ "java/lang/invoke/VarHandle" ∧ (parseMethodDescriptor y.desc).map (fun d => d.parameters.length) = some n) (hR : rm.frames + 1 ≤ R.frames ∧ 8 + (mxL + 11) + rm.locals ≤ R.locals) (hn : As.length = n) {st0 : List Value} (hst : st0 = As.reverse ++ .ref (sz + r) :: rest) (hW : (rest.map fun v => v.category).sum ≤ 8) (hdg : decode cc pc = .ok (.invokespecial index, 3)) (hf : cells + mc ≤ R.cells ∧ slots + ms ≤ R.slots)
    {st1 : List Value} (hst1 : o.toList ++ rest = st1)
    (kk : ∀ (H1 : Heap) (locs1 : List Loc), MM D cy sz H0 u' H1 locs1 → W p l e R s m args below meth c H1 locs1 (cells + mc) (slots + ms) Q (F0 m (pc + 3) ls st1)) : W p l e R s m args below meth c H locs cells slots Q (F0 m pc ls st0) := by
  subst hst1
  refine run_back hM (va_runI (As := As) (rest := rest) (n := n) ⟨E.1, E.2.1, E.2.2.1, E.2.2.2.1, E.2.2.2.2.1⟩ hC (cwI n E.2.2.2.2.1 (uw_of w5) rfl hrc hrs (E.2.2.2.2.1 _ w4) (E.2.2.2.2.1 _ w1) (E.2.2.2.2.1 _ w2) hy1 hd hR) ⟨Pre.blind, pre_ok E hM⟩ rfl hn hls hst (lv_room hW) hdg hf) kk
theorem m_callIN {host : String} (E : EE p s m args c cc nL own D cy) (hM : MM D cy sz H0 u H locs) (hls : ls.size = nL) (hC : Ctr l y bc mxL none rm mc ms D cy sz H0 u (.ref (sz + r) :: As) o u')
    (w1 : Cond.methodLinkNest own index y host ∈ nestW) (w2 : Cond.instanceMethod y ∈ uw) (w4 : Cond.initialized y.cls ∈ uw) (w5 : Cond.code y bc mxL none ∈ uw) (hrc : rm.cells = mc) (hrs : rm.slots = ms) (hy1 : y.name = "<init>")
    (hd : y.cls ≠ "java/lang/invoke/MethodHandle" ∧ y.cls ≠ "java/lang/invoke/VarHandle" ∧ (parseMethodDescriptor y.desc).map (fun d => d.parameters.length) = some n) (hR : rm.frames + 1 ≤ R.frames ∧ 8 + (mxL + 11) + rm.locals ≤ R.locals) (hn : As.length = n) {st0 : List Value} (hst : st0 = As.reverse ++ .ref (sz + r) :: rest) (hW : (rest.map fun v => v.category).sum ≤ 8) (hdg : decode cc pc = .ok (.invokespecial index, 3)) (hf : cells + mc ≤ R.cells ∧ slots + ms ≤ R.slots)
    {st1 : List Value} (hst1 : o.toList ++ rest = st1)
    (kk : ∀ (H1 : Heap) (locs1 : List Loc), MM D cy sz H0 u' H1 locs1 → W p l e R s m args below meth c H1 locs1 (cells + mc) (slots + ms) Q (F0 m (pc + 3) ls st1)) : W p l e R s m args below meth c H locs cells slots Q (F0 m pc ls st0) := by
  subst hst1
  refine run_back hM (va_runIN (As := As) (rest := rest) (n := n) ⟨E.1, E.2.1, E.2.2.1, E.2.2.2.1, E.2.2.2.2.1⟩ hC ⟨va_cnB n E.2.2.2.2.1 (uw_of w5) rfl hrc hrs (E.2.2.2.2.2.2.2.2 _ w1) (E.2.2.2.2.1 _ w4) hd hR, hy1, E.2.2.2.2.1 _ w2⟩ ⟨Pre.blind, pre_ok E hM⟩ rfl hn hls hst (lv_room hW) hdg hf) kk
theorem m_obj {rst : List Value} (E : EE p s m args c cc nL own D cy) (hls : ls.size = nL) (w1 : Cond.methodLink own index objectInit ∈ uw) (w2 : Cond.instanceMethod objectInit ∈ uw) (w5 : Cond.code objectInit ⟨#[0xb1]⟩ 1 none ∈ uw) {a : Nat} (hdg : decode cc pc = .ok (.invokespecial index, 3)) (hfr : 1 ≤ R.frames) (hlo : (rst.map fun v => v.category).sum + 12 ≤ R.locals)
    (kk : W p l e R s m args below meth c H locs cells slots Q (F0 m (pc + 3) ls rst)) : W p l e R s m args below meth c H locs cells slots Q (F0 m pc ls (.ref a :: rst)) :=
  W.objInit E.1 E.2.1 E.2.2.2.1 (E.2.2.2.2.1 _ w1) (E.2.2.2.2.1 _ w2) (E.2.2.2.2.1 _ w5) rfl (hls.trans E.2.2.1.symm) rfl hdg hfr (by show 2 * 0 + _ + 12 ≤ _; omega) kk

def okC (u : Mm) (r r2 sh : Nat) (sp dp n : Int32) : Bool := decide (r < u.1) && decide (shp r = sh) && decide (r2 < u.1) && decide (shp r2 = sh) && decide (¬ sp < 0) && decide (¬ dp < 0) && decide (¬ n < 0) && decide (sp.toNatClampNeg + n.toNatClampNeg ≤ aln r) && decide (dp.toNatClampNeg + n.toNatClampNeg ≤ aln r2)
theorem nn_i (z : Int32) (hz : ¬ z < 0) : z.toInt = (z.toNatClampNeg : Int) := by
  have hz0 : (0 : Int) ≤ z.toInt := by
    have := Int32.not_lt.mp hz
    simpa using Int32.le_iff_toInt_le.mp this
  show z.toInt = ((z.toInt.toNat : Nat) : Int)
  omega

theorem m_copyI (E : EE p s m args c cc nL own D cy) (hM : MM D cy sz H0 u H locs) (hls : ls.size = nL) (w1 : Cond.methodLink own index arraycopyName ∈ uw) (w2 : Cond.native arraycopyName ∈ uw) (w3 : Cond.static arraycopyName ∈ uw) (w4 : Cond.initialized RJ10 ∈ uw) {r2 : Nat} {sp dp n : Int32} (hok : okC u r r2 9 sp dp n = true)
    (hfr : 1 ≤ R.frames) (hlo : (rest.map fun v => v.category).sum + (nativeFrameWords "java/lang/System" "arraycopy" 5 + 11) ≤ R.locals) (hdg : decode cc pc = .ok (.invokestatic index, 3))
    (kk : ∀ (H1 : Heap) (locs1 : List Loc), MM D cy sz H0 (rI u r2 (va_cpy (gI u r) (gI u r2) sp.toNatClampNeg dp.toNatClampNeg n.toNatClampNeg)) H1 locs1 → W p l e R s m args below meth c H1 locs1 cells slots Q (F0 m (pc + 3) ls rest)) : W p l e R s m args below meth c H locs cells slots Q (F0 m pc ls (.int n :: .int dp :: .ref (sz + r2) :: .int sp :: .ref (sz + r) :: rest)) := by
  obtain ⟨hx, hb, hml, hown, hts, hK, -⟩ := E
  simp only [okC, Bool.and_eq_true, decide_eq_true_eq] at hok
  obtain ⟨⟨⟨⟨⟨⟨⟨⟨o1, o2⟩, o3⟩, o4⟩, h1⟩, h2⟩, h3⟩, h4⟩, h5⟩ := hok
  have hc0 := cell_arr hM o1 o2 (by decide)
  have hc1 := cell_arr hM o3 o4 (by decide)
  intro T hT X
  obtain ⟨-, k0, hk0, cm0, hkk0⟩ := (hK.2 0 (cy 9, .int) rfl).1 (aln r) (fun j => mv sz u (kd 9 0) r j)
  obtain ⟨-, k1, hk1, cm1, hkk1⟩ := (hK.2 0 (cy 9, .int) rfl).1 (aln r2) (fun j => mv sz u (kd 9 0) r2 j)
  obtain ⟨vm', X', step⟩ := X.arraycopy hx hown (hts _ w1) (hts _ w2) (hts _ w3) (hts _ w4) (src := sz + r) (dst := sz + r2) (cs := arrV (cy 9) (aln r) (fun j => mv sz u (kd 9 0) r j)) (cd := arrV (cy 9) (aln r2) (fun j => mv sz u (kd 9 0) r2 j)) (srcPos := sp) (destPos := dp) (n := n) (by rw [hT]; exact hc0) (by rw [hT]; exact hc1)
    (fun _ h => by cases h) (fun _ h => by cases h) (fun h => by cases h) (fun h => by cases h) hk0 hk1 hkk0 hkk1 (by simp [refKind]) h1 h2 h3
    (by rw [nn_i sp h1, nn_i n h3, arrV_size]; omega)
    (by rw [nn_i dp h2, nn_i n h3, arrV_size]; omega)
    (fun vm₁ _ i hi => by
      have e : (arrV (cy 9) (aln r) (fun j => mv sz u (kd 9 0) r j)).slots.getD (sp.toNatClampNeg + i) .null = .int (gI u r (sp.toNatClampNeg + i)) := by
        rw [Array.getD_eq_getD_getElem?, arrV_read _ _ (by omega)]
        rfl
      refine ⟨?_, ?_⟩
      · rw [e]
        rfl
      · rw [e]
        exact trivial)
    (g := F0 m pc ls (.int n :: .int dp :: .ref (sz + r2) :: .int sp :: .ref (sz + r) :: rest)) rfl (by rw [hml, ← hls]) (rest := rest) rfl (by rw [hb]; exact hdg) hfr (by show 2 * 0 + _ + _ ≤ _; omega)
  have e1 : copied (arrV (cy 9) (aln r) (fun j => mv sz u (kd 9 0) r j)) (arrV (cy 9) (aln r2) (fun j => mv sz u (kd 9 0) r2 j)) sp dp n = arrV (cy 9) (aln r2) (fun j => .int (va_cpy (gI u r) (gI u r2) sp.toNatClampNeg dp.toNatClampNeg n.toNatClampNeg j)) := va_copied (fun z => .int z) (cy 9) (cy 9) (gI u r) (gI u r2) h4
  rw [e1] at X' step
  have hl : sz + r2 < H.size := (Array.getElem?_eq_some_iff.mp hc1).1
  obtain ⟨t, a1, b1⟩ := kk (H.setIfInBounds (sz + r2) (arrV (cy 9) (aln r2) (fun j => .int (va_cpy (gI u r) (gI u r2) sp.toNatClampNeg dp.toNatClampNeg n.toNatClampNeg j)))) _ (hM.put (u' := rI u r2 (va_cpy (gI u r) (gI u r2) sp.toNatClampNeg dp.toNatClampNeg n.toNatClampNeg)) o3 (by simp) (fun q hq => by simp [Array.getElem?_setIfInBounds, Ne.symm hq]) rfl mv_rI (by
      unfold cellOk
      rw [o4, if_neg (by decide)]
      simp only [Array.getElem?_setIfInBounds, hl, if_true]
      congr 2
      funext j
      simp [mv, kd, gI, rI, upr]) (fun q hq => by
      obtain ⟨z, -, hz⟩ := List.mem_map.mp hq
      rw [← hz]
      exact Nat.le_add_right _ _)) _ (by rw [← hT]; rfl) X'
  exact ⟨t, step t a1, b1⟩

theorem m_copyL (E : EE p s m args c cc nL own D cy) (hM : MM D cy sz H0 u H locs) (hls : ls.size = nL) (w1 : Cond.methodLink own index arraycopyName ∈ uw) (w2 : Cond.native arraycopyName ∈ uw) (w3 : Cond.static arraycopyName ∈ uw) (w4 : Cond.initialized RJ10 ∈ uw) {r2 : Nat} {sp dp n : Int32} (hok : okC u r r2 10 sp dp n = true)
    (hfr : 1 ≤ R.frames) (hlo : (rest.map fun v => v.category).sum + (nativeFrameWords "java/lang/System" "arraycopy" 5 + 11) ≤ R.locals) (hdg : decode cc pc = .ok (.invokestatic index, 3))
    (kk : ∀ (H1 : Heap) (locs1 : List Loc), MM D cy sz H0 (rL u r2 (va_cpy (gL u r) (gL u r2) sp.toNatClampNeg dp.toNatClampNeg n.toNatClampNeg)) H1 locs1 → W p l e R s m args below meth c H1 locs1 cells slots Q (F0 m (pc + 3) ls rest)) : W p l e R s m args below meth c H locs cells slots Q (F0 m pc ls (.int n :: .int dp :: .ref (sz + r2) :: .int sp :: .ref (sz + r) :: rest)) := by
  obtain ⟨hx, hb, hml, hown, hts, hK, -⟩ := E
  simp only [okC, Bool.and_eq_true, decide_eq_true_eq] at hok
  obtain ⟨⟨⟨⟨⟨⟨⟨⟨o1, o2⟩, o3⟩, o4⟩, h1⟩, h2⟩, h3⟩, h4⟩, h5⟩ := hok
  have hc0 := cell_arr hM o1 o2 (by decide)
  have hc1 := cell_arr hM o3 o4 (by decide)
  intro T hT X
  obtain ⟨-, k0, hk0, cm0, hkk0⟩ := (hK.2 1 (cy 10, .long) rfl).1 (aln r) (fun j => mv sz u (kd 10 0) r j)
  obtain ⟨-, k1, hk1, cm1, hkk1⟩ := (hK.2 1 (cy 10, .long) rfl).1 (aln r2) (fun j => mv sz u (kd 10 0) r2 j)
  obtain ⟨vm', X', step⟩ := X.arraycopy hx hown (hts _ w1) (hts _ w2) (hts _ w3) (hts _ w4) (src := sz + r) (dst := sz + r2) (cs := arrV (cy 10) (aln r) (fun j => mv sz u (kd 10 0) r j)) (cd := arrV (cy 10) (aln r2) (fun j => mv sz u (kd 10 0) r2 j)) (srcPos := sp) (destPos := dp) (n := n) (by rw [hT]; exact hc0) (by rw [hT]; exact hc1)
    (fun _ h => by cases h) (fun _ h => by cases h) (fun h => by cases h) (fun h => by cases h) hk0 hk1 hkk0 hkk1 (by simp [refKind]) h1 h2 h3
    (by rw [nn_i sp h1, nn_i n h3, arrV_size]; omega)
    (by rw [nn_i dp h2, nn_i n h3, arrV_size]; omega)
    (fun vm₁ _ i hi => by
      have e : (arrV (cy 10) (aln r) (fun j => mv sz u (kd 10 0) r j)).slots.getD (sp.toNatClampNeg + i) .null = .long (gL u r (sp.toNatClampNeg + i)) := by
        rw [Array.getD_eq_getD_getElem?, arrV_read _ _ (by omega)]
        rfl
      refine ⟨?_, ?_⟩
      · rw [e]
        rfl
      · rw [e]
        exact trivial)
    (g := F0 m pc ls (.int n :: .int dp :: .ref (sz + r2) :: .int sp :: .ref (sz + r) :: rest)) rfl (by rw [hml, ← hls]) (rest := rest) rfl (by rw [hb]; exact hdg) hfr (by show 2 * 0 + _ + _ ≤ _; omega)
  have e1 : copied (arrV (cy 10) (aln r) (fun j => mv sz u (kd 10 0) r j)) (arrV (cy 10) (aln r2) (fun j => mv sz u (kd 10 0) r2 j)) sp dp n = arrV (cy 10) (aln r2) (fun j => .long (va_cpy (gL u r) (gL u r2) sp.toNatClampNeg dp.toNatClampNeg n.toNatClampNeg j)) := va_copied (fun z => .long z) (cy 10) (cy 10) (gL u r) (gL u r2) h4
  rw [e1] at X' step
  have hl : sz + r2 < H.size := (Array.getElem?_eq_some_iff.mp hc1).1
  obtain ⟨t, a1, b1⟩ := kk (H.setIfInBounds (sz + r2) (arrV (cy 10) (aln r2) (fun j => .long (va_cpy (gL u r) (gL u r2) sp.toNatClampNeg dp.toNatClampNeg n.toNatClampNeg j)))) _ (hM.put (u' := rL u r2 (va_cpy (gL u r) (gL u r2) sp.toNatClampNeg dp.toNatClampNeg n.toNatClampNeg)) o3 (by simp) (fun q hq => by simp [Array.getElem?_setIfInBounds, Ne.symm hq]) rfl mv_rL (by
      unfold cellOk
      rw [o4, if_neg (by decide)]
      simp only [Array.getElem?_setIfInBounds, hl, if_true]
      congr 2
      funext j
      simp [mv, kd, gL, rL, upr]) (fun q hq => by
      obtain ⟨z, -, hz⟩ := List.mem_map.mp hq
      rw [← hz]
      exact Nat.le_add_right _ _)) _ (by rw [← hT]; rfl) X'
  exact ⟨t, step t a1, b1⟩

theorem m_tsw {dflt lo hi : Int} {offs : Array Int} {len : Nat} {x k : Int32} {off : Int} {tgt : Nat} (hx : p.tables.exec = Jvm.exec) (hb : c.code = cc) (hdg : decode cc pc = .ok (.tableswitch dflt lo hi offs, len)) (hk : x = k) (h1 : ¬ k.toInt < lo) (h2 : ¬ hi < k.toInt) (ho : offs[(k.toInt - lo).toNat]? = some off) (ht : (pc : Int) + off = (tgt : Int))
    (kk : W p l e R s m args below meth c H locs cells slots Q (F0 m tgt ls rest)) : W p l e R s m args below meth c H locs cells slots Q (F0 m pc ls (.int x :: rest)) := by
  subst hk
  exact lv_tableIn hx hb hdg h1 h2 ho ht kk
end MROWS
