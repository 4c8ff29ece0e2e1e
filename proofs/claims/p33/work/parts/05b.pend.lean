/-! PENDING: cells made, not yet of the world; they lie apart from it -/
def k_fr (X : kX) (n : Nat → Nat → Nat) (ad : Nat → Nat → Nat → Nat) (fr : Nat → Option Cell) : Nat → Prop := fun q => k_B X ≤ q ∧ fr q = none ∧ ∀ g r i, k_v n g r i → ad g r i ≠ q
def k_N (X : kX) (n : Nat → Nat → Nat) (ad L : Nat → Nat → Nat → Nat) (C : Nat → Nat → Nat → Nat → Int32) (fr : Nat → Option Cell) (ws : va_W) (H : Heap) : Prop :=
  k_W X n ad L C fr H ∧ va_P X.1 vwCl ws H ∧ va_D (k_fr X n ad fr) ws
theorem k_W.off {X : kX} {n : Nat → Nat → Nat} {ad L : Nat → Nat → Nat → Nat} {C : Nat → Nat → Nat → Nat → Int32} {fr : Nat → Option Cell} {H H1 : Heap} (h : k_W X n ad L C fr H) (hz : H.size ≤ H1.size) (oq : ∀ q : Nat, q < H.size → ¬ k_fr X n ad fr q → H1[q]? = H[q]?) : k_W X n ad L C fr H1 := by
  obtain ⟨h1, h2, h3, h4, h5, h6⟩ := h
  refine ⟨fun g r i hv => ?_, h2, h3, fun q c hq => ?_, ⟨Nat.le_trans h5.1 hz, fun q hq => ?_⟩, h6⟩
  · have q := h1 g r i hv
    exact q.kept (oq _ q.lt (fun z => z.2.2 g r i hv rfl))
  · obtain ⟨a1, a2, a3⟩ := h4 q c hq
    refine ⟨?_, a2, a3⟩
    rw [oq q (Array.getElem?_eq_some_iff.mp a1).1 (fun z => by rw [z.2.1] at hq; cases hq)]
    exact a1
  · rw [oq q (Nat.lt_of_lt_of_le hq h5.1) (fun z => absurd hq (Nat.not_lt.mpr z.1))]
    exact h5.2 q hq
theorem k_W.new {X : kX} {n : Nat → Nat → Nat} {ad L : Nat → Nat → Nat → Nat} {C : Nat → Nat → Nat → Nat → Int32} {fr : Nat → Option Cell} {H : Heap} (h : k_W X n ad L C fr H) : k_fr X n ad fr H.size := by
  obtain ⟨h1, h2, h3, h4, h5, h6⟩ := h
  refine ⟨h5.1, ?_, fun g r i hv z => ?_⟩
  · cases hc : fr H.size with
    | none => rfl
    | some c =>
      have := (Array.getElem?_eq_some_iff.mp (h4 _ c hc).1).1
      exact absurd this (Nat.lt_irrefl _)
  · have := (h1 g r i hv).lt
    have e : (ad g r i, k_e X n ad L g r i (C g r i)).1 = H.size := z
    rw [e] at this
    exact absurd this (Nat.lt_irrefl _)
theorem k_Dcons {A : Nat → Prop} {ws : va_W} {a : Nat} {e : va_E} (hD : va_D A ws) (ha : ∀ (k : Nat) (q : Nat × va_E), ws[k]? = some q → q.1 ≠ a) (hA : A a) : va_D A ((a, e) :: ws) := by
  refine ⟨fun i j x y hx hy hxy => ?_, fun k q hk => ?_⟩
  · cases i with
    | zero =>
      cases hx
      cases j with
      | zero => rfl
      | succ j => exact absurd hxy.symm (ha j y hy)
    | succ i =>
      cases j with
      | zero =>
        cases hy
        exact absurd hxy (ha i x hx)
      | succ j => exact congrArg (· + 1) (hD.1 i j x y hx hy hxy)
  · cases k with
    | zero =>
      cases hk
      exact hA
    | succ k => exact hD.2 k q hk
theorem k_Pcons {D : va_G} {cl : List vw_C} {ws : va_W} {H : Heap} {x : Nat × va_E} (hP : va_P D cl ws H) (hx : va_at D cl x H) : va_P D cl (x :: ws) H := by
  intro k q hk
  cases k with
  | zero =>
    cases hk
    exact hx
  | succ k => exact hP k q hk
/-- a cell more -/
theorem k_N.push {X : kX} {n : Nat → Nat → Nat} {ad L : Nat → Nat → Nat → Nat} {C : Nat → Nat → Nat → Nat → Int32} {fr : Nat → Option Cell} {ws : va_W} {H H1 : Heap} {e : va_E} (h : k_N X n ad L C fr ws H) (hz : H1.size = H.size + 1) (oq : ∀ q : Nat, q < H.size → H1[q]? = H[q]?) (he : va_at X.1 vwCl (H.size, e) H1) : k_N X n ad L C fr ((H.size, e) :: ws) H1 := by
  obtain ⟨hW, hP, hD⟩ := h
  exact ⟨hW.off (by omega) (fun q hq _ => oq q hq), k_Pcons (hP.kept (fun k q hk => oq q.1 (hP k q hk).lt)) he, k_Dcons hD (fun k q hk z => by have := (hP k q hk).lt; omega) hW.new⟩
/-- a pending cell changed -/
theorem k_N.set {X : kX} {n : Nat → Nat → Nat} {ad L : Nat → Nat → Nat → Nat} {C : Nat → Nat → Nat → Nat → Int32} {fr : Nat → Option Cell} {ws : va_W} {H H1 : Heap} {a k0 : Nat} {e0 e : va_E} (h : k_N X n ad L C fr ws H) (hp : ws[k0]? = some (a, e0)) (hz : H1.size = H.size) (oq : ∀ q : Nat, q ≠ a → H1[q]? = H[q]?) (he : va_at X.1 vwCl (a, e) H1) : k_N X n ad L C fr (ws.set k0 (a, e)) H1 := by
  obtain ⟨hW, hP, hD⟩ := h
  exact ⟨hW.off (by omega) (fun q _ hq => oq q (fun z => hq (by rw [z]; exact hD.2 k0 _ hp))), hP.set hD hp he oq, hD.set hp⟩
theorem k_N.of {X : kX} {n : Nat → Nat → Nat} {ad L : Nat → Nat → Nat → Nat} {C : Nat → Nat → Nat → Nat → Int32} {fr : Nat → Option Cell} {H : Heap} (h : k_W X n ad L C fr H) : k_N X n ad L C fr [] H := ⟨h, fun k q hk => (by cases hk), ⟨fun i j x y hx => (by cases hx), fun k q hk => (by cases hk)⟩⟩
theorem k_N.tail {X : kX} {n : Nat → Nat → Nat} {ad L : Nat → Nat → Nat → Nat} {C : Nat → Nat → Nat → Nat → Int32} {fr : Nat → Option Cell} {x : Nat × va_E} {ws : va_W} {H : Heap} (h : k_N X n ad L C fr (x :: ws) H) : k_N X n ad L C fr ws H :=
  ⟨h.1, fun k q hk => h.2.1 (k + 1) q hk, ⟨fun i j x y hx hy hxy => Nat.succ.inj (h.2.2.1 (i + 1) (j + 1) x y hx hy hxy), fun k q hk => h.2.2.2 (k + 1) q hk⟩⟩
section KPEND
variable {p : Program} {l : Launch} {e : Env} {R : Room} {s : State} {m : MethodId} {args : Array Value} {below : List Frame} {meth : Method} {c : Code} {H : Heap} {locs : List Loc} {cells slots : Nat} {Q : State → Prop}
variable {cc : ByteArray} {pc : Nat} {ls : Array Slot} {rest : List Value} {X : kX} {n : Nat → Nat → Nat} {ad L : Nat → Nat → Nat → Nat} {C : Nat → Nat → Nat → Nat → Int32} {fr : Nat → Option Cell} {ws ws' : va_W} {a : Nat}
theorem k_more {g : JFrame} {cells' slots' : Nat} (hc : cells ≤ cells') (hs : slots ≤ slots') (k : W p l e R s m args below meth c H locs cells' slots' Q g) : W p l e R s m args below meth c H locs cells slots Q g :=
  fun T hT X => k T hT (X.more hc hs)
theorem k_new (hexec : p.tables.exec = Jvm.exec) (hb : c.code = cc) {own K : String} {T : u_T} {N ci index : Nat} {Ts : List Cond} (hts : ∀ w ∈ Ts, w.before args s = true) (hin : ∀ w ∈ u_ws K T N, w ∈ Ts) (ty : Nat → FieldType) (hty : ∀ k, k < N → parseFieldDescriptor (T k).2.2.1 = some (ty k)) (hown : s.vm.findClass own = some m.cls) (hcl : (Cond.classLink own index K).before args s = true) (hinst : (Cond.instantiable K N).before args s = true) (hini : (Cond.initialized K).before args s = true)
    (hK : k_S X s) (hW : k_N X n ad L C fr ws H) (hc : vwCl[ci]? = some (K, T, N)) {fs : List Value} (hfs : ∀ j, j < N → defaultValue (ty j) = vp_V fs j) (hcells : cells + 1 ≤ R.cells) (hslots : slots + N ≤ R.slots) (hdg : decode cc pc = .ok (.new index, 3))
    (kk : ∀ (q : Nat) (H1 : Heap), k_N X n ad L C fr ((q, .inr (ci, fs)) :: ws) H1 → W p l e R s m args below meth c H1 locs (cells + 1) (slots + N) Q (F0 m (pc + 3) ls (.ref q :: rest))) : W p l e R s m args below meth c H locs cells slots Q (F0 m pc ls rest) := by
  have hKn := hK.1.1 ci _ hc
  refine W.newcK hexec hb hown hcl hinst hini rfl hdg hcells hslots hKn.2.1 rfl fun H1 kC hkC e1 z1 o1 => ?_
  exact kk H.size H1 (hW.push z1 o1 ⟨_, hc, (u_born ty hts hin hKn hkC e1 hty).to hfs⟩)
theorem k_nput (hexec : p.tables.exec = Jvm.exec) (hb : c.code = cc) {own ref K : String} {T : u_T} {N ci index : Nat} (hF : ∀ w ∈ u_ws K T N, w.before args s = true) (ty0 : Nat → FieldType) (hty : ∀ k, k < N → parseFieldDescriptor (T k).2.2.1 = some (ty0 k)) (hnm : ∀ a, a < N → ∀ b, b < N → a ≠ b → (T a).2.1 ≠ (T b).2.1) (hown : s.vm.findClass own = some m.cls) (hK : k_S X s) (hW : k_N X n ad L C fr ws H) (hL : ∀ q ∈ locs, k_B X ≤ q.base) (k0 : Nat) {fs : List Value} (he : ws[k0]? = some (a, .inr (ci, fs))) (hc : vwCl[ci]? = some (K, T, N)) (k : Nat) (hk : k < N) (hlink : (Cond.fieldLink own index ref (T k).2.1 (T k).2.2.1).before args s = true) (hsame : ∀ x, s.fieldFound? (T k).1 (T k).2.1 (T k).2.2.1 = some x → s.fieldFound? ref (T k).2.1 (T k).2.2.1 = some x) (hfin : (T k).2.2.2 = false) {ty : FieldType} {v : Value} (hd : parseFieldDescriptor (T k).2.2.1 = some ty) (hn : narrow ty v = v) (hfit : fits ty v = true) (hl : k < fs.length) (hset : ws.set k0 (a, .inr (ci, fs.set k v)) = ws')
    (hdg : decode cc pc = .ok (.putfield index, 3)) (kk : ∀ (H1 : Heap) (locs1 : List Loc), k_N X n ad L C fr ws' H1 → (∀ q ∈ locs1, k_B X ≤ q.base) → W p l e R s m args below meth c H1 locs1 cells slots Q (F0 m (pc + 3) ls rest)) : W p l e R s m args below meth c H locs cells slots Q (F0 m pc ls (v :: .ref a :: rest)) := by
  subst hset
  have hap := va_apart (own := own) hF (fun _ h => h) ty0 hty hnm hK.1 hc
  obtain ⟨r', h1, cell, q1, q2, q3, q4⟩ := hW.2.1 k0 _ he
  have hr : r' = (K, T, N) := Option.some.inj (h1.symm.trans hc)
  subst hr
  obtain ⟨hS, hfc, kC, hkC, hkind⟩ := hK.1.1 ci _ hc
  obtain ⟨cf, kf, fi, f, hi, hsl⟩ := hS k hk
  have hlay := hF _ (u_in_lay hk)
  unfold u_lay at hlay
  rw [if_neg (by rw [hfin]; decide)] at hlay
  have hst := (u_facts hfc hkC (u_lays hF (fun _ h => h) hk) hi).1
  have h6 := u_store hfc hkC hkind hlay hi hd hn hfit
  refine W.putK hexec hb (f := f) ⟨hown, hlink, ⟨_, _, _, hsame _ hi⟩, hst⟩ (by rw [q2]; exact h6) q1 q3 (by rw [hsl]; exact k2_hasslot (q4 k hk)) rfl rfl hdg fun H' e1 e2 e3 => ?_
  rw [hsl] at e1 ⊢
  refine kk H' _ (hW.set he e2 e3 ⟨_, hc, t_OB.to (V := updV (vp_V fs) k v) ⟨_, e1, q2, q3, t_set q4 hap hk _⟩ (fun j _ => vp_updV_set hl _ j)⟩) (fun q hq => ?_)
  rcases List.mem_append.mp hq with h | h
  · exact hL q h
  · rw [List.mem_singleton.mp h]
    exact (hW.2.2.2 k0 _ he).1
theorem k_nputF (hexec : p.tables.exec = Jvm.exec) (hb : c.code = cc) {own ref K : String} {T : u_T} {N ci index : Nat} (hF : ∀ w ∈ u_ws K T N, w.before args s = true) (ty0 : Nat → FieldType) (hty : ∀ k, k < N → parseFieldDescriptor (T k).2.2.1 = some (ty0 k)) (hnm : ∀ a, a < N → ∀ b, b < N → a ≠ b → (T a).2.1 ≠ (T b).2.1) (hown : s.vm.findClass own = some m.cls) (hK : k_S X s) (hW : k_N X n ad L C fr ws H) (hL : ∀ q ∈ locs, k_B X ≤ q.base) (k0 : Nat) {fs : List Value} (he : ws[k0]? = some (a, .inr (ci, fs))) (hc : vwCl[ci]? = some (K, T, N)) (k : Nat) (hk : k < N) (hlink : (Cond.fieldLink own index ref (T k).2.1 (T k).2.2.1).before args s = true) (hsame : ∀ x, s.fieldFound? (T k).1 (T k).2.1 (T k).2.2.1 = some x → s.fieldFound? ref (T k).2.1 (T k).2.2.1 = some x) (hfin : (T k).2.2.2 = true) (hin2 : meth.name = "<init>") (hdecl : (T k).1 = own) {ty : FieldType} {v : Value} (hd : parseFieldDescriptor (T k).2.2.1 = some ty) (hn : narrow ty v = v) (hfit : fits ty v = true) (hl : k < fs.length) (hset : ws.set k0 (a, .inr (ci, fs.set k v)) = ws')
    (hdg : decode cc pc = .ok (.putfield index, 3)) (kk : ∀ (H1 : Heap) (locs1 : List Loc), k_N X n ad L C fr ws' H1 → (∀ q ∈ locs1, k_B X ≤ q.base) → W p l e R s m args below meth c H1 locs1 cells slots Q (F0 m (pc + 3) ls rest)) : W p l e R s m args below meth c H locs cells slots Q (F0 m pc ls (v :: .ref a :: rest)) := by
  subst hset
  have hap := va_apart (own := own) hF (fun _ h => h) ty0 hty hnm hK.1 hc
  obtain ⟨r', h1, cell, q1, q2, q3, q4⟩ := hW.2.1 k0 _ he
  have hr : r' = (K, T, N) := Option.some.inj (h1.symm.trans hc)
  subst hr
  obtain ⟨hS, hfc, kC, hkC, hkind⟩ := hK.1.1 ci _ hc
  obtain ⟨cf, kf, fi, f, hi, hsl⟩ := hS k hk
  have hlay := hF _ (u_in_lay hk)
  unfold u_lay at hlay
  rw [if_pos hfin] at hlay
  have hst := (u_facts hfc hkC (u_lays hF (fun _ h => h) hk) hi).1
  have hcf : m.cls = cf := by
    obtain ⟨_, _, c', _, _, _, -, -, hf', -, -, -, hown2, -⟩ := Cond.laysFinal_spec hlay
    have e1 : c' = cf := by have := hi.symm.trans hf'; simp at this; exact this.1.symm
    rw [hdecl] at hown2
    rw [← e1]; exact Option.some.inj (hown.symm.trans hown2)
  have h6 := u_fits hfc hkC hkind (Or.inr hlay) hi hd hn hfit
  refine W.putFinK hexec hb hown hlink (hsame _ hi) hst hcf hin2 (by rw [q2]; exact h6) q1 q3 (by rw [hsl]; exact k2_hasslot (q4 k hk)) rfl rfl hdg fun H' e1 e2 e3 => ?_
  rw [hsl] at e1 ⊢
  refine kk H' _ (hW.set he e2 e3 ⟨_, hc, t_OB.to (V := updV (vp_V fs) k v) ⟨_, e1, q2, q3, t_set q4 hap hk _⟩ (fun j _ => vp_updV_set hl _ j)⟩) (fun q hq => ?_)
  rcases List.mem_append.mp hq with h | h
  · exact hL q h
  · rw [List.mem_singleton.mp h]
    exact (hW.2.2.2 k0 _ he).1
/-- a new array of ints, booleans or chars: t0 its type's place -/
theorem k_newa (hexec : p.tables.exec = Jvm.exec) (hb : c.code = cc) {atype : ArrayType} (harr : (Cond.arrayClass (newarray.typeOf atype)).before args s = true) (t0 : Nat) {cA0 : ClassId} (ht : (k_tys X)[t0]? = some (cA0, newarray.typeOf atype)) (hprim : ∀ cA, va_RA s cA (newarray.typeOf atype) → s.vm.findClass ("[" ++ (newarray.typeOf atype).toString) = some cA) (hK : k_S X s) (hW : k_N X n ad L C fr ws H)
    {z : Int32} {N' : Nat} {a0 : vp_A} (ha : vp_cell cA0 a0 = arrV cA0 N' (fun _ => defaultValue (newarray.typeOf atype))) (hn : ¬ z < 0) (hN : z.toNatClampNeg = N') (hbytes : N' * componentBytes (newarray.typeOf atype) ≤ 536870912) (hcells : cells + 1 ≤ R.cells) (hslots : slots + N' ≤ R.slots) (hdg : decode cc pc = .ok (.newarray atype, 2))
    (kk : ∀ (q : Nat) (H1 : Heap), k_N X n ad L C fr ((q, .inl (cA0, a0)) :: ws) H1 → W p l e R s m args below meth c H1 locs (cells + 1) (slots + N') Q (F0 m (pc + 2) ls (.ref q :: rest))) : W p l e R s m args below meth c H locs cells slots Q (F0 m pc ls (.int z :: rest)) := by
  refine va_newaK hexec hb harr rfl hdg rfl hn hN hbytes hcells hslots rfl fun H1 cA e1 z1 o1 hAr hNm => ?_
  have hcA : cA = cA0 := Option.some.inj (hNm.symm.trans (hprim _ (hK.1.2 t0 _ ht).2))
  subst hcA
  refine kk H.size H1 (hW.push z1 o1 ?_)
  show H1[H.size]? = some (vp_cell _ _)
  rw [ha]
  exact e1
/-- a new array of references -/
theorem k_newq (hexec : p.tables.exec = Jvm.exec) (hb : c.code = cc) {own K : String} {index : Nat} (hown : s.vm.findClass own = some m.cls) (hclink : (Cond.classLink own index K).before args s = true) (hover : va_AO K s) (t0 : Nat) {cA0 : ClassId} (ht : (k_tys X)[t0]? = some (cA0, .object K)) (hK : k_S X s) (hW : k_N X n ad L C fr ws H)
    {z : Int32} {N' : Nat} (hn : ¬ z < 0) (hN : z.toNatClampNeg = N') (hbytes : N' * 4 ≤ 536870912) (hcells : cells + 1 ≤ R.cells) (hslots : slots + N' ≤ R.slots) (hdg : decode cc pc = .ok (.anewarray index, 3))
    (kk : ∀ (q : Nat) (H1 : Heap), k_N X n ad L C fr ((q, .inl (cA0, N', .inr (.inr (.inr (.inr (fun _ => none)))))) :: ws) H1 → W p l e R s m args below meth c H1 locs (cells + 1) (slots + N') Q (F0 m (pc + 3) ls (.ref q :: rest))) : W p l e R s m args below meth c H locs cells slots Q (F0 m pc ls (.int z :: rest)) := by
  subst hN
  refine W.anew hexec hb hown hclink (va_AO.use hover) rfl hdg rfl hn hbytes hcells hslots fun cA kA comp f1 f2 f3 f4 => ?_
  obtain ⟨kA', comp', g1, g2, g3, g4⟩ := (hK.1.2 t0 _ ht).2
  have hcA : cA = cA0 := Option.some.inj (f1.symm.trans g4)
  subst hcA
  generalize hH1 : H.push ({ cls := cA, slots := Array.replicate z.toNatClampNeg .null, vm := .none } : Cell) = H1
  have z1 : H1.size = H.size + 1 := by rw [← hH1, Array.size_push]
  have e1 : H1[H.size]? = some (arrV cA z.toNatClampNeg (fun _ => .null)) := by rw [← hH1, Array.getElem?_push_size, ← arrV_new]
  have o1 : ∀ q : Nat, q < H.size → H1[q]? = H[q]? := fun q hq => by rw [← hH1, Array.getElem?_push, if_neg (Nat.ne_of_lt hq)]
  refine kk H.size H1 (hW.push z1 o1 ?_)
  show H1[H.size]? = some (vp_cell _ _)
  rw [vp_cell_q]
  exact e1
/-- ArrayList's empty array -/
theorem k_gets (hexec : p.tables.exec = Jvm.exec) (hb : c.code = cc) {own ref : String} {index : Nat} (hK : k_S X s) (hW : k_W X n ad L C fr H) (hown : s.vm.findClass own = some m.cls) (hlink : (Cond.fieldLink own index ref "DEFAULTCAPACITY_EMPTY_ELEMENTDATA" "[Ljava/lang/Object;").before args s = true) (hsame : ∀ x, s.fieldFound? "java/util/ArrayList" "DEFAULTCAPACITY_EMPTY_ELEMENTDATA" "[Ljava/lang/Object;" = some x → s.fieldFound? ref "DEFAULTCAPACITY_EMPTY_ELEMENTDATA" "[Ljava/lang/Object;" = some x) (hdg : decode cc pc = .ok (.getstatic index, 3))
    (kk : W p l e R s m args below meth c H locs cells slots Q (F0 m (pc + 3) ls (.ref X.2.2.2 :: rest))) : W p l e R s m args below meth c H locs cells slots Q (F0 m pc ls rest) := by
  obtain ⟨cf, kf, fi, f, a, cell, h1, h2, h3, h4, h5, h6, h7, h8⟩ := hK.2.2.2.2.1
  exact W.gets hexec hb hown hlink (hsame _ h1) h2 h3 h4 (by rw [hW.2.2.2.2.1.2 a (Array.getElem?_eq_some_iff.mp h5).1]; exact h5) (fun e => by rw [e] at h6; cases h6) h7 rfl hdg kk
/-- its length -/
theorem k_elen (hexec : p.tables.exec = Jvm.exec) (hb : c.code = cc) (hK : k_S X s) (hW : k_W X n ad L C fr H) (hdg : decode cc pc = .ok (.arraylength, 1))
    (kk : W p l e R s m args below meth c H locs cells slots Q (F0 m (pc + 1) ls (.int 0 :: rest))) : W p l e R s m args below meth c H locs cells slots Q (F0 m pc ls (.ref X.2.2.2 :: rest)) := by
  obtain ⟨cell, h1, h2, h3, h4, h5, h6, h7⟩ := hK.2.2.2.2.2.1
  exact W.alen (n := Int32.ofNat 0) hexec hb (by rw [hW.2.2.2.2.1.2 X.2.2.2 (Array.getElem?_eq_some_iff.mp h1).1]; exact h1) h2 h5 rfl rfl hdg kk
theorem k_niast (hexec : p.tables.exec = Jvm.exec) (hb : c.code = cc) (hK : k_S X s) (hW : k_N X n ad L C fr ws H) (hL : ∀ q ∈ locs, k_B X ≤ q.base) (k0 : Nat) {z : Nat} {f : Nat → Int32} (he : ws[k0]? = some (a, .inl (X.2.1 0, z, .inl f))) {x y : Int32} {k : Nat} (hk : x.toNatClampNeg = k) (hin : vp_in x z) (hset : ws.set k0 (a, .inl (X.2.1 0, z, .inl (upd f k y))) = ws') (hdg : decode cc pc = .ok (.iastore, 1))
    (kk : ∀ (H1 : Heap) (locs1 : List Loc), k_N X n ad L C fr ws' H1 → (∀ q ∈ locs1, k_B X ≤ q.base) → W p l e R s m args below meth c H1 locs1 cells slots Q (F0 m (pc + 1) ls rest)) : W p l e R s m args below meth c H locs cells slots Q (F0 m pc ls (.int y :: .int x :: .ref a :: rest)) := by
  subst hk
  subst hset
  have hA := hW.2.1 k0 _ he
  refine W.iast hexec hb hA ((hK.1.2 0 _ rfl).1 z (fun j => .int (f j))) (fun q => by cases q) (by show ¬ (x < 0 ∨ (arrV _ _ _).slots.size ≤ _); rw [arrV_size]; exact hin) rfl rfl hdg fun H1 e z oq => ?_
  refine kk H1 _ (hW.set he z oq ?_) (fun q hq => ?_)
  · show H1[_]? = some (vp_cell _ _)
    rw [e]
    rw [vp_cell_i, vp_cell_i, arrV_store]
    congr 2
    funext q
    by_cases hq : q = x.toNatClampNeg
    · subst hq
      simp [updV, upd]
    · simp [updV, upd, hq]
  · rcases List.mem_append.mp hq with h | h
    · exact hL q h
    · rw [List.mem_singleton.mp h]
      exact (hW.2.2.2 k0 _ he).1
/-- a constructor's call -/
theorem k_callI {y : MethodName} {bytes : ByteArray} {maxL nL mc ms n0 index : Nat} {ws0 : List Cond} {rm : Room} {P : Heap → Prop} {Po : Option Value → Heap → Prop} {Ts : List Cond} {own : String} {b : Addr} {As st0 : List Value}
    (S : CallFix p m c cc nL s args Ts own) (hK : k_S X s) (hM : k_M X l y ws0 rm (.ref b :: As) P Po mc ms) (cw : CallB R s args own index y bytes maxL none ws0 rm mc ms n0 ∧ y.name = "<init>" ∧ (Cond.instanceMethod y).before args s = true) (hP : P H)
    (hn : As.length = n0) (hsize : ls.size = nL) (hstack : st0 = As.reverse ++ .ref b :: rest) (hroom : (rest.map fun v => v.category).sum ≤ 8) (hdg : decode cc pc = .ok (.invokespecial index, 3)) (hf : cells + mc ≤ R.cells ∧ slots + ms ≤ R.slots) (hL : ∀ q ∈ locs, k_B X ≤ q.base)
    (kk : ∀ (v : Option Value) (H1 : Heap) (locs1 : List Loc), Po v H1 → (∀ q ∈ locs1, k_B X ≤ q.base) → W p l e R s m args below meth c H1 locs1 (cells + mc) (slots + ms) Q (F0 m (pc + 3) ls (v.toList ++ rest))) : W p l e R s m args below meth c H locs cells slots Q (F0 m pc ls st0) :=
  k_run (y := y) (ws := ws0) (rm := rm) (av := .ref b :: As) (P := P) (va_runI S hM cw ⟨k_blind X _ P, fun U hU hW => ⟨rfl, k_S.moved hW hK, by rw [hU]; exact hP⟩⟩ rfl hn hsize hstack (lv_room hroom) hdg hf) hL kk
theorem k_callIN {y : MethodName} {bytes : ByteArray} {maxL nL mc ms n0 index : Nat} {ws0 : List Cond} {rm : Room} {P : Heap → Prop} {Po : Option Value → Heap → Prop} {Ts : List Cond} {own host : String} {b : Addr} {As st0 : List Value}
    (S : CallFix p m c cc nL s args Ts own) (hK : k_S X s) (hM : k_M X l y ws0 rm (.ref b :: As) P Po mc ms) (cw : va_CN R s args own index y host bytes maxL none ws0 rm mc ms n0 ∧ y.name = "<init>" ∧ (Cond.instanceMethod y).before args s = true) (hP : P H)
    (hn : As.length = n0) (hsize : ls.size = nL) (hstack : st0 = As.reverse ++ .ref b :: rest) (hroom : (rest.map fun v => v.category).sum ≤ 8) (hdg : decode cc pc = .ok (.invokespecial index, 3)) (hf : cells + mc ≤ R.cells ∧ slots + ms ≤ R.slots) (hL : ∀ q ∈ locs, k_B X ≤ q.base)
    (kk : ∀ (v : Option Value) (H1 : Heap) (locs1 : List Loc), Po v H1 → (∀ q ∈ locs1, k_B X ≤ q.base) → W p l e R s m args below meth c H1 locs1 (cells + mc) (slots + ms) Q (F0 m (pc + 3) ls (v.toList ++ rest))) : W p l e R s m args below meth c H locs cells slots Q (F0 m pc ls st0) :=
  k_run (y := y) (ws := ws0) (rm := rm) (av := .ref b :: As) (P := P) (va_runIN S hM cw ⟨k_blind X _ P, fun U hU hW => ⟨rfl, k_S.moved hW hK, by rw [hU]; exact hP⟩⟩ rfl hn hsize hstack (lv_room hroom) hdg hf) hL kk
/-- an object of a class that the tables let stand in an Object[] -/
theorem k_anyO {C : String} {a : Nat} (hK : k_S X s) (hw : Cond.castable C "java/lang/Object" ∈ k_nw) (hr : ∃ cell : Cell, H[a]? = some cell ∧ cell.vm.isStatics = false ∧ s.vm.findClass C = some cell.cls) : va_Any "java/lang/Object" s H a := by
  obtain ⟨cell, h1, h2, h3⟩ := hr
  obtain ⟨c0, t0, f1, f2, f3⟩ := Cond.castable_spec (va_Nw.use (A := #[]) rfl (hK.nest hw))
  cases h3.symm.trans f1
  obtain ⟨kC, hkC, -⟩ := Vm.findClass_spec h3
  exact ⟨cell, h1, h2, ⟨kC, hkC⟩, fun comp h => by cases h.symm.trans f2; exact f3⟩
theorem k_anyP {k0 ci : Nat} {fs : List Value} {r : vw_C} (hK : k_S X s) (hW : k_N X n ad L C fr ws H) (he : ws[k0]? = some (a, .inr (ci, fs))) (hc : vwCl[ci]? = some r) (hw : Cond.castable r.1 "java/lang/Object" ∈ k_nw) : va_Any "java/lang/Object" s H a :=
  k_anyO hK hw (va_recv hK.1 hW.2.1 hc he)
theorem k_anyW {g r i ci : Nat} {fs : List Value} {q : vw_C} (hK : k_S X s) (hW : k_W X n ad L C fr H) (hv : k_v n g r i) (he : k_e X n ad L g r i (C g r i) = .inr (ci, fs)) (hc : vwCl[ci]? = some q) (hw : Cond.castable q.1 "java/lang/Object" ∈ k_nw) : va_Any "java/lang/Object" s H (ad g r i) := by
  refine k_anyO hK hw ?_
  have hA := hW.1 g r i hv
  rw [he] at hA
  obtain ⟨q', h1, cell, g1, g2, g3, -⟩ := hA
  have hq : q' = q := Option.some.inj (h1.symm.trans hc)
  subst hq
  exact ⟨cell, g1, by rw [g3]; rfl, by rw [g2]; exact (hK.1.1 ci q' hc).2.1⟩
/-- a reference put into a pending Object[] -/
theorem k_nastq (hexec : p.tables.exec = Jvm.exec) (hb : c.code = cc) (hK : k_S X s) (hW : k_N X n ad L C fr ws H) (hL : ∀ q ∈ locs, k_B X ≤ q.base) (k0 : Nat) {z v : Nat} {f : Nat → Option Nat} (ha : ws[k0]? = some (a, .inl (X.2.1 4, z, .inr (.inr (.inr (.inr f)))))) (hr : va_Any "java/lang/Object" s H v) {i : Int32} {k : Nat} (hk : i.toNatClampNeg = k) (hin : vp_in i z) (hset : ws.set k0 (a, .inl (X.2.1 4, z, .inr (.inr (.inr (.inr (va_up f k (some v))))))) = ws') (hdg : decode cc pc = .ok (.aastore, 1))
    (kk : ∀ (H1 : Heap) (locs1 : List Loc), k_N X n ad L C fr ws' H1 → (∀ q ∈ locs1, k_B X ≤ q.base) → W p l e R s m args below meth c H1 locs1 cells slots Q (F0 m (pc + 1) ls rest)) : W p l e R s m args below meth c H locs cells slots Q (F0 m pc ls (.ref v :: .int i :: .ref a :: rest)) := by
  subst hk
  subst hset
  have hlt : i.toNatClampNeg < z := Nat.not_le.mp fun q => hin (Or.inr q)
  obtain ⟨cellV, g1, g3, ⟨kC, hkC⟩, hasg⟩ := hr
  obtain ⟨kA, comp, k1, k2, k3, -⟩ := (hK.1.2 4 _ rfl).2
  obtain ⟨kE, hkE, -⟩ := Vm.findClass_spec k3
  refine W.aast hexec hb (hW.2.1 k0 _ ha) (fun q h => by cases h) (fun h => by cases h) k1 k2 rfl hkE ⟨fun q => hin (Or.inl q), by show _ < (arrV _ _ _).slots.size; rw [arrV_size]; exact hlt⟩ g1 (fun q h => by rw [h] at g3; cases g3) hkC (hasg _ k3) rfl rfl hdg fun H1 e z oq => ?_
  refine kk H1 _ (hW.set ha z oq ?_) (fun q hq => ?_)
  · show H1[a]? = some (vp_cell _ _)
    rw [e]
    rw [vp_cell_q, vp_cell_q, arrV_store]
    congr 2
    funext q
    by_cases hq : q = i.toNatClampNeg
    · subst hq
      simp [updV, va_up, va_rf]
    · simp [updV, va_up, hq]
  · rcases List.mem_append.mp hq with h | h
    · exact hL q h
    · rw [List.mem_singleton.mp h]
      exact (hW.2.2.2 k0 _ ha).1
end KPEND
