/-! methods that may throw -/
/-- a contract: called with av in a world P, it returns as Po says, or throws an exception of the class E as Px says -/
def k_X (X : kX) (l : Launch) (y : MethodName) (ws : List Cond) (rm : Room) (av : List Value) (P : Heap → Prop) (Po : Option Value → Heap → Prop) (Px : String → Heap → Prop) (mc ms : Nat) : Prop :=
  vx_Met l y ws rm (va_Pc av (fun U => k_S X U ∧ P U.heap)) (k_Q Po) (fun E _ t => Px E t.heap) mc ms (fun q => k_B X ≤ q)
abbrev k_XQ (X : kX) (below : List Frame) (Po : Option Value → Heap → Prop) (Px : String → Heap → Prop) (args : Array Value) (s : State) (mc ms : Nat) : State → Prop := vx_MQ below (k_Q Po) (fun E _ t => Px E t.heap) args s mc ms (fun q => k_B X ≤ q)
theorem k_X.of {X : kX} {l : Launch} {y : MethodName} {ws ws' : List Cond} {rm : Room} {av : List Value} {P : Heap → Prop} {Po : Option Value → Heap → Prop} {Px : String → Heap → Prop} {mc ms : Nat} {cc : ByteArray} {maxL : Nat} {ret : Option FieldType}
    (hy : plainName y.cls = true) (hw : ws = Cond.code y cc maxL ret :: ws') (hav : (lg_sl av).length ≤ maxL)
    (body : ∀ (p : Program) (e : Env) (s : State) (m : MethodId) (args : Array Value) (below : List Frame) (meth : Method) (c : Code) (ls : Array Slot), p.tables.exec = Jvm.exec → c.code = cc → meth.sig.returnType = ret → c.maxLocals = maxL → s.vm.findClass y.cls = some m.cls → (∀ w ∈ ws, w.before args s = true) → meth.locks = false → meth.name = y.name → (∀ x ∈ c.exceptionTable.toList, False) → k_S X s → P s.heap → lv_has ls maxL (lv_args 0 av) →
      W p l e rm s m args below meth c s.heap [] 0 0 (k_XQ X below Po Px args s mc ms) (F0 m 0 ls [])) : k_X X l y ws rm av P Po Px mc ms := by
  refine vx_ofW (cc := cc) (maxL := maxL) (ret := ret) hy hw ?_
  intro p e s m args below meth c s₁ B hml ht hv
  obtain ⟨rfl, hK, hP⟩ := hv
  have hl := lv_entry av (n := maxL) hav
  rw [lg_entry_eq]
  exact body p e s m _ below meth c _ B.exec B.bytes B.returns hml (findClass_of_methodNamed B.named) (atoms_spec (ws := ws) B.pre) B.notSynchronized (name_of_methodNamed B.named B.method).1 ht hK hP hl
section KEXC
variable {p : Program} {l : Launch} {e : Env} {R : Room} {s : State} {m : MethodId} {args : Array Value} {below : List Frame} {meth : Method} {c : Code} {H : Heap} {locs : List Loc} {cells slots : Nat} {Q : State → Prop}
variable {cc : ByteArray} {pc : Nat} {ls : Array Slot} {rest : List Value} {X : kX} {n : Nat → Nat → Nat} {ad L : Nat → Nat → Nat → Nat} {C : Nat → Nat → Nat → Nat → Int32} {fr : Nat → Option Cell} {g : Nat} {D : Nat → Nat → Nat → Int32}
/-- a call of a method that may throw: both ways -/
theorem k_runW {mc ms : Nat} {av : List Value} {Po : Option Value → Heap → Prop} {Px : String → Heap → Prop} {st0 : List Value}
    (hr : vx_Run p l e R s m args below meth c H locs cells slots mc ms (F0 m pc ls st0) rest (k_Q Po av.toArray) (fun E _ t => Px E t.heap) (fun q => k_B X ≤ q)) (hL : ∀ q ∈ locs, k_B X ≤ q.base)
    (kx : ∀ (E : String) (ce : Cell) (q : Addr) (H1 : Heap) (locs1 : List Loc), Px E H1 → (∀ q ∈ locs1, k_B X ≤ q.base) → H1[q]? = some ce → ce.vm = .none → s.vm.findClass E = some ce.cls → vx_W p l e R s m args below meth c H1 locs1 (cells + mc) (slots + ms) Q (F0 m pc ls rest) q)
    (kk : ∀ (v : Option Value) (H1 : Heap) (locs1 : List Loc), Po v H1 → (∀ q ∈ locs1, k_B X ≤ q.base) → W p l e R s m args below meth c H1 locs1 (cells + mc) (slots + ms) Q (F0 m (pc + 3) ls (v.toList ++ rest))) : W p l e R s m args below meth c H locs cells slots Q (F0 m pc ls st0) := by
  intro T hT X'
  have hl9 : ∀ L' : List Loc, (∀ q ∈ L', k_B X ≤ q.base) → ∀ q ∈ locs ++ L', k_B X ≤ q.base := fun L' hL' q hq => by
    rcases List.mem_append.mp hq with h | h
    · exact hL q h
    · exact hL' q h
  rcases hr T hT X' with ⟨v, st₀, t, T', L', h0, X2, hL', e1, e2, ⟨v', hv, hp⟩, st⟩ | ⟨q, st₀, t, T', L', E, ce, h0, X2, hL', e1, e2, hp, hce, hcv, hcl, st⟩
  · cases hv
    obtain ⟨t2, a1, b1⟩ := kk v T'.heap (locs ++ L') (by rw [e1]; exact hp) (hl9 L' hL') T' rfl X2
    exact ⟨t2, st t2 a1, b1⟩
  · obtain ⟨t2, a1, b1⟩ := kx E ce q T'.heap (locs ++ L') (by rw [e1]; exact hp) (hl9 L' hL') (by rw [e1]; exact hce) hcv hcl T' rfl X2
    exact ⟨t2, st.trans a1, b1⟩
theorem k_outX {Po : Option Value → Heap → Prop} {Px : String → Heap → Prop} {E : String} {ce : Cell} {q : Addr} {mc ms : Nat} (ht : ∀ x ∈ c.exceptionTable.toList, False) (hlocks : meth.locks = false) (hcell : H[q]? = some ce) (hv : ce.vm = .none) (hcl : s.vm.findClass E = some ce.cls)
    (hx : Px E H) (hL : ∀ q ∈ locs, k_B X ≤ q.base) (hc : cells ≤ mc) (hs : slots ≤ ms) : vx_W p l e R s m args below meth c H locs cells slots (k_XQ X below Po Px args s mc ms) (F0 m pc ls rest) q :=
  vx_out (fun x h => (ht x h).elim) hlocks hcell hv hcl (fun t ht _ => by show Px E t.heap; rw [ht]; exact hx) hL hc hs
theorem kx_callV {y : MethodName} {bytes : ByteArray} {maxL nL mc ms n0 index : Nat} {ret : Option FieldType} {ws : List Cond} {rm : Room} {P : Heap → Prop} {Po : Option Value → Heap → Prop} {Px : String → Heap → Prop} {Ts : List Cond} {own K : String} {b : Addr} {As st0 : List Value}
    (S : CallFix p m c cc nL s args Ts own) (hK : k_S X s) (hM : k_X X l y ws rm (.ref b :: As) P Po Px mc ms) (cw : CallW R s args own K index y bytes maxL ret ws rm mc ms n0) (hrec : ∃ cellB : Cell, H[b]? = some cellB ∧ cellB.vm.isStatics = false ∧ s.vm.findClass K = some cellB.cls) (hP : P H)
    (hn : As.length = n0) (hsize : ls.size = nL) (hstack : st0 = As.reverse ++ .ref b :: rest) (hroom : (rest.map fun v => v.category).sum ≤ 8) (hdg : decode cc pc = .ok (.invokevirtual index, 3)) (hf : cells + mc ≤ R.cells ∧ slots + ms ≤ R.slots) (hL : ∀ q ∈ locs, k_B X ≤ q.base)
    (kx : ∀ (E : String) (ce : Cell) (q : Addr) (H1 : Heap) (locs1 : List Loc), Px E H1 → (∀ q ∈ locs1, k_B X ≤ q.base) → H1[q]? = some ce → ce.vm = .none → s.vm.findClass E = some ce.cls → vx_W p l e R s m args below meth c H1 locs1 (cells + mc) (slots + ms) Q (F0 m pc ls rest) q)
    (kk : ∀ (v : Option Value) (H1 : Heap) (locs1 : List Loc), Po v H1 → (∀ q ∈ locs1, k_B X ≤ q.base) → W p l e R s m args below meth c H1 locs1 (cells + mc) (slots + ms) Q (F0 m (pc + 3) ls (v.toList ++ rest))) : W p l e R s m args below meth c H locs cells slots Q (F0 m pc ls st0) :=
  k_runW (av := .ref b :: As) (vx_runV S hM cw ⟨k_blind X _ P, hrec, fun U hU hW => ⟨rfl, k_S.moved hW hK, by rw [hU]; exact hP⟩⟩ rfl hn hsize hstack (lv_room hroom) hdg hf) hL kx kk
theorem kx_callS {y : MethodName} {bytes : ByteArray} {maxL nL mc ms n0 index : Nat} {ret : Option FieldType} {ws : List Cond} {rm : Room} {P : Heap → Prop} {Po : Option Value → Heap → Prop} {Px : String → Heap → Prop} {Ts : List Cond} {own : String} {As st0 : List Value}
    (S : CallFix p m c cc nL s args Ts own) (hK : k_S X s) (hM : k_X X l y ws rm As P Po Px mc ms) (cw : CallB R s args own index y bytes maxL ret ws rm mc ms n0 ∧ (Cond.static y).before args s = true) (hP : P H)
    (hn : As.length = n0) (hsize : ls.size = nL) (hstack : st0 = As.reverse ++ rest) (hroom : (rest.map fun v => v.category).sum ≤ 8) (hdg : decode cc pc = .ok (.invokestatic index, 3)) (hf : cells + mc ≤ R.cells ∧ slots + ms ≤ R.slots) (hL : ∀ q ∈ locs, k_B X ≤ q.base)
    (kx : ∀ (E : String) (ce : Cell) (q : Addr) (H1 : Heap) (locs1 : List Loc), Px E H1 → (∀ q ∈ locs1, k_B X ≤ q.base) → H1[q]? = some ce → ce.vm = .none → s.vm.findClass E = some ce.cls → vx_W p l e R s m args below meth c H1 locs1 (cells + mc) (slots + ms) Q (F0 m pc ls rest) q)
    (kk : ∀ (v : Option Value) (H1 : Heap) (locs1 : List Loc), Po v H1 → (∀ q ∈ locs1, k_B X ≤ q.base) → W p l e R s m args below meth c H1 locs1 (cells + mc) (slots + ms) Q (F0 m (pc + 3) ls (v.toList ++ rest))) : W p l e R s m args below meth c H locs cells slots Q (F0 m pc ls st0) :=
  k_runW (av := As) (vx_runS S hM cw ⟨k_blind X _ P, fun U hU hW => ⟨rfl, k_S.moved hW hK, by rw [hU]; exact hP⟩⟩ rfl hn hsize hstack (lv_room hroom) hdg hf) hL kx kk
/-- 'throw new E("text")' -/
theorem k_throw {Po : Option Value → Heap → Prop} {Px : String → Heap → Prop} (hexec : p.tables.exec = Jvm.exec) (hb : c.code = cc) (hl9 : l.stackTraces = false) {own cls text : String} {ik is ic mc ms : Nat} (i9 : Nat)
    (hown : s.vm.findClass own = some m.cls) (hcls : Bundle.fit cls = true) (hK : k_S X s) (hstr : k_str[i9]? = some (own, is, text))
    (hk : (Cond.classLink own ik cls).before args s = true) (hini : (Cond.initialized cls).before args s = true)
    (hat : ∀ w ∈ (vx_atS own ic cls ["java/lang/RuntimeException", "java/lang/Exception"]).filter goodWord, w.before args s = true)
    (hbad : ∀ w ∈ (vx_atS own ic cls ["java/lang/RuntimeException", "java/lang/Exception"]).filter (fun w => !goodWord w), w ∈ k_nw)
    (hgood : ∀ w ∈ Cond.classLink own ik cls :: Cond.initialized cls :: vx_atS own ic cls ["java/lang/RuntimeException", "java/lang/Exception"], vx_ot w = true)
    {n0 : Nat → Nat → Nat} {ad0 L0 : Nat → Nat → Nat → Nat} {C0 : Nat → Nat → Nat → Nat → Int32} {fr0 : Nat → Option Cell} (hW0 : k_W X n0 ad0 L0 C0 fr0 s.heap) (hW : k_W X n ad L C fr H) (hL : ∀ q ∈ locs, k_B X ≤ q.base) (hsize : ls.size = c.maxLocals)
    (d0 : decode cc pc = .ok (.new ik, 3)) (d3 : decode cc (pc + 3) = .ok (.dup, 1)) (d4 : decode cc (pc + 4) = .ok (.ldc is, 2)) (d6 : decode cc (pc + 6) = .ok (.invokespecial ic, 3)) (d9 : decode cc (pc + 9) = .ok (.athrow, 1))
    (ht : ∀ x ∈ c.exceptionTable.toList, False)
    (hRframes : 5 < R.frames) (hRlocals : (rest.map fun v => v.category).sum + 82 ≤ R.locals) (hRcells : cells + 1 ≤ R.cells) (hRslots : slots + 6 ≤ R.slots) (hlocks : meth.locks = false)
    (hx : ∀ H1, k_W X n ad L C fr H1 → Px cls H1) (hc : cells + 1 ≤ mc) (hs : slots + 6 ≤ ms) :
    W p l e R s m args below meth c H locs cells slots (k_XQ X below Po Px args s mc ms) (F0 m pc ls rest) := by
  intro T hT Y
  obtain ⟨sa, hsa⟩ := hK.2.1.2.2 _ (List.mem_of_getElem? hstr)
  have hz : s.heap.size ≤ H.size := by
    obtain ⟨-, h2, -⟩ := Y.same
    rw [← hT]
    exact h2
  have hkept : ∀ (Z : String) (d : String), vx_Zq Bundle.tN Z d (fun q => k_B X ≤ q) s (k_H0 X) → vx_Zq Bundle.tN Z d (fun q => k_B X ≤ q) s s.heap := fun Z d h => h.kept fun a ha hn => hW0.2.2.2.2.1.2 a (Nat.not_le.mp hn)
  refine vx_throwS (A := fun q => k_B X ≤ q) (names := ["java/lang/RuntimeException", "java/lang/Exception"]) (ik := ik) (is := is) (ic := ic) (text := text) (sa := sa) hexec hb hl9 hown hcls (by decide +kernel) hk hini hsa (vx_hat (B := k_nw) hat hbad (fun w hw => va_Nw.use ?_ (hK.2.1.1 w hw))) hgood (hkept _ _ hK.2.2.2.2.2.2.2.2.1) (hkept _ _ hK.2.2.2.2.2.2.2.2.2) ⟨hz, fun q hq hn => ?_, hL⟩ hsize d0 d3 d4 d6 d9 (fun x h => (ht x h).elim) hRframes (by simpa using hRlocals) hRcells hRslots hlocks (fun t _ h1 h2 => hx t.heap (hW.off h1 (fun q hq _ => h2 q hq))) hL hc hs T hT Y
  · exact (by decide +kernel : ∀ w ∈ k_nw, w.onTables = true) w hw
  · have hb1 := Nat.not_le.mp hn
    rw [hW.2.2.2.2.1.2 q hb1, hW0.2.2.2.2.1.2 q hb1]
theorem k_throwN {Po : Option Value → Heap → Prop} {Px : String → Heap → Prop} (hexec : p.tables.exec = Jvm.exec) (hb : c.code = cc) (hl9 : l.stackTraces = false) {own cls text : String} {ik is ic mc ms : Nat} (i9 : Nat)
    (hown : s.vm.findClass own = some m.cls) (hcls : Bundle.fit cls = true) (hK : k_S X s) (hstr : k_str[i9]? = some (own, is, text))
    (hk : (Cond.classLink own ik cls).before args s = true) (hini : (Cond.initialized cls).before args s = true)
    (hat : ∀ w ∈ (vx_atSN own ic cls ["java/lang/RuntimeException", "java/lang/Exception"]).filter goodWord, w.before args s = true)
    (hbad : ∀ w ∈ (vx_atSN own ic cls ["java/lang/RuntimeException", "java/lang/Exception"]).filter (fun w => !goodWord w), w ∈ k_nw)
    (hgood : ∀ w ∈ Cond.classLink own ik cls :: Cond.initialized cls :: vx_atSN own ic cls ["java/lang/RuntimeException", "java/lang/Exception"], vx_ot w = true)
    {n0 : Nat → Nat → Nat} {ad0 L0 : Nat → Nat → Nat → Nat} {C0 : Nat → Nat → Nat → Nat → Int32} {fr0 : Nat → Option Cell} (hW0 : k_W X n0 ad0 L0 C0 fr0 s.heap) (hW : k_W X n ad L C fr H) (hL : ∀ q ∈ locs, k_B X ≤ q.base) (hsize : ls.size = c.maxLocals)
    (d0 : decode cc pc = .ok (.new ik, 3)) (d3 : decode cc (pc + 3) = .ok (.dup, 1)) (d4 : decode cc (pc + 4) = .ok (.ldc is, 2)) (d6 : decode cc (pc + 6) = .ok (.invokespecial ic, 3)) (d9 : decode cc (pc + 9) = .ok (.athrow, 1))
    (ht : ∀ x ∈ c.exceptionTable.toList, False)
    (hRframes : 5 < R.frames) (hRlocals : (rest.map fun v => v.category).sum + 82 ≤ R.locals) (hRcells : cells + 1 ≤ R.cells) (hRslots : slots + 6 ≤ R.slots) (hlocks : meth.locks = false)
    (hx : ∀ H1, k_W X n ad L C fr H1 → Px cls H1) (hc : cells + 1 ≤ mc) (hs : slots + 6 ≤ ms) :
    W p l e R s m args below meth c H locs cells slots (k_XQ X below Po Px args s mc ms) (F0 m pc ls rest) := by
  intro T hT Y
  obtain ⟨sa, hsa⟩ := hK.2.1.2.2 _ (List.mem_of_getElem? hstr)
  have hz : s.heap.size ≤ H.size := by
    obtain ⟨-, h2, -⟩ := Y.same
    rw [← hT]
    exact h2
  have hkept : ∀ (Z : String) (d : String), vx_Zq Bundle.tN Z d (fun q => k_B X ≤ q) s (k_H0 X) → vx_Zq Bundle.tN Z d (fun q => k_B X ≤ q) s s.heap := fun Z d h => h.kept fun a ha hn => hW0.2.2.2.2.1.2 a (Nat.not_le.mp hn)
  refine vx_throwSN (A := fun q => k_B X ≤ q) (names := ["java/lang/RuntimeException", "java/lang/Exception"]) (ik := ik) (is := is) (ic := ic) (text := text) (sa := sa) hexec hb hl9 hown hcls (by decide +kernel) hk hini hsa (vx_hat (B := k_nw) hat hbad (fun w hw => va_Nw.use ?_ (hK.2.1.1 w hw))) hgood (hkept _ _ hK.2.2.2.2.2.2.2.2.1) (hkept _ _ hK.2.2.2.2.2.2.2.2.2) ⟨hz, fun q hq hn => ?_, hL⟩ hsize d0 d3 d4 d6 d9 (fun x h => (ht x h).elim) hRframes (by simpa using hRlocals) hRcells hRslots hlocks (fun t _ h1 h2 => hx t.heap (hW.off h1 (fun q hq _ => h2 q hq))) hL hc hs T hT Y
  · exact (by decide +kernel : ∀ w ∈ k_nw, w.onTables = true) w hw
  · have hb1 := Nat.not_le.mp hn
    rw [hW.2.2.2.2.1.2 q hb1, hW0.2.2.2.2.1.2 q hb1]
end KEXC
theorem k_one0 {x : Int32} (h : x = 1) : ¬ x = 0 := by rw [h]; decide
theorem k_vin {x : Int32} {n : Nat} (h0 : ¬ x < 0) (h : x < nI n) (hn : n < 2 ^ 31) : vp_in x n := by
  rintro (q | q)
  · exact h0 q
  · have h1 := Int32.lt_iff_toInt_lt.mp h
    rw [nI_toInt hn] at h1
    have h2 : ¬ x.toInt < 0 := fun z => h0 (Int32.lt_iff_toInt_lt.mpr z)
    have h3 : x.toNatClampNeg = x.toInt.toNat := rfl
    omega
theorem k_vout {x : Int32} {n : Nat} (h : ¬ vp_in x n) : x < 0 ∨ n ≤ x.toNatClampNeg := Classical.byContradiction h
theorem ha_X0_existingLorry_38 : ∀ w ∈ (vx_atS RX0 38 "java/lang/IndexOutOfBoundsException" ["java/lang/RuntimeException", "java/lang/Exception"]).filter goodWord, w ∈ wsX0_existingLorry := fun _ h => List.mem_cons_of_mem _ (List.mem_append_right _ h)
theorem bad_RX0_38 : ∀ w ∈ (vx_atS RX0 38 "java/lang/IndexOutOfBoundsException" ["java/lang/RuntimeException", "java/lang/Exception"]).filter (fun w => !goodWord w), w ∈ k_nw := by decide +kernel
theorem og_RX0_34_38 : ∀ w ∈ Cond.classLink RX0 34 "java/lang/IndexOutOfBoundsException" :: Cond.initialized "java/lang/IndexOutOfBoundsException" :: vx_atS RX0 38 "java/lang/IndexOutOfBoundsException" ["java/lang/RuntimeException", "java/lang/Exception"], vx_ot w = true := by decide +kernel
set_option maxHeartbeats 400000 in
set_option maxRecDepth 100000 in
theorem c_X0_existingLorry_x (X : kX) (l : Launch) {n : Nat → Nat → Nat} {ad L : Nat → Nat → Nat → Nat} {C : Nat → Nat → Nat → Nat → Int32} {fr : Nat → Option Cell} {g : Nat} {nl nt ng : Nat} (hd : kDk n g nl nt ng) (D : KD) (x : Int32) (hl9 : l.stackTraces = false) : k_X X l yX0_existingLorry wsX0_existingLorry ({ frames := 6, cells := 1, slots := 6, locals := 90 }) [.ref (ad g 0 0), .int x] (k_W X n ad L (k_g C g D) fr) (fun v H => vp_in x nl ∧ v = some (.ref (ad g 4 x.toNatClampNeg)) ∧ k_W X n ad L (k_g C g D) fr H) (fun E H => E = "java/lang/IndexOutOfBoundsException" ∧ ¬ vp_in x nl ∧ k_W X n ad L (k_g C g D) fr H) 1 6 := by
  refine k_X.of (cc := cX0_existingLorry) (maxL := 2) (ret := (some (.object "Crossdockery$Lorry"))) (by decide) rfl (Nat.le_of_ble_eq_true rfl) ?_
  intro p e s m args below meth c ls hx hb hr hml hown hts hlocks hnm ht hK hW hl
  have hW0 := hW
  have hL : ∀ q ∈ ([] : List Loc), k_B X ≤ q.base := fun _ h => nomatch h
  have hl : lv_has ls 2 [(0, .ref (ad g 0 0)), (1, .int x)] := hl
  have fX0 : ∀ w ∈ u_ws RX0 TX0 5, w.before args s = true := fun w h => hts w ((by decide +kernel : ∀ w ∈ u_ws RX0 TX0 5, w ∈ wsX0_existingLorry) w h)
  have hl8 := hd.l8
  have ht16 := hd.t16
  have hg4 := hd.g4
  by_cases hin : vp_in x nl
  ·
    obtain ⟨j, h_j, rfl⟩ := vp_in_of hin (by omega)
    refine lv_iload_n hx hb dX0_existingLorry_0 rfl (lv_at hl 1 rfl) ?_
    refine lv_if_lt (tgt := 15) hx hb dX0_existingLorry_1 (by decide) (fun c1 => ?_) (fun c1 => ?_)
    ·
      exact absurd c1 (nI_pos (by omega))
    ·
      refine lv_iload_n hx hb dX0_existingLorry_4 rfl (lv_at hl 1 rfl) ?_
      refine lv_aload_n hx hb dX0_existingLorry_5 rfl (lv_at hl 0 rfl) ?_
      refine k_get (K := RX0) (T := TX0) (N := 5) (v := .ref (ad g 1 0)) (w := .ref (ad g 1 0)) hx hb fX0 hown hK hW 0 0 hd.o (fun _ => rfl) rfl 0 (by decide) (hts (.fieldLink RX0 12 "Crossdockery$Dock" "lorries" "Ljava/util/ArrayList;") (by decide +kernel)) rfl rfl rfl dX0_existingLorry_6 ?_
      refine k_callV (As := []) (rest := [.int (nI j)]) ⟨hx, hb, hml, hown, hts⟩ hK (c_size0 X l hd) (cwV 0 hts gX0_existingLorry_Jx4a65c_size_8abf5 rfl rfl rfl (by decide +kernel) ⟨Nat.le_of_ble_eq_true rfl, Nat.le_of_ble_eq_true rfl⟩) (k_recv hK hW 1 0 (hd.li (by decide)) (fun _ => rfl) rfl) hW rfl hl.1 rfl (Nat.le_of_ble_eq_true rfl) dX0_existingLorry_9 ⟨Nat.le_of_ble_eq_true rfl, Nat.le_of_ble_eq_true rfl⟩ hL (fun v9 H locs hp hL => ?_)
      obtain ⟨rfl, hW⟩ := hp
      refine lv_icmp_lt (tgt := 25) hx hb dX0_existingLorry_12 (by decide) (fun c2 => ?_) (fun c2 => ?_)
      ·
        refine lv_aload_n hx hb dX0_existingLorry_25 rfl (lv_at hl 0 rfl) ?_
        refine k_get (K := RX0) (T := TX0) (N := 5) (v := .ref (ad g 1 0)) (w := .ref (ad g 1 0)) hx hb fX0 hown hK hW 0 0 hd.o (fun _ => rfl) rfl 0 (by decide) (hts (.fieldLink RX0 12 "Crossdockery$Dock" "lorries" "Ljava/util/ArrayList;") (by decide +kernel)) rfl rfl rfl dX0_existingLorry_26 ?_
        refine lv_iload_n hx hb dX0_existingLorry_29 rfl (lv_at hl 1 rfl) ?_
        refine k_callV (As := [.int (nI j)]) (rest := []) ⟨hx, hb, hml, hown, hts⟩ hK (c_get0 X l hd hW.cap (j := j) (by omega)) (cwV 1 hts gX0_existingLorry_Jx4a65c_get_915e3 rfl rfl rfl (by decide +kernel) ⟨Nat.le_of_ble_eq_true rfl, Nat.le_of_ble_eq_true rfl⟩) (k_recv hK hW 1 0 (hd.li (by decide)) (fun _ => rfl) rfl) hW rfl hl.1 rfl (Nat.le_of_ble_eq_true rfl) dX0_existingLorry_30 ⟨Nat.le_of_ble_eq_true rfl, Nat.le_of_ble_eq_true rfl⟩ hL (fun v9 H locs hp hL => ?_)
        obtain ⟨rfl, hW⟩ := hp
        refine k_cast' (K := RX3) (nm := RX3) hx hb hown (hts (.classLink RX0 24 RX3) (by decide +kernel)) hK (List.mem_of_getElem? (i := 4) rfl) (k_recv hK hW 4 j (hd.lo (show j < nl by omega)) (fun _ => rfl) rfl) dX0_existingLorry_33 ?_
        refine k_more (cells' := 1) (slots' := 6) (Nat.le_of_ble_eq_true rfl) (Nat.le_of_ble_eq_true rfl) (vx_ret ?_)
        exact k_aret (v := some (ad g 4 j)) hx hb hr hlocks (⟨hin, by rw [nI_clamp (by omega)]; rfl, hW⟩) hL dX0_existingLorry_36
      ·
        exact absurd ((nI_ltI (by omega) (by omega)).mpr h_j) c2
  ·
    refine lv_iload_n hx hb dX0_existingLorry_0 rfl (lv_at hl 1 rfl) ?_
    refine lv_if_lt (tgt := 15) hx hb dX0_existingLorry_1 (by decide) (fun c3 => ?_) (fun c3 => ?_)
    ·
      exact k_throw (own := RX0) (cls := "java/lang/IndexOutOfBoundsException") (text := "no such lorry") (ik := 34) (is := 36) (ic := 38) hx hb hl9 19 hown (by decide +kernel) hK rfl (hts (.classLink RX0 34 "java/lang/IndexOutOfBoundsException") (by decide +kernel)) (hts (.initialized "java/lang/IndexOutOfBoundsException") (by decide +kernel)) (fun w hw => hts w (ha_X0_existingLorry_38 w hw)) bad_RX0_38 og_RX0_34_38 hW0 hW hL (hl.1.trans hml.symm) dX0_existingLorry_15 dX0_existingLorry_18 dX0_existingLorry_19 dX0_existingLorry_21 dX0_existingLorry_24 ht (Nat.le_of_ble_eq_true rfl) (Nat.le_of_ble_eq_true rfl) (Nat.le_of_ble_eq_true rfl) (Nat.le_of_ble_eq_true rfl) hlocks (fun H1 hW => ⟨rfl, hin, hW⟩) (Nat.le_of_ble_eq_true rfl) (Nat.le_of_ble_eq_true rfl)
    ·
      refine lv_iload_n hx hb dX0_existingLorry_4 rfl (lv_at hl 1 rfl) ?_
      refine lv_aload_n hx hb dX0_existingLorry_5 rfl (lv_at hl 0 rfl) ?_
      refine k_get (K := RX0) (T := TX0) (N := 5) (v := .ref (ad g 1 0)) (w := .ref (ad g 1 0)) hx hb fX0 hown hK hW 0 0 hd.o (fun _ => rfl) rfl 0 (by decide) (hts (.fieldLink RX0 12 "Crossdockery$Dock" "lorries" "Ljava/util/ArrayList;") (by decide +kernel)) rfl rfl rfl dX0_existingLorry_6 ?_
      refine k_callV (As := []) (rest := [.int x]) ⟨hx, hb, hml, hown, hts⟩ hK (c_size0 X l hd) (cwV 0 hts gX0_existingLorry_Jx4a65c_size_8abf5 rfl rfl rfl (by decide +kernel) ⟨Nat.le_of_ble_eq_true rfl, Nat.le_of_ble_eq_true rfl⟩) (k_recv hK hW 1 0 (hd.li (by decide)) (fun _ => rfl) rfl) hW rfl hl.1 rfl (Nat.le_of_ble_eq_true rfl) dX0_existingLorry_9 ⟨Nat.le_of_ble_eq_true rfl, Nat.le_of_ble_eq_true rfl⟩ hL (fun v9 H locs hp hL => ?_)
      obtain ⟨rfl, hW⟩ := hp
      refine lv_icmp_lt (tgt := 25) hx hb dX0_existingLorry_12 (by decide) (fun c4 => ?_) (fun c4 => ?_)
      ·
        exact absurd (k_vin c3 c4 (by omega)) hin
      ·
        exact k_throw (own := RX0) (cls := "java/lang/IndexOutOfBoundsException") (text := "no such lorry") (ik := 34) (is := 36) (ic := 38) hx hb hl9 19 hown (by decide +kernel) hK rfl (hts (.classLink RX0 34 "java/lang/IndexOutOfBoundsException") (by decide +kernel)) (hts (.initialized "java/lang/IndexOutOfBoundsException") (by decide +kernel)) (fun w hw => hts w (ha_X0_existingLorry_38 w hw)) bad_RX0_38 og_RX0_34_38 hW0 hW hL (hl.1.trans hml.symm) dX0_existingLorry_15 dX0_existingLorry_18 dX0_existingLorry_19 dX0_existingLorry_21 dX0_existingLorry_24 ht (Nat.le_of_ble_eq_true rfl) (Nat.le_of_ble_eq_true rfl) (Nat.le_of_ble_eq_true rfl) (Nat.le_of_ble_eq_true rfl) hlocks (fun H1 hW => ⟨rfl, hin, hW⟩) (Nat.le_of_ble_eq_true rfl) (Nat.le_of_ble_eq_true rfl)
theorem ha_X0_existingTransfer_38 : ∀ w ∈ (vx_atS RX0 38 "java/lang/IndexOutOfBoundsException" ["java/lang/RuntimeException", "java/lang/Exception"]).filter goodWord, w ∈ wsX0_existingTransfer := fun _ h => List.mem_cons_of_mem _ (List.mem_append_right _ h)
set_option maxHeartbeats 400000 in
set_option maxRecDepth 100000 in
theorem c_X0_existingTransfer_x (X : kX) (l : Launch) {n : Nat → Nat → Nat} {ad L : Nat → Nat → Nat → Nat} {C : Nat → Nat → Nat → Nat → Int32} {fr : Nat → Option Cell} {g : Nat} {nl nt ng : Nat} (hd : kDk n g nl nt ng) (D : KD) (x : Int32) (hl9 : l.stackTraces = false) : k_X X l yX0_existingTransfer wsX0_existingTransfer ({ frames := 6, cells := 1, slots := 6, locals := 90 }) [.ref (ad g 0 0), .int x] (k_W X n ad L (k_g C g D) fr) (fun v H => vp_in x nt ∧ v = some (.ref (ad g 5 x.toNatClampNeg)) ∧ k_W X n ad L (k_g C g D) fr H) (fun E H => E = "java/lang/IndexOutOfBoundsException" ∧ ¬ vp_in x nt ∧ k_W X n ad L (k_g C g D) fr H) 1 6 := by
  refine k_X.of (cc := cX0_existingTransfer) (maxL := 2) (ret := (some (.object "Crossdockery$Transfer"))) (by decide) rfl (Nat.le_of_ble_eq_true rfl) ?_
  intro p e s m args below meth c ls hx hb hr hml hown hts hlocks hnm ht hK hW hl
  have hW0 := hW
  have hL : ∀ q ∈ ([] : List Loc), k_B X ≤ q.base := fun _ h => nomatch h
  have hl : lv_has ls 2 [(0, .ref (ad g 0 0)), (1, .int x)] := hl
  have fX0 : ∀ w ∈ u_ws RX0 TX0 5, w.before args s = true := fun w h => hts w ((by decide +kernel : ∀ w ∈ u_ws RX0 TX0 5, w ∈ wsX0_existingTransfer) w h)
  have hl8 := hd.l8
  have ht16 := hd.t16
  have hg4 := hd.g4
  by_cases hin : vp_in x nt
  ·
    obtain ⟨j, h_j, rfl⟩ := vp_in_of hin (by omega)
    refine lv_iload_n hx hb dX0_existingTransfer_0 rfl (lv_at hl 1 rfl) ?_
    refine lv_if_lt (tgt := 15) hx hb dX0_existingTransfer_1 (by decide) (fun c1 => ?_) (fun c1 => ?_)
    ·
      exact absurd c1 (nI_pos (by omega))
    ·
      refine lv_iload_n hx hb dX0_existingTransfer_4 rfl (lv_at hl 1 rfl) ?_
      refine lv_aload_n hx hb dX0_existingTransfer_5 rfl (lv_at hl 0 rfl) ?_
      refine k_get (K := RX0) (T := TX0) (N := 5) (v := .ref (ad g 1 1)) (w := .ref (ad g 1 1)) hx hb fX0 hown hK hW 0 0 hd.o (fun _ => rfl) rfl 1 (by decide) (hts (.fieldLink RX0 18 "Crossdockery$Dock" "transfers" "Ljava/util/ArrayList;") (by decide +kernel)) rfl rfl rfl dX0_existingTransfer_6 ?_
      refine k_callV (As := []) (rest := [.int (nI j)]) ⟨hx, hb, hml, hown, hts⟩ hK (c_size1 X l hd) (cwV 0 hts gX0_existingTransfer_Jx4a65c_size_8abf5 rfl rfl rfl (by decide +kernel) ⟨Nat.le_of_ble_eq_true rfl, Nat.le_of_ble_eq_true rfl⟩) (k_recv hK hW 1 1 (hd.li (by decide)) (fun _ => rfl) rfl) hW rfl hl.1 rfl (Nat.le_of_ble_eq_true rfl) dX0_existingTransfer_9 ⟨Nat.le_of_ble_eq_true rfl, Nat.le_of_ble_eq_true rfl⟩ hL (fun v9 H locs hp hL => ?_)
      obtain ⟨rfl, hW⟩ := hp
      refine lv_icmp_lt (tgt := 25) hx hb dX0_existingTransfer_12 (by decide) (fun c2 => ?_) (fun c2 => ?_)
      ·
        refine lv_aload_n hx hb dX0_existingTransfer_25 rfl (lv_at hl 0 rfl) ?_
        refine k_get (K := RX0) (T := TX0) (N := 5) (v := .ref (ad g 1 1)) (w := .ref (ad g 1 1)) hx hb fX0 hown hK hW 0 0 hd.o (fun _ => rfl) rfl 1 (by decide) (hts (.fieldLink RX0 18 "Crossdockery$Dock" "transfers" "Ljava/util/ArrayList;") (by decide +kernel)) rfl rfl rfl dX0_existingTransfer_26 ?_
        refine lv_iload_n hx hb dX0_existingTransfer_29 rfl (lv_at hl 1 rfl) ?_
        refine k_callV (As := [.int (nI j)]) (rest := []) ⟨hx, hb, hml, hown, hts⟩ hK (c_get1 X l hd hW.cap (j := j) (by omega)) (cwV 1 hts gX0_existingTransfer_Jx4a65c_get_915e3 rfl rfl rfl (by decide +kernel) ⟨Nat.le_of_ble_eq_true rfl, Nat.le_of_ble_eq_true rfl⟩) (k_recv hK hW 1 1 (hd.li (by decide)) (fun _ => rfl) rfl) hW rfl hl.1 rfl (Nat.le_of_ble_eq_true rfl) dX0_existingTransfer_30 ⟨Nat.le_of_ble_eq_true rfl, Nat.le_of_ble_eq_true rfl⟩ hL (fun v9 H locs hp hL => ?_)
        obtain ⟨rfl, hW⟩ := hp
        refine k_cast' (K := RX5) (nm := RX5) hx hb hown (hts (.classLink RX0 47 RX5) (by decide +kernel)) hK (List.mem_of_getElem? (i := 5) rfl) (k_recv hK hW 5 j (hd.tr (show j < nt by omega)) (fun _ => rfl) rfl) dX0_existingTransfer_33 ?_
        refine k_more (cells' := 1) (slots' := 6) (Nat.le_of_ble_eq_true rfl) (Nat.le_of_ble_eq_true rfl) (vx_ret ?_)
        exact k_aret (v := some (ad g 5 j)) hx hb hr hlocks (⟨hin, by rw [nI_clamp (by omega)]; rfl, hW⟩) hL dX0_existingTransfer_36
      ·
        exact absurd ((nI_ltI (by omega) (by omega)).mpr h_j) c2
  ·
    refine lv_iload_n hx hb dX0_existingTransfer_0 rfl (lv_at hl 1 rfl) ?_
    refine lv_if_lt (tgt := 15) hx hb dX0_existingTransfer_1 (by decide) (fun c3 => ?_) (fun c3 => ?_)
    ·
      exact k_throw (own := RX0) (cls := "java/lang/IndexOutOfBoundsException") (text := "no such transfer") (ik := 34) (is := 45) (ic := 38) hx hb hl9 20 hown (by decide +kernel) hK rfl (hts (.classLink RX0 34 "java/lang/IndexOutOfBoundsException") (by decide +kernel)) (hts (.initialized "java/lang/IndexOutOfBoundsException") (by decide +kernel)) (fun w hw => hts w (ha_X0_existingTransfer_38 w hw)) bad_RX0_38 og_RX0_34_38 hW0 hW hL (hl.1.trans hml.symm) dX0_existingTransfer_15 dX0_existingTransfer_18 dX0_existingTransfer_19 dX0_existingTransfer_21 dX0_existingTransfer_24 ht (Nat.le_of_ble_eq_true rfl) (Nat.le_of_ble_eq_true rfl) (Nat.le_of_ble_eq_true rfl) (Nat.le_of_ble_eq_true rfl) hlocks (fun H1 hW => ⟨rfl, hin, hW⟩) (Nat.le_of_ble_eq_true rfl) (Nat.le_of_ble_eq_true rfl)
    ·
      refine lv_iload_n hx hb dX0_existingTransfer_4 rfl (lv_at hl 1 rfl) ?_
      refine lv_aload_n hx hb dX0_existingTransfer_5 rfl (lv_at hl 0 rfl) ?_
      refine k_get (K := RX0) (T := TX0) (N := 5) (v := .ref (ad g 1 1)) (w := .ref (ad g 1 1)) hx hb fX0 hown hK hW 0 0 hd.o (fun _ => rfl) rfl 1 (by decide) (hts (.fieldLink RX0 18 "Crossdockery$Dock" "transfers" "Ljava/util/ArrayList;") (by decide +kernel)) rfl rfl rfl dX0_existingTransfer_6 ?_
      refine k_callV (As := []) (rest := [.int x]) ⟨hx, hb, hml, hown, hts⟩ hK (c_size1 X l hd) (cwV 0 hts gX0_existingTransfer_Jx4a65c_size_8abf5 rfl rfl rfl (by decide +kernel) ⟨Nat.le_of_ble_eq_true rfl, Nat.le_of_ble_eq_true rfl⟩) (k_recv hK hW 1 1 (hd.li (by decide)) (fun _ => rfl) rfl) hW rfl hl.1 rfl (Nat.le_of_ble_eq_true rfl) dX0_existingTransfer_9 ⟨Nat.le_of_ble_eq_true rfl, Nat.le_of_ble_eq_true rfl⟩ hL (fun v9 H locs hp hL => ?_)
      obtain ⟨rfl, hW⟩ := hp
      refine lv_icmp_lt (tgt := 25) hx hb dX0_existingTransfer_12 (by decide) (fun c4 => ?_) (fun c4 => ?_)
      ·
        exact absurd (k_vin c3 c4 (by omega)) hin
      ·
        exact k_throw (own := RX0) (cls := "java/lang/IndexOutOfBoundsException") (text := "no such transfer") (ik := 34) (is := 45) (ic := 38) hx hb hl9 20 hown (by decide +kernel) hK rfl (hts (.classLink RX0 34 "java/lang/IndexOutOfBoundsException") (by decide +kernel)) (hts (.initialized "java/lang/IndexOutOfBoundsException") (by decide +kernel)) (fun w hw => hts w (ha_X0_existingTransfer_38 w hw)) bad_RX0_38 og_RX0_34_38 hW0 hW hL (hl.1.trans hml.symm) dX0_existingTransfer_15 dX0_existingTransfer_18 dX0_existingTransfer_19 dX0_existingTransfer_21 dX0_existingTransfer_24 ht (Nat.le_of_ble_eq_true rfl) (Nat.le_of_ble_eq_true rfl) (Nat.le_of_ble_eq_true rfl) (Nat.le_of_ble_eq_true rfl) hlocks (fun H1 hW => ⟨rfl, hin, hW⟩) (Nat.le_of_ble_eq_true rfl) (Nat.le_of_ble_eq_true rfl)
theorem ha_X0_existingGang_38 : ∀ w ∈ (vx_atS RX0 38 "java/lang/IndexOutOfBoundsException" ["java/lang/RuntimeException", "java/lang/Exception"]).filter goodWord, w ∈ wsX0_existingGang := fun _ h => List.mem_cons_of_mem _ (List.mem_append_right _ h)
set_option maxHeartbeats 400000 in
set_option maxRecDepth 100000 in
theorem c_X0_existingGang_x (X : kX) (l : Launch) {n : Nat → Nat → Nat} {ad L : Nat → Nat → Nat → Nat} {C : Nat → Nat → Nat → Nat → Int32} {fr : Nat → Option Cell} {g : Nat} {nl nt ng : Nat} (hd : kDk n g nl nt ng) (D : KD) (x : Int32) (hl9 : l.stackTraces = false) : k_X X l yX0_existingGang wsX0_existingGang ({ frames := 6, cells := 1, slots := 6, locals := 90 }) [.ref (ad g 0 0), .int x] (k_W X n ad L (k_g C g D) fr) (fun v H => vp_in x ng ∧ v = some (.ref (ad g 6 x.toNatClampNeg)) ∧ k_W X n ad L (k_g C g D) fr H) (fun E H => E = "java/lang/IndexOutOfBoundsException" ∧ ¬ vp_in x ng ∧ k_W X n ad L (k_g C g D) fr H) 1 6 := by
  refine k_X.of (cc := cX0_existingGang) (maxL := 2) (ret := (some (.object "Crossdockery$Gang"))) (by decide) rfl (Nat.le_of_ble_eq_true rfl) ?_
  intro p e s m args below meth c ls hx hb hr hml hown hts hlocks hnm ht hK hW hl
  have hW0 := hW
  have hL : ∀ q ∈ ([] : List Loc), k_B X ≤ q.base := fun _ h => nomatch h
  have hl : lv_has ls 2 [(0, .ref (ad g 0 0)), (1, .int x)] := hl
  have fX0 : ∀ w ∈ u_ws RX0 TX0 5, w.before args s = true := fun w h => hts w ((by decide +kernel : ∀ w ∈ u_ws RX0 TX0 5, w ∈ wsX0_existingGang) w h)
  have hl8 := hd.l8
  have ht16 := hd.t16
  have hg4 := hd.g4
  by_cases hin : vp_in x ng
  ·
    obtain ⟨j, h_j, rfl⟩ := vp_in_of hin (by omega)
    refine lv_iload_n hx hb dX0_existingGang_0 rfl (lv_at hl 1 rfl) ?_
    refine lv_if_lt (tgt := 15) hx hb dX0_existingGang_1 (by decide) (fun c1 => ?_) (fun c1 => ?_)
    ·
      exact absurd c1 (nI_pos (by omega))
    ·
      refine lv_iload_n hx hb dX0_existingGang_4 rfl (lv_at hl 1 rfl) ?_
      refine lv_aload_n hx hb dX0_existingGang_5 rfl (lv_at hl 0 rfl) ?_
      refine k_get (K := RX0) (T := TX0) (N := 5) (v := .ref (ad g 1 2)) (w := .ref (ad g 1 2)) hx hb fX0 hown hK hW 0 0 hd.o (fun _ => rfl) rfl 2 (by decide) (hts (.fieldLink RX0 21 "Crossdockery$Dock" "gangs" "Ljava/util/ArrayList;") (by decide +kernel)) rfl rfl rfl dX0_existingGang_6 ?_
      refine k_callV (As := []) (rest := [.int (nI j)]) ⟨hx, hb, hml, hown, hts⟩ hK (c_size2 X l hd) (cwV 0 hts gX0_existingGang_Jx4a65c_size_8abf5 rfl rfl rfl (by decide +kernel) ⟨Nat.le_of_ble_eq_true rfl, Nat.le_of_ble_eq_true rfl⟩) (k_recv hK hW 1 2 (hd.li (by decide)) (fun _ => rfl) rfl) hW rfl hl.1 rfl (Nat.le_of_ble_eq_true rfl) dX0_existingGang_9 ⟨Nat.le_of_ble_eq_true rfl, Nat.le_of_ble_eq_true rfl⟩ hL (fun v9 H locs hp hL => ?_)
      obtain ⟨rfl, hW⟩ := hp
      refine lv_icmp_lt (tgt := 25) hx hb dX0_existingGang_12 (by decide) (fun c2 => ?_) (fun c2 => ?_)
      ·
        refine lv_aload_n hx hb dX0_existingGang_25 rfl (lv_at hl 0 rfl) ?_
        refine k_get (K := RX0) (T := TX0) (N := 5) (v := .ref (ad g 1 2)) (w := .ref (ad g 1 2)) hx hb fX0 hown hK hW 0 0 hd.o (fun _ => rfl) rfl 2 (by decide) (hts (.fieldLink RX0 21 "Crossdockery$Dock" "gangs" "Ljava/util/ArrayList;") (by decide +kernel)) rfl rfl rfl dX0_existingGang_26 ?_
        refine lv_iload_n hx hb dX0_existingGang_29 rfl (lv_at hl 1 rfl) ?_
        refine k_callV (As := [.int (nI j)]) (rest := []) ⟨hx, hb, hml, hown, hts⟩ hK (c_get2 X l hd hW.cap (j := j) (by omega)) (cwV 1 hts gX0_existingGang_Jx4a65c_get_915e3 rfl rfl rfl (by decide +kernel) ⟨Nat.le_of_ble_eq_true rfl, Nat.le_of_ble_eq_true rfl⟩) (k_recv hK hW 1 2 (hd.li (by decide)) (fun _ => rfl) rfl) hW rfl hl.1 rfl (Nat.le_of_ble_eq_true rfl) dX0_existingGang_30 ⟨Nat.le_of_ble_eq_true rfl, Nat.le_of_ble_eq_true rfl⟩ hL (fun v9 H locs hp hL => ?_)
        obtain ⟨rfl, hW⟩ := hp
        refine k_cast' (K := RX2) (nm := RX2) hx hb hown (hts (.classLink RX0 51 RX2) (by decide +kernel)) hK (List.mem_of_getElem? (i := 6) rfl) (k_recv hK hW 6 j (hd.ga (show j < ng by omega)) (fun _ => rfl) rfl) dX0_existingGang_33 ?_
        refine k_more (cells' := 1) (slots' := 6) (Nat.le_of_ble_eq_true rfl) (Nat.le_of_ble_eq_true rfl) (vx_ret ?_)
        exact k_aret (v := some (ad g 6 j)) hx hb hr hlocks (⟨hin, by rw [nI_clamp (by omega)]; rfl, hW⟩) hL dX0_existingGang_36
      ·
        exact absurd ((nI_ltI (by omega) (by omega)).mpr h_j) c2
  ·
    refine lv_iload_n hx hb dX0_existingGang_0 rfl (lv_at hl 1 rfl) ?_
    refine lv_if_lt (tgt := 15) hx hb dX0_existingGang_1 (by decide) (fun c3 => ?_) (fun c3 => ?_)
    ·
      exact k_throw (own := RX0) (cls := "java/lang/IndexOutOfBoundsException") (text := "no such gang") (ik := 34) (is := 49) (ic := 38) hx hb hl9 21 hown (by decide +kernel) hK rfl (hts (.classLink RX0 34 "java/lang/IndexOutOfBoundsException") (by decide +kernel)) (hts (.initialized "java/lang/IndexOutOfBoundsException") (by decide +kernel)) (fun w hw => hts w (ha_X0_existingGang_38 w hw)) bad_RX0_38 og_RX0_34_38 hW0 hW hL (hl.1.trans hml.symm) dX0_existingGang_15 dX0_existingGang_18 dX0_existingGang_19 dX0_existingGang_21 dX0_existingGang_24 ht (Nat.le_of_ble_eq_true rfl) (Nat.le_of_ble_eq_true rfl) (Nat.le_of_ble_eq_true rfl) (Nat.le_of_ble_eq_true rfl) hlocks (fun H1 hW => ⟨rfl, hin, hW⟩) (Nat.le_of_ble_eq_true rfl) (Nat.le_of_ble_eq_true rfl)
    ·
      refine lv_iload_n hx hb dX0_existingGang_4 rfl (lv_at hl 1 rfl) ?_
      refine lv_aload_n hx hb dX0_existingGang_5 rfl (lv_at hl 0 rfl) ?_
      refine k_get (K := RX0) (T := TX0) (N := 5) (v := .ref (ad g 1 2)) (w := .ref (ad g 1 2)) hx hb fX0 hown hK hW 0 0 hd.o (fun _ => rfl) rfl 2 (by decide) (hts (.fieldLink RX0 21 "Crossdockery$Dock" "gangs" "Ljava/util/ArrayList;") (by decide +kernel)) rfl rfl rfl dX0_existingGang_6 ?_
      refine k_callV (As := []) (rest := [.int x]) ⟨hx, hb, hml, hown, hts⟩ hK (c_size2 X l hd) (cwV 0 hts gX0_existingGang_Jx4a65c_size_8abf5 rfl rfl rfl (by decide +kernel) ⟨Nat.le_of_ble_eq_true rfl, Nat.le_of_ble_eq_true rfl⟩) (k_recv hK hW 1 2 (hd.li (by decide)) (fun _ => rfl) rfl) hW rfl hl.1 rfl (Nat.le_of_ble_eq_true rfl) dX0_existingGang_9 ⟨Nat.le_of_ble_eq_true rfl, Nat.le_of_ble_eq_true rfl⟩ hL (fun v9 H locs hp hL => ?_)
      obtain ⟨rfl, hW⟩ := hp
      refine lv_icmp_lt (tgt := 25) hx hb dX0_existingGang_12 (by decide) (fun c4 => ?_) (fun c4 => ?_)
      ·
        exact absurd (k_vin c3 c4 (by omega)) hin
      ·
        exact k_throw (own := RX0) (cls := "java/lang/IndexOutOfBoundsException") (text := "no such gang") (ik := 34) (is := 49) (ic := 38) hx hb hl9 21 hown (by decide +kernel) hK rfl (hts (.classLink RX0 34 "java/lang/IndexOutOfBoundsException") (by decide +kernel)) (hts (.initialized "java/lang/IndexOutOfBoundsException") (by decide +kernel)) (fun w hw => hts w (ha_X0_existingGang_38 w hw)) bad_RX0_38 og_RX0_34_38 hW0 hW hL (hl.1.trans hml.symm) dX0_existingGang_15 dX0_existingGang_18 dX0_existingGang_19 dX0_existingGang_21 dX0_existingGang_24 ht (Nat.le_of_ble_eq_true rfl) (Nat.le_of_ble_eq_true rfl) (Nat.le_of_ble_eq_true rfl) (Nat.le_of_ble_eq_true rfl) hlocks (fun H1 hW => ⟨rfl, hin, hW⟩) (Nat.le_of_ble_eq_true rfl) (Nat.le_of_ble_eq_true rfl)
def s_X6_isWithin (x : Int32) (lo : Int32) (hi : Int32) : Int32 := (if x < lo then 0 else (if x > hi then 0 else 1))
set_option maxHeartbeats 4000000 in
set_option maxRecDepth 100000 in
theorem c_X6_isWithin (X : kX) (l : Launch) (P0 : Heap → Prop) (x lo hi : Int32) : k_M X l yX6_isWithin wsX6_isWithin ({ frames := 1, cells := 0, slots := 0, locals := 12 }) [.int x, .int lo, .int hi] (P0) (fun v H => v = some (.int (s_X6_isWithin x lo hi)) ∧ P0 H) 0 0 := by
  refine k_M.of (cc := cX6_isWithin) (maxL := 3) (ret := (some .boolean)) (by decide) rfl (Nat.le_of_ble_eq_true rfl) ?_
  intro p e s m args below meth c ls hx hb hr hml hown hts hlocks hnm hK hW hl
  have hL : ∀ q ∈ ([] : List Loc), k_B X ≤ q.base := fun _ h => nomatch h
  have hl : lv_has ls 3 [(0, .int x), (1, .int lo), (2, .int hi)] := hl
  refine lv_iload_n hx hb dX6_isWithin_0 rfl (lv_at hl 0 rfl) ?_
  refine lv_iload_n hx hb dX6_isWithin_1 rfl (lv_at hl 1 rfl) ?_
  refine lv_icmp_lt (tgt := 14) hx hb dX6_isWithin_2 (by decide) (fun c1 => ?_) (fun c1 => ?_)
  ·
    refine lv_iconst (v := 0) hx hb dX6_isWithin_14 (by decide) ?_
    have e9 : (s_X6_isWithin x lo hi) = 0 := by unfold s_X6_isWithin; first | done | (simp only [if_pos c1]; done) | rfl
    exact k_zret hx hb hr (by decide) hlocks (⟨by rw [e9], hW⟩) hL dX6_isWithin_15
  ·
    refine lv_iload_n hx hb dX6_isWithin_5 rfl (lv_at hl 0 rfl) ?_
    refine lv_iload_n hx hb dX6_isWithin_6 rfl (lv_at hl 2 rfl) ?_
    refine lv_icmp_gt (tgt := 14) hx hb dX6_isWithin_7 (by decide) (fun c2 => ?_) (fun c2 => ?_)
    ·
      refine lv_iconst (v := 0) hx hb dX6_isWithin_14 (by decide) ?_
      have e9 : (s_X6_isWithin x lo hi) = 0 := by unfold s_X6_isWithin; first | done | (simp only [if_neg c1, if_pos c2]; done) | rfl
      exact k_zret hx hb hr (by decide) hlocks (⟨by rw [e9], hW⟩) hL dX6_isWithin_15
    ·
      refine lv_iconst (v := 1) hx hb dX6_isWithin_10 (by decide) ?_
      refine lv_goto (tgt := 15) hx hb dX6_isWithin_11 (by decide) ?_
      have e9 : (s_X6_isWithin x lo hi) = 1 := by unfold s_X6_isWithin; first | done | (simp only [if_neg c1, if_neg c2]; done) | rfl
      exact k_zret hx hb hr (by decide) hlocks (⟨by rw [e9], hW⟩) hL dX6_isWithin_15
def s_x_requireDoor (d : Int32) : Int32 := if s_X6_isWithin d 0 3 = 0 then 1 else 0
theorem ha_X6_requireDoor_246 : ∀ w ∈ (vx_atS RX6 246 "java/lang/IndexOutOfBoundsException" ["java/lang/RuntimeException", "java/lang/Exception"]).filter goodWord, w ∈ wsX6_requireDoor := fun _ h => List.mem_cons_of_mem _ (List.mem_append_right _ h)
theorem bad_RX6_246 : ∀ w ∈ (vx_atS RX6 246 "java/lang/IndexOutOfBoundsException" ["java/lang/RuntimeException", "java/lang/Exception"]).filter (fun w => !goodWord w), w ∈ k_nw := by decide +kernel
theorem og_RX6_242_246 : ∀ w ∈ Cond.classLink RX6 242 "java/lang/IndexOutOfBoundsException" :: Cond.initialized "java/lang/IndexOutOfBoundsException" :: vx_atS RX6 246 "java/lang/IndexOutOfBoundsException" ["java/lang/RuntimeException", "java/lang/Exception"], vx_ot w = true := by decide +kernel
set_option maxHeartbeats 400000 in
set_option maxRecDepth 100000 in
theorem c_X6_requireDoor (X : kX) (l : Launch) {n : Nat → Nat → Nat} {ad L : Nat → Nat → Nat → Nat} {C : Nat → Nat → Nat → Nat → Int32} {fr : Nat → Option Cell} {g : Nat} (D : KD) (d : Int32) (hl9 : l.stackTraces = false) : k_X X l yX6_requireDoor wsX6_requireDoor ({ frames := 6, cells := 1, slots := 6, locals := 90 }) [.int d] (k_W X n ad L (k_g C g D) fr) (fun v H => s_x_requireDoor d = 0 ∧ v = none ∧ k_W X n ad L (k_g C g D) fr H) (fun E H => E = "java/lang/IndexOutOfBoundsException" ∧ s_x_requireDoor d = 1 ∧ k_W X n ad L (k_g C g D) fr H) 1 6 := by
  refine k_X.of (cc := cX6_requireDoor) (maxL := 1) (ret := none) (by decide) rfl (Nat.le_of_ble_eq_true rfl) ?_
  intro p e s m args below meth c ls hx hb hr hml hown hts hlocks hnm ht hK hW hl
  have hW0 := hW
  have hL : ∀ q ∈ ([] : List Loc), k_B X ≤ q.base := fun _ h => nomatch h
  have hl : lv_has ls 1 [(0, .int d)] := hl
  refine lv_iload_n hx hb dX6_requireDoor_0 rfl (lv_at hl 0 rfl) ?_
  refine lv_iconst (v := 0) hx hb dX6_requireDoor_1 (by decide) ?_
  refine lv_iconst (v := 3) hx hb dX6_requireDoor_2 (by decide) ?_
  refine k_callS (As := [.int d, .int 0, .int 3]) (rest := []) ⟨hx, hb, hml, hown, hts⟩ hK (c_X6_isWithin X l (k_W X n ad L (k_g C g D) fr) d 0 3) (va_cwS 3 hts gX6_requireDoor_X6_isWithin rfl rfl rfl (by decide +kernel) ⟨Nat.le_of_ble_eq_true rfl, Nat.le_of_ble_eq_true rfl⟩) hW rfl hl.1 rfl (Nat.le_of_ble_eq_true rfl) dX6_requireDoor_3 ⟨Nat.le_of_ble_eq_true rfl, Nat.le_of_ble_eq_true rfl⟩ hL (fun v9 H locs hp hL => ?_)
  obtain ⟨rfl, hW⟩ := hp
  refine lv_if_ne (tgt := 19) hx hb dX6_requireDoor_6 (by decide) (fun c1 => ?_) (fun c1 => ?_)
  ·
    refine k_more (cells' := 1) (slots' := 6) (Nat.le_of_ble_eq_true rfl) (Nat.le_of_ble_eq_true rfl) (vx_ret ?_)
    exact k_vret hx hb hr hlocks (⟨(by unfold s_x_requireDoor; first | rfl | (simp only [if_neg c1]; done) | (simp only [if_neg c1]; rfl)), rfl, hW⟩) hL dX6_requireDoor_19
  ·
    exact k_throw (own := RX6) (cls := "java/lang/IndexOutOfBoundsException") (text := "no such door") (ik := 242) (is := 244) (ic := 246) hx hb hl9 9 hown (by decide +kernel) hK rfl (hts (.classLink RX6 242 "java/lang/IndexOutOfBoundsException") (by decide +kernel)) (hts (.initialized "java/lang/IndexOutOfBoundsException") (by decide +kernel)) (fun w hw => hts w (ha_X6_requireDoor_246 w hw)) bad_RX6_246 og_RX6_242_246 hW0 hW hL (hl.1.trans hml.symm) dX6_requireDoor_9 dX6_requireDoor_12 dX6_requireDoor_13 dX6_requireDoor_15 dX6_requireDoor_18 ht (Nat.le_of_ble_eq_true rfl) (Nat.le_of_ble_eq_true rfl) (Nat.le_of_ble_eq_true rfl) (Nat.le_of_ble_eq_true rfl) hlocks (fun H1 hW => ⟨rfl, (by unfold s_x_requireDoor; first | rfl | (simp only [if_pos c1]; done) | (simp only [if_pos c1]; rfl)), hW⟩) (Nat.le_of_ble_eq_true rfl) (Nat.le_of_ble_eq_true rfl)
