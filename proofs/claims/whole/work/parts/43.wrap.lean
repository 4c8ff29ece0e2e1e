theorem dL_bestDoor_7 : decode cL_bestDoor 7 = .ok (.i2l, 1) := by decide +kernel
theorem dL_bestDoor_8 : decode cL_bestDoor 8 = .ok (.lastore, 1) := by decide +kernel
theorem dL_bestDoor_9 : decode cL_bestDoor 9 = .ok (.goto 9, 3) := by decide +kernel
theorem dL_bestDoor_12 : decode cL_bestDoor 12 = .ok (.astore_n 3, 1) := by decide +kernel
theorem dL_bestDoor_13 : decode cL_bestDoor 13 = .ok (.iconst 1, 1) := by decide +kernel
theorem dL_bestDoor_14 : decode cL_bestDoor 14 = .ok (.ireturn, 1) := by decide +kernel
theorem dL_bestDoor_15 : decode cL_bestDoor 15 = .ok (.astore_n 3, 1) := by decide +kernel
theorem dL_bestDoor_16 : decode cL_bestDoor 16 = .ok (.iconst 2, 1) := by decide +kernel
theorem dL_bestDoor_17 : decode cL_bestDoor 17 = .ok (.ireturn, 1) := by decide +kernel
theorem dL_bestDoor_18 : decode cL_bestDoor 18 = .ok (.iconst 0, 1) := by decide +kernel
theorem dL_bestDoor_19 : decode cL_bestDoor 19 = .ok (.ireturn, 1) := by decide +kernel
/-! the law's own methods: they call the class, and tell its exceptions apart -/
theorem k_XH.of {X : kX} {l : Launch} {y : MethodName} {ws ws' : List Cond} {rm : Room} {av : List Value} {P : Heap → Prop} {Po : Option Value → Heap → Prop} {Px : String → Heap → Prop} {mc ms : Nat} {cc : ByteArray} {maxL : Nat} {ret : Option FieldType} {hh : List (Nat × Nat × Nat × Nat)}
    (hy : plainName y.cls = true) (hw : ws = Cond.codeWith y cc maxL ret hh :: ws') (hav : (lg_sl av).length ≤ maxL)
    (body : ∀ (p : Program) (e : Env) (s : State) (m : MethodId) (args : Array Value) (below : List Frame) (meth : Method) (c : Code) (ls : Array Slot), p.tables.exec = Jvm.exec → c.code = cc → meth.sig.returnType = ret → c.maxLocals = maxL → s.vm.findClass y.cls = some m.cls → (∀ w ∈ ws, w.before args s = true) → meth.locks = false → meth.name = y.name → c.exceptionTable.toList = tableOf hh → k_S X s → P s.heap → lv_has ls maxL (lv_args 0 av) →
      W p l e rm s m args below meth c s.heap [] 0 0 (k_XQ X below Po Px args s mc ms) (F0 m 0 ls [])) : k_X X l y ws rm av P Po Px mc ms := by
  refine vx_ofWH (cc := cc) (maxL := maxL) (ret := ret) (hh := hh) hy hw ?_
  intro p e s m args below meth c s₁ B hml hv
  obtain ⟨rfl, hK, hP⟩ := hv
  have hl := lv_entry av (n := maxL) hav
  rw [lg_entry_eq]
  have hts := atoms_spec (ws := ws) B.pre
  exact body p e s m _ below meth c _ B.exec B.bytes B.returns hml (findClass_of_methodNamed B.named) hts B.notSynchronized (name_of_methodNamed B.named B.method).1 (vx_table (x := y) B (hts _ (by rw [hw]; exact List.mem_cons_self))) hK hP hl
section KWRAP
variable {p : Program} {l : Launch} {e : Env} {R : Room} {s : State} {m : MethodId} {args : Array Value} {below : List Frame} {meth : Method} {c : Code} {H : Heap} {locs : List Loc} {cells slots : Nat} {Q : State → Prop}
variable {cc : ByteArray} {pc : Nat} {ls : Array Slot} {rest : List Value} {X : kX} {n : Nat → Nat → Nat} {ad L : Nat → Nat → Nat → Nat} {C : Nat → Nat → Nat → Nat → Int32} {fr : Nat → Option Cell} {ws ws' : va_W} {a : Nat}
theorem k_nlast (hexec : p.tables.exec = Jvm.exec) (hb : c.code = cc) (hK : k_S X s) (hW : k_N X n ad L C fr ws H) (hL : ∀ q ∈ locs, k_B X ≤ q.base) (k0 : Nat) {z : Nat} {f : Nat → Int64} (he : ws[k0]? = some (a, .inl (X.2.1 5, z, .inr (.inl f)))) {x : Int32} {y : Int64} {k : Nat} (hk : x.toNatClampNeg = k) (hin : vp_in x z) (hset : ws.set k0 (a, .inl (X.2.1 5, z, .inr (.inl (vp_updL f k y)))) = ws') (hdg : decode cc pc = .ok (.lastore, 1))
    (kk : ∀ (H1 : Heap) (locs1 : List Loc), k_N X n ad L C fr ws' H1 → (∀ q ∈ locs1, k_B X ≤ q.base) → W p l e R s m args below meth c H1 locs1 cells slots Q (F0 m (pc + 1) ls rest)) : W p l e R s m args below meth c H locs cells slots Q (F0 m pc ls (.long y :: .int x :: .ref a :: rest)) := by
  subst hk
  subst hset
  have hA := hW.2.1 k0 _ he
  refine W.last hexec hb hA ((hK.1.2 5 _ rfl).1 z (fun j => .long (f j))) (fun q => by cases q) (by show ¬ (x < 0 ∨ (arrV _ _ _).slots.size ≤ _); rw [arrV_size]; exact hin) rfl rfl hdg fun H1 e z oq => ?_
  refine kk H1 _ (hW.set he z oq ?_) (fun q hq => ?_)
  · show H1[_]? = some (vp_cell _ _)
    rw [e]
    rw [vp_cell_l, vp_cell_l, arrV_store]
    congr 2
    funext q
    by_cases hq : q = x.toNatClampNeg
    · subst hq
      simp [updV, vp_updL]
    · simp [updV, vp_updL, hq]
  · rcases List.mem_append.mp hq with h | h
    · exact hL q h
    · rw [List.mem_singleton.mp h]
      exact (hW.2.2.2 k0 _ he).1
/-- an exception of the class E, caught by the row that names it; the rows ahead name others -/
theorem k_catch {own E : String} {ce : Cell} {q : Addr} {s0 e0 hpc ct : Nat} (pre suf : List (Nat × Nat × Nat × Nat)) (i9 : Nat) (hown : s.vm.findClass own = some m.cls) (hK : k_S X s) (ht : c.exceptionTable.toList = tableOf (pre ++ (s0, e0, hpc, ct) :: suf))
    (hpass : ∀ z ∈ tableOf pre, z.catchType ≠ 0 ∧ ∃ nm, (Cond.classLink own z.catchType nm).before args s = true ∧ (E, nm) ∈ k_nc) (hx : covers ⟨s0, e0, hpc, ct⟩ pc = true) (h0 : ct ≠ 0) (hlink : (Cond.classLink own ct E).before args s = true) (hw : k_nw[i9]? = some (Cond.castable E E)) (hcell : H[q]? = some ce) (hv : ce.vm = .none) (hcl : s.vm.findClass E = some ce.cls)
    (kk : W p l e R s m args below meth c H locs cells slots Q (F0 m hpc ls [.ref q])) : vx_W p l e R s m args below meth c H locs cells slots Q (F0 m pc ls rest) q :=
  vx_catch (name := E) hown (tableOf pre) ⟨s0, e0, hpc, ct⟩ (tableOf suf) (by rw [ht]; simp [tableOf]) (fun z hz => Or.inr ⟨(hpass z hz).1, (hpass z hz).2.elim fun nm h => ⟨nm, h.1, hK.2.1.2.1 _ h.2⟩⟩) hx h0 hlink (va_Nw.use rfl (hK.nest (List.mem_of_getElem? hw))) hcell hv hcl kk
theorem kx_callSX {y : MethodName} {bytes : ByteArray} {maxL nL mc ms n0 index : Nat} {ret : Option FieldType} {hh : List (Nat × Nat × Nat × Nat)} {ws0 : List Cond} {rm : Room} {P : Heap → Prop} {Po : Option Value → Heap → Prop} {Px : String → Heap → Prop} {Ts : List Cond} {own : String} {As st0 : List Value}
    (S : CallFix p m c cc nL s args Ts own) (hK : k_S X s) (hM : k_X X l y ws0 rm As P Po Px mc ms) (cw : vx_CSW R s args own index y bytes maxL ret hh ws0 rm mc ms n0) (hP : P H)
    (hn : As.length = n0) (hsize : ls.size = nL) (hstack : st0 = As.reverse ++ rest) (hroom : (rest.map fun v => v.category).sum ≤ 8) (hdg : decode cc pc = .ok (.invokestatic index, 3)) (hf : cells + mc ≤ R.cells ∧ slots + ms ≤ R.slots) (hL : ∀ q ∈ locs, k_B X ≤ q.base)
    (kx : ∀ (E : String) (ce : Cell) (q : Addr) (H1 : Heap) (locs1 : List Loc), Px E H1 → (∀ q ∈ locs1, k_B X ≤ q.base) → H1[q]? = some ce → ce.vm = .none → s.vm.findClass E = some ce.cls → vx_W p l e R s m args below meth c H1 locs1 (cells + mc) (slots + ms) Q (F0 m pc ls rest) q)
    (kk : ∀ (v : Option Value) (H1 : Heap) (locs1 : List Loc), Po v H1 → (∀ q ∈ locs1, k_B X ≤ q.base) → W p l e R s m args below meth c H1 locs1 (cells + mc) (slots + ms) Q (F0 m (pc + 3) ls (v.toList ++ rest))) : W p l e R s m args below meth c H locs cells slots Q (F0 m pc ls st0) :=
  k_runW (av := As) (vx_runSX S hM cw ⟨k_blind X _ P, fun U hU hW => ⟨rfl, k_S.moved hW hK, by rw [hU]; exact hP⟩⟩ rfl hn hsize hstack (lv_room hroom) hdg hf) hL kx kk
end KWRAP
/-- the class once an event more has happened, cells pending -/
def kHapN (X : kX) (n : Nat → Nat → Nat) (ad L : Nat → Nat → Nat → Nat) (C : Nat → Nat → Nat → Nat → Int32) (fr : Nat → Option Cell) (ne : Nat) (w : Nat → Int32) (σ : kSt) (ws : va_W) (H : Heap) : Prop :=
  ∃ n' ad' L' C', (∀ g', g' ≠ 0 → g' ≠ 5 → n' g' = n g' ∧ ad' g' = ad g' ∧ L' g' = L g' ∧ C' g' = C g') ∧ ad' 0 0 0 = ad 0 0 0 ∧ ad' 5 16 0 = ad 5 16 0 ∧ kDk n' 0 σ.2.1 σ.2.2.1 σ.2.2.2 ∧ n' 0 9 = 0 ∧ cWF σ.1 σ.2.1 σ.2.2.1 ∧ kCx n' (ne + 1) ∧ (∀ j, j ≠ ne → C' 5 19 j = C 5 19 j) ∧ C' 5 19 ne = w ∧ k_N X n' ad' L' (k_g C' 0 σ.1) fr ws H
set_option maxHeartbeats 400000 in
set_option maxRecDepth 100000 in
theorem c_L_addLorry (X : kX) (l : Launch) {n : Nat → Nat → Nat} {ad L : Nat → Nat → Nat → Nat} {C : Nat → Nat → Nat → Nat → Int32} {fr : Nat → Option Cell} {nl nt ng : Nat} (hd : kDk n 0 nl nt ng) (D : KD) {ne : Nat} (hc : kCx n ne) (hwf : cWF D nl nt) (h9 : n 0 9 = 0) (hne : ne < 512) (br : Int32) (pl : Int32) (ra : Int32) (hl9 : l.stackTraces = false) {ws : va_W} {o : Nat} {f : Nat → Int64} : k_X X l yL_addLorry wsL_addLorry ({ frames := 11, cells := 5, slots := 805, locals := 282 }) [.ref (ad 5 16 0), .int br, .int pl, .int ra, .ref o] (k_N X n ad L (k_g C 0 D) fr ((o, .inl (X.2.1 5, 1, .inr (.inl f))) :: ws)) (fun v H => v = some (.int (s_x_addLorry D nl nt ng br pl ra)) ∧ (s_x_addLorry D nl nt ng br pl ra = 0 → kHapN X n ad L C fr ne (k_fe 0 (if br = 0 then (0 : Int32) else 1) pl ra) (s_und (D, nl, nt, ng) (k_fe 0 (if br = 0 then (0 : Int32) else 1) pl ra)).1 ((o, .inl (X.2.1 5, 1, .inr (.inl (vp_updL f 0 ((s_und (D, nl, nt, ng) (k_fe 0 (if br = 0 then (0 : Int32) else 1) pl ra)).2.toInt64))))) :: ws) H) ∧ (s_x_addLorry D nl nt ng br pl ra ≠ 0 → k_N X n ad L (k_g C 0 D) fr ((o, .inl (X.2.1 5, 1, .inr (.inl f))) :: ws) H)) (fun _ _ => False) 5 805 := by
  refine k_XH.of (cc := cL_addLorry) (maxL := 6) (ret := some .int) (hh := [(0, 12, 15, 13), (0, 12, 19, 15)]) (by decide) rfl (Nat.le_of_ble_eq_true rfl) ?_
  intro p e s m args below meth c ls hx hb hr hml hown hts hlocks hnm ht hK hW hl
  have hL : ∀ q ∈ ([] : List Loc), k_B X ≤ q.base := fun _ h => nomatch h
  have hl : lv_has ls 6 [(0, .ref (ad 5 16 0)), (1, .int br), (2, .int pl), (3, .int ra), (4, .ref o)] := hl
  refine lv_aload hx hb dL_addLorry_0 (lv_at hl 4 rfl) ?_
  refine lv_iconst (v := 0) hx hb dL_addLorry_2 (by decide) ?_
  refine lv_aload_n hx hb dL_addLorry_3 rfl (lv_at hl 0 rfl) ?_
  refine lv_iload_n hx hb dL_addLorry_4 rfl (lv_at hl 1 rfl) ?_
  refine lv_iload_n hx hb dL_addLorry_5 rfl (lv_at hl 2 rfl) ?_
  refine lv_iload_n hx hb dL_addLorry_6 rfl (lv_at hl 3 rfl) ?_
  obtain ⟨fr1, hF, hback⟩ := hW.freeze
  refine kx_callV (As := [.int br, .int pl, .int ra]) (rest := [.int 0, .ref o]) ⟨hx, hb, hml, hown, hts⟩ hK (c_X6_addLorry X l hd D hc hwf h9 hne br pl ra hl9) (cwV 3 hts gL_addLorry_X6_addLorry rfl rfl rfl (by decide +kernel) ⟨Nat.le_of_ble_eq_true rfl, Nat.le_of_ble_eq_true rfl⟩) (k_recv hK (k_ev hF) 16 0 hc.o (fun _ => rfl) rfl) hF rfl hl.1 rfl (Nat.le_of_ble_eq_true rfl) dL_addLorry_7 ⟨Nat.le_of_ble_eq_true rfl, Nat.le_of_ble_eq_true rfl⟩ hL (fun E ce q H locs hp hL hce hcv hcl => ?_) (fun v9 H locs hp hL => ?_)
  ·
    rcases hp with ⟨rfl, hx1, hW⟩ | ⟨rfl, hx1, hW⟩
    ·
      refine k_catch (own := RL) (s0 := 0) (e0 := 12) (hpc := 15) (ct := 13) [] [(0, 12, 19, 15)] 16 hown hK ht (fun z hz => by cases hz) rfl (by decide) (hts (.classLink RL 13 "java/lang/IllegalArgumentException") (by decide +kernel)) rfl hce hcv hcl ?_
      refine lv_astore (lv' := [(5, .ref q), (0, .ref (ad 5 16 0)), (1, .int br), (2, .int pl), (3, .int ra), (4, .ref o)]) hx hb dL_addLorry_15 hl (by decide) rfl (fun ls hl => ?_)
      refine lv_iconst (v := 1) hx hb dL_addLorry_17 (by decide) ?_
      refine k_more (cells' := 5) (slots' := 805) (Nat.le_of_ble_eq_true rfl) (Nat.le_of_ble_eq_true rfl) (vx_ret ?_)
      exact k_iret hx hb hr hlocks ⟨by rw [hx1], fun h => absurd (hx1.symm.trans h) (by decide), fun _ => hback _ _ _ _ _ hW⟩ hL dL_addLorry_18
    ·
      refine k_catch (own := RL) (s0 := 0) (e0 := 12) (hpc := 19) (ct := 15) [(0, 12, 15, 13)] [] 17 hown hK ht (fun z hz => by
          simp only [tableOf, List.map_cons, List.map_nil, List.mem_cons, List.not_mem_nil, or_false] at hz
          subst hz
          · exact ⟨by decide, "java/lang/IllegalArgumentException", hts (.classLink RL 13 "java/lang/IllegalArgumentException") (by decide +kernel), by decide +kernel⟩) rfl (by decide) (hts (.classLink RL 15 "java/lang/IllegalStateException") (by decide +kernel)) rfl hce hcv hcl ?_
      refine lv_astore (lv' := [(5, .ref q), (0, .ref (ad 5 16 0)), (1, .int br), (2, .int pl), (3, .int ra), (4, .ref o)]) hx hb dL_addLorry_19 hl (by decide) rfl (fun ls hl => ?_)
      refine lv_iconst (v := 2) hx hb dL_addLorry_21 (by decide) ?_
      refine k_more (cells' := 5) (slots' := 805) (Nat.le_of_ble_eq_true rfl) (Nat.le_of_ble_eq_true rfl) (vx_ret ?_)
      exact k_iret hx hb hr hlocks ⟨by rw [hx1], fun h => absurd (hx1.symm.trans h) (by decide), fun _ => hback _ _ _ _ _ hW⟩ hL dL_addLorry_22
  ·
    obtain ⟨hx0, rfl, n1, ad1, L1, C1, q1, q2, q3, q4, q5, q6, q7, q8, q9, hW1⟩ := hp
    have hW := hback _ _ _ _ _ hW1
    refine lv_i2l (v := ((s_und (D, nl, nt, ng) (k_fe 0 (if br = 0 then (0 : Int32) else 1) pl ra)).2.toInt64)) hx hb dL_addLorry_10 rfl ?_
    refine k_nlast (k := 0) (ws' := (o, .inl (X.2.1 5, 1, .inr (.inl (vp_updL f 0 ((s_und (D, nl, nt, ng) (k_fe 0 (if br = 0 then (0 : Int32) else 1) pl ra)).2.toInt64))))) :: ws) hx hb hK hW hL 0 rfl (by decide) (by unfold vp_in; decide) rfl dL_addLorry_11 (fun H locs hW hL => ?_)
    refine lv_goto (tgt := 23) hx hb dL_addLorry_12 (by decide) ?_
    refine lv_iconst (v := 0) hx hb dL_addLorry_23 (by decide) ?_
    refine k_more (cells' := 5) (slots' := 805) (Nat.le_of_ble_eq_true rfl) (Nat.le_of_ble_eq_true rfl) (vx_ret ?_)
    exact k_iret hx hb hr hlocks ⟨by rw [hx0], fun _ => ⟨n1, ad1, L1, C1, q1, q2, q3, q4, q5, q6, q7, q8, q9, hW⟩, fun h => absurd hx0 h⟩ hL dL_addLorry_24
set_option maxHeartbeats 400000 in
set_option maxRecDepth 100000 in
theorem c_L_addTransfer (X : kX) (l : Launch) {n : Nat → Nat → Nat} {ad L : Nat → Nat → Nat → Nat} {C : Nat → Nat → Nat → Nat → Int32} {fr : Nat → Option Cell} {nl nt ng : Nat} (hd : kDk n 0 nl nt ng) (D : KD) {ne : Nat} (hc : kCx n ne) (hwf : cWF D nl nt) (h9 : n 0 9 = 0) (hne : ne < 512) (fo : Int32) (tu : Int32) (un : Int32) (hl9 : l.stackTraces = false) {ws : va_W} {o : Nat} {f : Nat → Int64} : k_X X l yL_addTransfer wsL_addTransfer ({ frames := 11, cells := 7, slots := 817, locals := 284 }) [.ref (ad 5 16 0), .int fo, .int tu, .int un, .ref o] (k_N X n ad L (k_g C 0 D) fr ((o, .inl (X.2.1 5, 1, .inr (.inl f))) :: ws)) (fun v H => v = some (.int (s_x_addTransfer D nl nt ng fo tu un)) ∧ (s_x_addTransfer D nl nt ng fo tu un = 0 → kHapN X n ad L C fr ne (k_fe 1 fo tu un) (s_und (D, nl, nt, ng) (k_fe 1 fo tu un)).1 ((o, .inl (X.2.1 5, 1, .inr (.inl (vp_updL f 0 ((s_und (D, nl, nt, ng) (k_fe 1 fo tu un)).2.toInt64))))) :: ws) H) ∧ (s_x_addTransfer D nl nt ng fo tu un ≠ 0 → k_N X n ad L (k_g C 0 D) fr ((o, .inl (X.2.1 5, 1, .inr (.inl f))) :: ws) H)) (fun _ _ => False) 7 817 := by
  refine k_XH.of (cc := cL_addTransfer) (maxL := 6) (ret := some .int) (hh := [(0, 12, 15, 21), (0, 12, 19, 13), (0, 12, 23, 15)]) (by decide) rfl (Nat.le_of_ble_eq_true rfl) ?_
  intro p e s m args below meth c ls hx hb hr hml hown hts hlocks hnm ht hK hW hl
  have hL : ∀ q ∈ ([] : List Loc), k_B X ≤ q.base := fun _ h => nomatch h
  have hl : lv_has ls 6 [(0, .ref (ad 5 16 0)), (1, .int fo), (2, .int tu), (3, .int un), (4, .ref o)] := hl
  refine lv_aload hx hb dL_addTransfer_0 (lv_at hl 4 rfl) ?_
  refine lv_iconst (v := 0) hx hb dL_addTransfer_2 (by decide) ?_
  refine lv_aload_n hx hb dL_addTransfer_3 rfl (lv_at hl 0 rfl) ?_
  refine lv_iload_n hx hb dL_addTransfer_4 rfl (lv_at hl 1 rfl) ?_
  refine lv_iload_n hx hb dL_addTransfer_5 rfl (lv_at hl 2 rfl) ?_
  refine lv_iload_n hx hb dL_addTransfer_6 rfl (lv_at hl 3 rfl) ?_
  obtain ⟨fr1, hF, hback⟩ := hW.freeze
  refine kx_callV (As := [.int fo, .int tu, .int un]) (rest := [.int 0, .ref o]) ⟨hx, hb, hml, hown, hts⟩ hK (c_X6_addTransfer X l hd D hc hwf h9 hne fo tu un hl9) (cwV 3 hts gL_addTransfer_X6_addTransfer rfl rfl rfl (by decide +kernel) ⟨Nat.le_of_ble_eq_true rfl, Nat.le_of_ble_eq_true rfl⟩) (k_recv hK (k_ev hF) 16 0 hc.o (fun _ => rfl) rfl) hF rfl hl.1 rfl (Nat.le_of_ble_eq_true rfl) dL_addTransfer_7 ⟨Nat.le_of_ble_eq_true rfl, Nat.le_of_ble_eq_true rfl⟩ hL (fun E ce q H locs hp hL hce hcv hcl => ?_) (fun v9 H locs hp hL => ?_)
  ·
    rcases hp with ⟨rfl, hx1, hW⟩ | ⟨rfl, hx1, hW⟩ | ⟨rfl, hx1, hW⟩
    ·
      refine k_catch (own := RL) (s0 := 0) (e0 := 12) (hpc := 15) (ct := 21) [] [(0, 12, 19, 13), (0, 12, 23, 15)] 15 hown hK ht (fun z hz => by cases hz) rfl (by decide) (hts (.classLink RL 21 "java/lang/IndexOutOfBoundsException") (by decide +kernel)) rfl hce hcv hcl ?_
      refine lv_astore (lv' := [(5, .ref q), (0, .ref (ad 5 16 0)), (1, .int fo), (2, .int tu), (3, .int un), (4, .ref o)]) hx hb dL_addTransfer_15 hl (by decide) rfl (fun ls hl => ?_)
      refine lv_iconst (v := 1) hx hb dL_addTransfer_17 (by decide) ?_
      refine k_more (cells' := 7) (slots' := 817) (Nat.le_of_ble_eq_true rfl) (Nat.le_of_ble_eq_true rfl) (vx_ret ?_)
      exact k_iret hx hb hr hlocks ⟨by rw [hx1], fun h => absurd (hx1.symm.trans h) (by decide), fun _ => hback _ _ _ _ _ hW⟩ hL dL_addTransfer_18
    ·
      refine k_catch (own := RL) (s0 := 0) (e0 := 12) (hpc := 19) (ct := 13) [(0, 12, 15, 21)] [(0, 12, 23, 15)] 16 hown hK ht (fun z hz => by
          simp only [tableOf, List.map_cons, List.map_nil, List.mem_cons, List.not_mem_nil, or_false] at hz
          subst hz
          · exact ⟨by decide, "java/lang/IndexOutOfBoundsException", hts (.classLink RL 21 "java/lang/IndexOutOfBoundsException") (by decide +kernel), by decide +kernel⟩) rfl (by decide) (hts (.classLink RL 13 "java/lang/IllegalArgumentException") (by decide +kernel)) rfl hce hcv hcl ?_
      refine lv_astore (lv' := [(5, .ref q), (0, .ref (ad 5 16 0)), (1, .int fo), (2, .int tu), (3, .int un), (4, .ref o)]) hx hb dL_addTransfer_19 hl (by decide) rfl (fun ls hl => ?_)
      refine lv_iconst (v := 2) hx hb dL_addTransfer_21 (by decide) ?_
      refine k_more (cells' := 7) (slots' := 817) (Nat.le_of_ble_eq_true rfl) (Nat.le_of_ble_eq_true rfl) (vx_ret ?_)
      exact k_iret hx hb hr hlocks ⟨by rw [hx1], fun h => absurd (hx1.symm.trans h) (by decide), fun _ => hback _ _ _ _ _ hW⟩ hL dL_addTransfer_22
    ·
      refine k_catch (own := RL) (s0 := 0) (e0 := 12) (hpc := 23) (ct := 15) [(0, 12, 15, 21), (0, 12, 19, 13)] [] 17 hown hK ht (fun z hz => by
          simp only [tableOf, List.map_cons, List.map_nil, List.mem_cons, List.not_mem_nil, or_false] at hz
          rcases hz with rfl | rfl
          · exact ⟨by decide, "java/lang/IndexOutOfBoundsException", hts (.classLink RL 21 "java/lang/IndexOutOfBoundsException") (by decide +kernel), by decide +kernel⟩
          · exact ⟨by decide, "java/lang/IllegalArgumentException", hts (.classLink RL 13 "java/lang/IllegalArgumentException") (by decide +kernel), by decide +kernel⟩) rfl (by decide) (hts (.classLink RL 15 "java/lang/IllegalStateException") (by decide +kernel)) rfl hce hcv hcl ?_
      refine lv_astore (lv' := [(5, .ref q), (0, .ref (ad 5 16 0)), (1, .int fo), (2, .int tu), (3, .int un), (4, .ref o)]) hx hb dL_addTransfer_23 hl (by decide) rfl (fun ls hl => ?_)
      refine lv_iconst (v := 3) hx hb dL_addTransfer_25 (by decide) ?_
      refine k_more (cells' := 7) (slots' := 817) (Nat.le_of_ble_eq_true rfl) (Nat.le_of_ble_eq_true rfl) (vx_ret ?_)
      exact k_iret hx hb hr hlocks ⟨by rw [hx1], fun h => absurd (hx1.symm.trans h) (by decide), fun _ => hback _ _ _ _ _ hW⟩ hL dL_addTransfer_26
  ·
    obtain ⟨hx0, rfl, n1, ad1, L1, C1, q1, q2, q3, q4, q5, q6, q7, q8, q9, hW1⟩ := hp
    have hW := hback _ _ _ _ _ hW1
    refine lv_i2l (v := ((s_und (D, nl, nt, ng) (k_fe 1 fo tu un)).2.toInt64)) hx hb dL_addTransfer_10 rfl ?_
    refine k_nlast (k := 0) (ws' := (o, .inl (X.2.1 5, 1, .inr (.inl (vp_updL f 0 ((s_und (D, nl, nt, ng) (k_fe 1 fo tu un)).2.toInt64))))) :: ws) hx hb hK hW hL 0 rfl (by decide) (by unfold vp_in; decide) rfl dL_addTransfer_11 (fun H locs hW hL => ?_)
    refine lv_goto (tgt := 27) hx hb dL_addTransfer_12 (by decide) ?_
    refine lv_iconst (v := 0) hx hb dL_addTransfer_27 (by decide) ?_
    refine k_more (cells' := 7) (slots' := 817) (Nat.le_of_ble_eq_true rfl) (Nat.le_of_ble_eq_true rfl) (vx_ret ?_)
    exact k_iret hx hb hr hlocks ⟨by rw [hx0], fun _ => ⟨n1, ad1, L1, C1, q1, q2, q3, q4, q5, q6, q7, q8, q9, hW⟩, fun h => absurd hx0 h⟩ hL dL_addTransfer_28
set_option maxHeartbeats 400000 in
set_option maxRecDepth 100000 in
theorem c_L_planDoor (X : kX) (l : Launch) {n : Nat → Nat → Nat} {ad L : Nat → Nat → Nat → Nat} {C : Nat → Nat → Nat → Nat → Int32} {fr : Nat → Option Cell} {nl nt ng : Nat} (hd : kDk n 0 nl nt ng) (D : KD) {ne : Nat} (hc : kCx n ne) (hwf : cWF D nl nt) (h9 : n 0 9 = 0) (hne : ne < 512) (lo : Int32) (d : Int32) (hl9 : l.stackTraces = false) {ws : va_W} {o : Nat} {f : Nat → Int64} : k_X X l yL_planDoor wsL_planDoor ({ frames := 11, cells := 7, slots := 817, locals := 282 }) [.ref (ad 5 16 0), .int lo, .int d, .ref o] (k_N X n ad L (k_g C 0 D) fr ((o, .inl (X.2.1 5, 1, .inr (.inl f))) :: ws)) (fun v H => v = some (.int (s_x_planDoor D nl nt ng lo d)) ∧ (s_x_planDoor D nl nt ng lo d = 0 → kHapN X n ad L C fr ne (k_fe 2 lo d 0) (s_und (D, nl, nt, ng) (k_fe 2 lo d 0)).1 ((o, .inl (X.2.1 5, 1, .inr (.inl (vp_updL f 0 ((s_und (D, nl, nt, ng) (k_fe 2 lo d 0)).2.toInt64))))) :: ws) H) ∧ (s_x_planDoor D nl nt ng lo d ≠ 0 → k_N X n ad L (k_g C 0 D) fr ((o, .inl (X.2.1 5, 1, .inr (.inl f))) :: ws) H)) (fun _ _ => False) 7 817 := by
  refine k_XH.of (cc := cL_planDoor) (maxL := 5) (ret := some .int) (hh := [(0, 10, 13, 21), (0, 10, 17, 15)]) (by decide) rfl (Nat.le_of_ble_eq_true rfl) ?_
  intro p e s m args below meth c ls hx hb hr hml hown hts hlocks hnm ht hK hW hl
  have hL : ∀ q ∈ ([] : List Loc), k_B X ≤ q.base := fun _ h => nomatch h
  have hl : lv_has ls 5 [(0, .ref (ad 5 16 0)), (1, .int lo), (2, .int d), (3, .ref o)] := hl
  refine lv_aload_n hx hb dL_planDoor_0 rfl (lv_at hl 3 rfl) ?_
  refine lv_iconst (v := 0) hx hb dL_planDoor_1 (by decide) ?_
  refine lv_aload_n hx hb dL_planDoor_2 rfl (lv_at hl 0 rfl) ?_
  refine lv_iload_n hx hb dL_planDoor_3 rfl (lv_at hl 1 rfl) ?_
  refine lv_iload_n hx hb dL_planDoor_4 rfl (lv_at hl 2 rfl) ?_
  obtain ⟨fr1, hF, hback⟩ := hW.freeze
  refine kx_callV (As := [.int lo, .int d]) (rest := [.int 0, .ref o]) ⟨hx, hb, hml, hown, hts⟩ hK (c_X6_planDoor X l hd D hc hwf h9 hne lo d hl9) (cwV 2 hts gL_planDoor_X6_planDoor rfl rfl rfl (by decide +kernel) ⟨Nat.le_of_ble_eq_true rfl, Nat.le_of_ble_eq_true rfl⟩) (k_recv hK (k_ev hF) 16 0 hc.o (fun _ => rfl) rfl) hF rfl hl.1 rfl (Nat.le_of_ble_eq_true rfl) dL_planDoor_5 ⟨Nat.le_of_ble_eq_true rfl, Nat.le_of_ble_eq_true rfl⟩ hL (fun E ce q H locs hp hL hce hcv hcl => ?_) (fun v9 H locs hp hL => ?_)
  ·
    rcases hp with ⟨rfl, hx1, hW⟩ | ⟨rfl, hx1, hW⟩
    ·
      refine k_catch (own := RL) (s0 := 0) (e0 := 10) (hpc := 13) (ct := 21) [] [(0, 10, 17, 15)] 15 hown hK ht (fun z hz => by cases hz) rfl (by decide) (hts (.classLink RL 21 "java/lang/IndexOutOfBoundsException") (by decide +kernel)) rfl hce hcv hcl ?_
      refine lv_astore (lv' := [(4, .ref q), (0, .ref (ad 5 16 0)), (1, .int lo), (2, .int d), (3, .ref o)]) hx hb dL_planDoor_13 hl (by decide) rfl (fun ls hl => ?_)
      refine lv_iconst (v := 1) hx hb dL_planDoor_15 (by decide) ?_
      refine k_more (cells' := 7) (slots' := 817) (Nat.le_of_ble_eq_true rfl) (Nat.le_of_ble_eq_true rfl) (vx_ret ?_)
      exact k_iret hx hb hr hlocks ⟨by rw [hx1], fun h => absurd (hx1.symm.trans h) (by decide), fun _ => hback _ _ _ _ _ hW⟩ hL dL_planDoor_16
    ·
      refine k_catch (own := RL) (s0 := 0) (e0 := 10) (hpc := 17) (ct := 15) [(0, 10, 13, 21)] [] 17 hown hK ht (fun z hz => by
          simp only [tableOf, List.map_cons, List.map_nil, List.mem_cons, List.not_mem_nil, or_false] at hz
          subst hz
          · exact ⟨by decide, "java/lang/IndexOutOfBoundsException", hts (.classLink RL 21 "java/lang/IndexOutOfBoundsException") (by decide +kernel), by decide +kernel⟩) rfl (by decide) (hts (.classLink RL 15 "java/lang/IllegalStateException") (by decide +kernel)) rfl hce hcv hcl ?_
      refine lv_astore (lv' := [(4, .ref q), (0, .ref (ad 5 16 0)), (1, .int lo), (2, .int d), (3, .ref o)]) hx hb dL_planDoor_17 hl (by decide) rfl (fun ls hl => ?_)
      refine lv_iconst (v := 2) hx hb dL_planDoor_19 (by decide) ?_
      refine k_more (cells' := 7) (slots' := 817) (Nat.le_of_ble_eq_true rfl) (Nat.le_of_ble_eq_true rfl) (vx_ret ?_)
      exact k_iret hx hb hr hlocks ⟨by rw [hx1], fun h => absurd (hx1.symm.trans h) (by decide), fun _ => hback _ _ _ _ _ hW⟩ hL dL_planDoor_20
  ·
    obtain ⟨hx0, rfl, n1, ad1, L1, C1, q1, q2, q3, q4, q5, q6, q7, q8, q9, hW1⟩ := hp
    have hW := hback _ _ _ _ _ hW1
    refine lv_i2l (v := ((s_und (D, nl, nt, ng) (k_fe 2 lo d 0)).2.toInt64)) hx hb dL_planDoor_8 rfl ?_
    refine k_nlast (k := 0) (ws' := (o, .inl (X.2.1 5, 1, .inr (.inl (vp_updL f 0 ((s_und (D, nl, nt, ng) (k_fe 2 lo d 0)).2.toInt64))))) :: ws) hx hb hK hW hL 0 rfl (by decide) (by unfold vp_in; decide) rfl dL_planDoor_9 (fun H locs hW hL => ?_)
    refine lv_goto (tgt := 21) hx hb dL_planDoor_10 (by decide) ?_
    refine lv_iconst (v := 0) hx hb dL_planDoor_21 (by decide) ?_
    refine k_more (cells' := 7) (slots' := 817) (Nat.le_of_ble_eq_true rfl) (Nat.le_of_ble_eq_true rfl) (vx_ret ?_)
    exact k_iret hx hb hr hlocks ⟨by rw [hx0], fun _ => ⟨n1, ad1, L1, C1, q1, q2, q3, q4, q5, q6, q7, q8, q9, hW⟩, fun h => absurd hx0 h⟩ hL dL_planDoor_22
set_option maxHeartbeats 400000 in
set_option maxRecDepth 100000 in
theorem c_L_arrive (X : kX) (l : Launch) {n : Nat → Nat → Nat} {ad L : Nat → Nat → Nat → Nat} {C : Nat → Nat → Nat → Nat → Int32} {fr : Nat → Option Cell} {nl nt ng : Nat} (hd : kDk n 0 nl nt ng) (D : KD) {ne : Nat} (hc : kCx n ne) (hwf : cWF D nl nt) (h9 : n 0 9 = 0) (hne : ne < 512) (lo : Int32) (hl9 : l.stackTraces = false) {ws : va_W} {o : Nat} {f : Nat → Int64} : k_X X l yL_arrive wsL_arrive ({ frames := 11, cells := 6, slots := 811, locals := 281 }) [.ref (ad 5 16 0), .int lo, .ref o] (k_N X n ad L (k_g C 0 D) fr ((o, .inl (X.2.1 5, 1, .inr (.inl f))) :: ws)) (fun v H => v = some (.int (s_x_arrive D nl nt ng lo)) ∧ (s_x_arrive D nl nt ng lo = 0 → kHapN X n ad L C fr ne (k_fe 3 lo 0 0) (s_und (D, nl, nt, ng) (k_fe 3 lo 0 0)).1 ((o, .inl (X.2.1 5, 1, .inr (.inl (vp_updL f 0 ((s_und (D, nl, nt, ng) (k_fe 3 lo 0 0)).2.toInt64))))) :: ws) H) ∧ (s_x_arrive D nl nt ng lo ≠ 0 → k_N X n ad L (k_g C 0 D) fr ((o, .inl (X.2.1 5, 1, .inr (.inl f))) :: ws) H)) (fun _ _ => False) 6 811 := by
  refine k_XH.of (cc := cL_arrive) (maxL := 4) (ret := some .int) (hh := [(0, 9, 12, 21), (0, 9, 15, 15), (0, 9, 18, 31)]) (by decide) rfl (Nat.le_of_ble_eq_true rfl) ?_
  intro p e s m args below meth c ls hx hb hr hml hown hts hlocks hnm ht hK hW hl
  have hL : ∀ q ∈ ([] : List Loc), k_B X ≤ q.base := fun _ h => nomatch h
  have hl : lv_has ls 4 [(0, .ref (ad 5 16 0)), (1, .int lo), (2, .ref o)] := hl
  refine lv_aload_n hx hb dL_arrive_0 rfl (lv_at hl 2 rfl) ?_
  refine lv_iconst (v := 0) hx hb dL_arrive_1 (by decide) ?_
  refine lv_aload_n hx hb dL_arrive_2 rfl (lv_at hl 0 rfl) ?_
  refine lv_iload_n hx hb dL_arrive_3 rfl (lv_at hl 1 rfl) ?_
  obtain ⟨fr1, hF, hback⟩ := hW.freeze
  refine kx_callV (As := [.int lo]) (rest := [.int 0, .ref o]) ⟨hx, hb, hml, hown, hts⟩ hK (c_X6_arrive X l hd D hc hwf h9 hne lo hl9) (cwV 1 hts gL_arrive_X6_arrive rfl rfl rfl (by decide +kernel) ⟨Nat.le_of_ble_eq_true rfl, Nat.le_of_ble_eq_true rfl⟩) (k_recv hK (k_ev hF) 16 0 hc.o (fun _ => rfl) rfl) hF rfl hl.1 rfl (Nat.le_of_ble_eq_true rfl) dL_arrive_4 ⟨Nat.le_of_ble_eq_true rfl, Nat.le_of_ble_eq_true rfl⟩ hL (fun E ce q H locs hp hL hce hcv hcl => ?_) (fun v9 H locs hp hL => ?_)
  ·
    rcases hp with ⟨rfl, hx1, hW⟩ | ⟨rfl, hx1, hW⟩ | ⟨rfl, hx1, hW⟩
    ·
      refine k_catch (own := RL) (s0 := 0) (e0 := 9) (hpc := 12) (ct := 21) [] [(0, 9, 15, 15), (0, 9, 18, 31)] 15 hown hK ht (fun z hz => by cases hz) rfl (by decide) (hts (.classLink RL 21 "java/lang/IndexOutOfBoundsException") (by decide +kernel)) rfl hce hcv hcl ?_
      refine lv_astore_n (lv' := [(3, .ref q), (0, .ref (ad 5 16 0)), (1, .int lo), (2, .ref o)]) hx hb dL_arrive_12 rfl hl (by decide) rfl (fun ls hl => ?_)
      refine lv_iconst (v := 1) hx hb dL_arrive_13 (by decide) ?_
      refine k_more (cells' := 6) (slots' := 811) (Nat.le_of_ble_eq_true rfl) (Nat.le_of_ble_eq_true rfl) (vx_ret ?_)
      exact k_iret hx hb hr hlocks ⟨by rw [hx1], fun h => absurd (hx1.symm.trans h) (by decide), fun _ => hback _ _ _ _ _ hW⟩ hL dL_arrive_14
    ·
      refine k_catch (own := RL) (s0 := 0) (e0 := 9) (hpc := 15) (ct := 15) [(0, 9, 12, 21)] [(0, 9, 18, 31)] 17 hown hK ht (fun z hz => by
          simp only [tableOf, List.map_cons, List.map_nil, List.mem_cons, List.not_mem_nil, or_false] at hz
          subst hz
          · exact ⟨by decide, "java/lang/IndexOutOfBoundsException", hts (.classLink RL 21 "java/lang/IndexOutOfBoundsException") (by decide +kernel), by decide +kernel⟩) rfl (by decide) (hts (.classLink RL 15 "java/lang/IllegalStateException") (by decide +kernel)) rfl hce hcv hcl ?_
      refine lv_astore_n (lv' := [(3, .ref q), (0, .ref (ad 5 16 0)), (1, .int lo), (2, .ref o)]) hx hb dL_arrive_15 rfl hl (by decide) rfl (fun ls hl => ?_)
      refine lv_iconst (v := 2) hx hb dL_arrive_16 (by decide) ?_
      refine k_more (cells' := 6) (slots' := 811) (Nat.le_of_ble_eq_true rfl) (Nat.le_of_ble_eq_true rfl) (vx_ret ?_)
      exact k_iret hx hb hr hlocks ⟨by rw [hx1], fun h => absurd (hx1.symm.trans h) (by decide), fun _ => hback _ _ _ _ _ hW⟩ hL dL_arrive_17
    ·
      refine k_catch (own := RL) (s0 := 0) (e0 := 9) (hpc := 18) (ct := 31) [(0, 9, 12, 21), (0, 9, 15, 15)] [] 18 hown hK ht (fun z hz => by
          simp only [tableOf, List.map_cons, List.map_nil, List.mem_cons, List.not_mem_nil, or_false] at hz
          rcases hz with rfl | rfl
          · exact ⟨by decide, "java/lang/IndexOutOfBoundsException", hts (.classLink RL 21 "java/lang/IndexOutOfBoundsException") (by decide +kernel), by decide +kernel⟩
          · exact ⟨by decide, "java/lang/IllegalStateException", hts (.classLink RL 15 "java/lang/IllegalStateException") (by decide +kernel), by decide +kernel⟩) rfl (by decide) (hts (.classLink RL 31 "java/lang/UnsupportedOperationException") (by decide +kernel)) rfl hce hcv hcl ?_
      refine lv_astore_n (lv' := [(3, .ref q), (0, .ref (ad 5 16 0)), (1, .int lo), (2, .ref o)]) hx hb dL_arrive_18 rfl hl (by decide) rfl (fun ls hl => ?_)
      refine lv_iconst (v := 3) hx hb dL_arrive_19 (by decide) ?_
      refine k_more (cells' := 6) (slots' := 811) (Nat.le_of_ble_eq_true rfl) (Nat.le_of_ble_eq_true rfl) (vx_ret ?_)
      exact k_iret hx hb hr hlocks ⟨by rw [hx1], fun h => absurd (hx1.symm.trans h) (by decide), fun _ => hback _ _ _ _ _ hW⟩ hL dL_arrive_20
  ·
    obtain ⟨hx0, rfl, n1, ad1, L1, C1, q1, q2, q3, q4, q5, q6, q7, q8, q9, hW1⟩ := hp
    have hW := hback _ _ _ _ _ hW1
    refine lv_i2l (v := ((s_und (D, nl, nt, ng) (k_fe 3 lo 0 0)).2.toInt64)) hx hb dL_arrive_7 rfl ?_
    refine k_nlast (k := 0) (ws' := (o, .inl (X.2.1 5, 1, .inr (.inl (vp_updL f 0 ((s_und (D, nl, nt, ng) (k_fe 3 lo 0 0)).2.toInt64))))) :: ws) hx hb hK hW hL 0 rfl (by decide) (by unfold vp_in; decide) rfl dL_arrive_8 (fun H locs hW hL => ?_)
    refine lv_goto (tgt := 21) hx hb dL_arrive_9 (by decide) ?_
    refine lv_iconst (v := 0) hx hb dL_arrive_21 (by decide) ?_
    refine k_more (cells' := 6) (slots' := 811) (Nat.le_of_ble_eq_true rfl) (Nat.le_of_ble_eq_true rfl) (vx_ret ?_)
    exact k_iret hx hb hr hlocks ⟨by rw [hx0], fun _ => ⟨n1, ad1, L1, C1, q1, q2, q3, q4, q5, q6, q7, q8, q9, hW⟩, fun h => absurd hx0 h⟩ hL dL_arrive_22
set_option maxHeartbeats 400000 in
set_option maxRecDepth 100000 in
theorem c_L_sendOff (X : kX) (l : Launch) {n : Nat → Nat → Nat} {ad L : Nat → Nat → Nat → Nat} {C : Nat → Nat → Nat → Nat → Int32} {fr : Nat → Option Cell} {nl nt ng : Nat} (hd : kDk n 0 nl nt ng) (D : KD) {ne : Nat} (hc : kCx n ne) (hwf : cWF D nl nt) (h9 : n 0 9 = 0) (hne : ne < 512) (lo : Int32) (hl9 : l.stackTraces = false) {ws : va_W} {o : Nat} {f : Nat → Int64} : k_X X l yL_sendOff wsL_sendOff ({ frames := 11, cells := 6, slots := 811, locals := 281 }) [.ref (ad 5 16 0), .int lo, .ref o] (k_N X n ad L (k_g C 0 D) fr ((o, .inl (X.2.1 5, 1, .inr (.inl f))) :: ws)) (fun v H => v = some (.int (s_x_sendOff D nl nt ng lo)) ∧ (s_x_sendOff D nl nt ng lo = 0 → kHapN X n ad L C fr ne (k_fe 4 lo 0 0) (s_und (D, nl, nt, ng) (k_fe 4 lo 0 0)).1 ((o, .inl (X.2.1 5, 1, .inr (.inl (vp_updL f 0 ((s_und (D, nl, nt, ng) (k_fe 4 lo 0 0)).2.toInt64))))) :: ws) H) ∧ (s_x_sendOff D nl nt ng lo ≠ 0 → k_N X n ad L (k_g C 0 D) fr ((o, .inl (X.2.1 5, 1, .inr (.inl f))) :: ws) H)) (fun _ _ => False) 6 811 := by
  refine k_XH.of (cc := cL_sendOff) (maxL := 4) (ret := some .int) (hh := [(0, 9, 12, 21), (0, 9, 15, 15)]) (by decide) rfl (Nat.le_of_ble_eq_true rfl) ?_
  intro p e s m args below meth c ls hx hb hr hml hown hts hlocks hnm ht hK hW hl
  have hL : ∀ q ∈ ([] : List Loc), k_B X ≤ q.base := fun _ h => nomatch h
  have hl : lv_has ls 4 [(0, .ref (ad 5 16 0)), (1, .int lo), (2, .ref o)] := hl
  refine lv_aload_n hx hb dL_sendOff_0 rfl (lv_at hl 2 rfl) ?_
  refine lv_iconst (v := 0) hx hb dL_sendOff_1 (by decide) ?_
  refine lv_aload_n hx hb dL_sendOff_2 rfl (lv_at hl 0 rfl) ?_
  refine lv_iload_n hx hb dL_sendOff_3 rfl (lv_at hl 1 rfl) ?_
  obtain ⟨fr1, hF, hback⟩ := hW.freeze
  refine kx_callV (As := [.int lo]) (rest := [.int 0, .ref o]) ⟨hx, hb, hml, hown, hts⟩ hK (c_X6_sendOff X l hd D hc hwf h9 hne lo hl9) (cwV 1 hts gL_sendOff_X6_sendOff rfl rfl rfl (by decide +kernel) ⟨Nat.le_of_ble_eq_true rfl, Nat.le_of_ble_eq_true rfl⟩) (k_recv hK (k_ev hF) 16 0 hc.o (fun _ => rfl) rfl) hF rfl hl.1 rfl (Nat.le_of_ble_eq_true rfl) dL_sendOff_4 ⟨Nat.le_of_ble_eq_true rfl, Nat.le_of_ble_eq_true rfl⟩ hL (fun E ce q H locs hp hL hce hcv hcl => ?_) (fun v9 H locs hp hL => ?_)
  ·
    rcases hp with ⟨rfl, hx1, hW⟩ | ⟨rfl, hx1, hW⟩
    ·
      refine k_catch (own := RL) (s0 := 0) (e0 := 9) (hpc := 12) (ct := 21) [] [(0, 9, 15, 15)] 15 hown hK ht (fun z hz => by cases hz) rfl (by decide) (hts (.classLink RL 21 "java/lang/IndexOutOfBoundsException") (by decide +kernel)) rfl hce hcv hcl ?_
      refine lv_astore_n (lv' := [(3, .ref q), (0, .ref (ad 5 16 0)), (1, .int lo), (2, .ref o)]) hx hb dL_sendOff_12 rfl hl (by decide) rfl (fun ls hl => ?_)
      refine lv_iconst (v := 1) hx hb dL_sendOff_13 (by decide) ?_
      refine k_more (cells' := 6) (slots' := 811) (Nat.le_of_ble_eq_true rfl) (Nat.le_of_ble_eq_true rfl) (vx_ret ?_)
      exact k_iret hx hb hr hlocks ⟨by rw [hx1], fun h => absurd (hx1.symm.trans h) (by decide), fun _ => hback _ _ _ _ _ hW⟩ hL dL_sendOff_14
    ·
      refine k_catch (own := RL) (s0 := 0) (e0 := 9) (hpc := 15) (ct := 15) [(0, 9, 12, 21)] [] 17 hown hK ht (fun z hz => by
          simp only [tableOf, List.map_cons, List.map_nil, List.mem_cons, List.not_mem_nil, or_false] at hz
          subst hz
          · exact ⟨by decide, "java/lang/IndexOutOfBoundsException", hts (.classLink RL 21 "java/lang/IndexOutOfBoundsException") (by decide +kernel), by decide +kernel⟩) rfl (by decide) (hts (.classLink RL 15 "java/lang/IllegalStateException") (by decide +kernel)) rfl hce hcv hcl ?_
      refine lv_astore_n (lv' := [(3, .ref q), (0, .ref (ad 5 16 0)), (1, .int lo), (2, .ref o)]) hx hb dL_sendOff_15 rfl hl (by decide) rfl (fun ls hl => ?_)
      refine lv_iconst (v := 2) hx hb dL_sendOff_16 (by decide) ?_
      refine k_more (cells' := 6) (slots' := 811) (Nat.le_of_ble_eq_true rfl) (Nat.le_of_ble_eq_true rfl) (vx_ret ?_)
      exact k_iret hx hb hr hlocks ⟨by rw [hx1], fun h => absurd (hx1.symm.trans h) (by decide), fun _ => hback _ _ _ _ _ hW⟩ hL dL_sendOff_17
  ·
    obtain ⟨hx0, rfl, n1, ad1, L1, C1, q1, q2, q3, q4, q5, q6, q7, q8, q9, hW1⟩ := hp
    have hW := hback _ _ _ _ _ hW1
    refine lv_i2l (v := ((s_und (D, nl, nt, ng) (k_fe 4 lo 0 0)).2.toInt64)) hx hb dL_sendOff_7 rfl ?_
    refine k_nlast (k := 0) (ws' := (o, .inl (X.2.1 5, 1, .inr (.inl (vp_updL f 0 ((s_und (D, nl, nt, ng) (k_fe 4 lo 0 0)).2.toInt64))))) :: ws) hx hb hK hW hL 0 rfl (by decide) (by unfold vp_in; decide) rfl dL_sendOff_8 (fun H locs hW hL => ?_)
    refine lv_goto (tgt := 18) hx hb dL_sendOff_9 (by decide) ?_
    refine lv_iconst (v := 0) hx hb dL_sendOff_18 (by decide) ?_
    refine k_more (cells' := 6) (slots' := 811) (Nat.le_of_ble_eq_true rfl) (Nat.le_of_ble_eq_true rfl) (vx_ret ?_)
    exact k_iret hx hb hr hlocks ⟨by rw [hx0], fun _ => ⟨n1, ad1, L1, C1, q1, q2, q3, q4, q5, q6, q7, q8, q9, hW⟩, fun h => absurd hx0 h⟩ hL dL_sendOff_19
set_option maxHeartbeats 400000 in
set_option maxRecDepth 100000 in
theorem c_L_addGang (X : kX) (l : Launch) {n : Nat → Nat → Nat} {ad L : Nat → Nat → Nat → Nat} {C : Nat → Nat → Nat → Nat → Int32} {fr : Nat → Option Cell} {nl nt ng : Nat} (hd : kDk n 0 nl nt ng) (D : KD) {ne : Nat} (hc : kCx n ne) (hwf : cWF D nl nt) (h9 : n 0 9 = 0) (hne : ne < 512) (sp : Int32) (fo : Int32) (tu : Int32) (hl9 : l.stackTraces = false) {ws : va_W} {o : Nat} {f : Nat → Int64} : k_X X l yL_addGang wsL_addGang ({ frames := 11, cells := 5, slots := 805, locals := 282 }) [.ref (ad 5 16 0), .int sp, .int fo, .int tu, .ref o] (k_N X n ad L (k_g C 0 D) fr ((o, .inl (X.2.1 5, 1, .inr (.inl f))) :: ws)) (fun v H => v = some (.int (s_x_addGang D nl nt ng sp fo tu)) ∧ (s_x_addGang D nl nt ng sp fo tu = 0 → kHapN X n ad L C fr ne (k_fe 5 sp fo tu) (s_und (D, nl, nt, ng) (k_fe 5 sp fo tu)).1 ((o, .inl (X.2.1 5, 1, .inr (.inl (vp_updL f 0 ((s_und (D, nl, nt, ng) (k_fe 5 sp fo tu)).2.toInt64))))) :: ws) H) ∧ (s_x_addGang D nl nt ng sp fo tu ≠ 0 → k_N X n ad L (k_g C 0 D) fr ((o, .inl (X.2.1 5, 1, .inr (.inl f))) :: ws) H)) (fun _ _ => False) 5 805 := by
  refine k_XH.of (cc := cL_addGang) (maxL := 6) (ret := some .int) (hh := [(0, 12, 15, 13), (0, 12, 19, 15)]) (by decide) rfl (Nat.le_of_ble_eq_true rfl) ?_
  intro p e s m args below meth c ls hx hb hr hml hown hts hlocks hnm ht hK hW hl
  have hL : ∀ q ∈ ([] : List Loc), k_B X ≤ q.base := fun _ h => nomatch h
  have hl : lv_has ls 6 [(0, .ref (ad 5 16 0)), (1, .int sp), (2, .int fo), (3, .int tu), (4, .ref o)] := hl
  refine lv_aload hx hb dL_addGang_0 (lv_at hl 4 rfl) ?_
  refine lv_iconst (v := 0) hx hb dL_addGang_2 (by decide) ?_
  refine lv_aload_n hx hb dL_addGang_3 rfl (lv_at hl 0 rfl) ?_
  refine lv_iload_n hx hb dL_addGang_4 rfl (lv_at hl 1 rfl) ?_
  refine lv_iload_n hx hb dL_addGang_5 rfl (lv_at hl 2 rfl) ?_
  refine lv_iload_n hx hb dL_addGang_6 rfl (lv_at hl 3 rfl) ?_
  obtain ⟨fr1, hF, hback⟩ := hW.freeze
  refine kx_callV (As := [.int sp, .int fo, .int tu]) (rest := [.int 0, .ref o]) ⟨hx, hb, hml, hown, hts⟩ hK (c_X6_addGang X l hd D hc hwf h9 hne sp fo tu hl9) (cwV 3 hts gL_addGang_X6_addGang rfl rfl rfl (by decide +kernel) ⟨Nat.le_of_ble_eq_true rfl, Nat.le_of_ble_eq_true rfl⟩) (k_recv hK (k_ev hF) 16 0 hc.o (fun _ => rfl) rfl) hF rfl hl.1 rfl (Nat.le_of_ble_eq_true rfl) dL_addGang_7 ⟨Nat.le_of_ble_eq_true rfl, Nat.le_of_ble_eq_true rfl⟩ hL (fun E ce q H locs hp hL hce hcv hcl => ?_) (fun v9 H locs hp hL => ?_)
  ·
    rcases hp with ⟨rfl, hx1, hW⟩ | ⟨rfl, hx1, hW⟩
    ·
      refine k_catch (own := RL) (s0 := 0) (e0 := 12) (hpc := 15) (ct := 13) [] [(0, 12, 19, 15)] 16 hown hK ht (fun z hz => by cases hz) rfl (by decide) (hts (.classLink RL 13 "java/lang/IllegalArgumentException") (by decide +kernel)) rfl hce hcv hcl ?_
      refine lv_astore (lv' := [(5, .ref q), (0, .ref (ad 5 16 0)), (1, .int sp), (2, .int fo), (3, .int tu), (4, .ref o)]) hx hb dL_addGang_15 hl (by decide) rfl (fun ls hl => ?_)
      refine lv_iconst (v := 1) hx hb dL_addGang_17 (by decide) ?_
      refine k_more (cells' := 5) (slots' := 805) (Nat.le_of_ble_eq_true rfl) (Nat.le_of_ble_eq_true rfl) (vx_ret ?_)
      exact k_iret hx hb hr hlocks ⟨by rw [hx1], fun h => absurd (hx1.symm.trans h) (by decide), fun _ => hback _ _ _ _ _ hW⟩ hL dL_addGang_18
    ·
      refine k_catch (own := RL) (s0 := 0) (e0 := 12) (hpc := 19) (ct := 15) [(0, 12, 15, 13)] [] 17 hown hK ht (fun z hz => by
          simp only [tableOf, List.map_cons, List.map_nil, List.mem_cons, List.not_mem_nil, or_false] at hz
          subst hz
          · exact ⟨by decide, "java/lang/IllegalArgumentException", hts (.classLink RL 13 "java/lang/IllegalArgumentException") (by decide +kernel), by decide +kernel⟩) rfl (by decide) (hts (.classLink RL 15 "java/lang/IllegalStateException") (by decide +kernel)) rfl hce hcv hcl ?_
      refine lv_astore (lv' := [(5, .ref q), (0, .ref (ad 5 16 0)), (1, .int sp), (2, .int fo), (3, .int tu), (4, .ref o)]) hx hb dL_addGang_19 hl (by decide) rfl (fun ls hl => ?_)
      refine lv_iconst (v := 2) hx hb dL_addGang_21 (by decide) ?_
      refine k_more (cells' := 5) (slots' := 805) (Nat.le_of_ble_eq_true rfl) (Nat.le_of_ble_eq_true rfl) (vx_ret ?_)
      exact k_iret hx hb hr hlocks ⟨by rw [hx1], fun h => absurd (hx1.symm.trans h) (by decide), fun _ => hback _ _ _ _ _ hW⟩ hL dL_addGang_22
  ·
    obtain ⟨hx0, rfl, n1, ad1, L1, C1, q1, q2, q3, q4, q5, q6, q7, q8, q9, hW1⟩ := hp
    have hW := hback _ _ _ _ _ hW1
    refine lv_i2l (v := ((s_und (D, nl, nt, ng) (k_fe 5 sp fo tu)).2.toInt64)) hx hb dL_addGang_10 rfl ?_
    refine k_nlast (k := 0) (ws' := (o, .inl (X.2.1 5, 1, .inr (.inl (vp_updL f 0 ((s_und (D, nl, nt, ng) (k_fe 5 sp fo tu)).2.toInt64))))) :: ws) hx hb hK hW hL 0 rfl (by decide) (by unfold vp_in; decide) rfl dL_addGang_11 (fun H locs hW hL => ?_)
    refine lv_goto (tgt := 23) hx hb dL_addGang_12 (by decide) ?_
    refine lv_iconst (v := 0) hx hb dL_addGang_23 (by decide) ?_
    refine k_more (cells' := 5) (slots' := 805) (Nat.le_of_ble_eq_true rfl) (Nat.le_of_ble_eq_true rfl) (vx_ret ?_)
    exact k_iret hx hb hr hlocks ⟨by rw [hx0], fun _ => ⟨n1, ad1, L1, C1, q1, q2, q3, q4, q5, q6, q7, q8, q9, hW⟩, fun h => absurd hx0 h⟩ hL dL_addGang_24
set_option maxHeartbeats 400000 in
set_option maxRecDepth 100000 in
theorem c_L_moveGang (X : kX) (l : Launch) {n : Nat → Nat → Nat} {ad L : Nat → Nat → Nat → Nat} {C : Nat → Nat → Nat → Nat → Int32} {fr : Nat → Option Cell} {nl nt ng : Nat} (hd : kDk n 0 nl nt ng) (D : KD) {ne : Nat} (hc : kCx n ne) (hwf : cWF D nl nt) (h9 : n 0 9 = 0) (hne : ne < 512) (ga : Int32) (d : Int32) (hl9 : l.stackTraces = false) {ws : va_W} {o : Nat} {f : Nat → Int64} : k_X X l yL_moveGang wsL_moveGang ({ frames := 11, cells := 7, slots := 817, locals := 281 }) [.ref (ad 5 16 0), .int ga, .int d, .ref o] (k_N X n ad L (k_g C 0 D) fr ((o, .inl (X.2.1 5, 1, .inr (.inl f))) :: ws)) (fun v H => v = some (.int (s_x_moveGang D nl nt ng ga d)) ∧ (s_x_moveGang D nl nt ng ga d = 0 → kHapN X n ad L C fr ne (k_fe 6 ga d 0) (s_und (D, nl, nt, ng) (k_fe 6 ga d 0)).1 ((o, .inl (X.2.1 5, 1, .inr (.inl (vp_updL f 0 ((s_und (D, nl, nt, ng) (k_fe 6 ga d 0)).2.toInt64))))) :: ws) H) ∧ (s_x_moveGang D nl nt ng ga d ≠ 0 → k_N X n ad L (k_g C 0 D) fr ((o, .inl (X.2.1 5, 1, .inr (.inl f))) :: ws) H)) (fun _ _ => False) 7 817 := by
  refine k_XH.of (cc := cL_moveGang) (maxL := 5) (ret := some .int) (hh := [(0, 10, 13, 21)]) (by decide) rfl (Nat.le_of_ble_eq_true rfl) ?_
  intro p e s m args below meth c ls hx hb hr hml hown hts hlocks hnm ht hK hW hl
  have hL : ∀ q ∈ ([] : List Loc), k_B X ≤ q.base := fun _ h => nomatch h
  have hl : lv_has ls 5 [(0, .ref (ad 5 16 0)), (1, .int ga), (2, .int d), (3, .ref o)] := hl
  refine lv_aload_n hx hb dL_moveGang_0 rfl (lv_at hl 3 rfl) ?_
  refine lv_iconst (v := 0) hx hb dL_moveGang_1 (by decide) ?_
  refine lv_aload_n hx hb dL_moveGang_2 rfl (lv_at hl 0 rfl) ?_
  refine lv_iload_n hx hb dL_moveGang_3 rfl (lv_at hl 1 rfl) ?_
  refine lv_iload_n hx hb dL_moveGang_4 rfl (lv_at hl 2 rfl) ?_
  obtain ⟨fr1, hF, hback⟩ := hW.freeze
  refine kx_callV (As := [.int ga, .int d]) (rest := [.int 0, .ref o]) ⟨hx, hb, hml, hown, hts⟩ hK (c_X6_moveGang X l hd D hc hwf h9 hne ga d hl9) (cwV 2 hts gL_moveGang_X6_moveGang rfl rfl rfl (by decide +kernel) ⟨Nat.le_of_ble_eq_true rfl, Nat.le_of_ble_eq_true rfl⟩) (k_recv hK (k_ev hF) 16 0 hc.o (fun _ => rfl) rfl) hF rfl hl.1 rfl (Nat.le_of_ble_eq_true rfl) dL_moveGang_5 ⟨Nat.le_of_ble_eq_true rfl, Nat.le_of_ble_eq_true rfl⟩ hL (fun E ce q H locs hp hL hce hcv hcl => ?_) (fun v9 H locs hp hL => ?_)
  ·
    obtain ⟨rfl, hx1, hW⟩ := hp
    refine k_catch (own := RL) (s0 := 0) (e0 := 10) (hpc := 13) (ct := 21) [] [] 15 hown hK ht (fun z hz => by cases hz) rfl (by decide) (hts (.classLink RL 21 "java/lang/IndexOutOfBoundsException") (by decide +kernel)) rfl hce hcv hcl ?_
    refine lv_astore (lv' := [(4, .ref q), (0, .ref (ad 5 16 0)), (1, .int ga), (2, .int d), (3, .ref o)]) hx hb dL_moveGang_13 hl (by decide) rfl (fun ls hl => ?_)
    refine lv_iconst (v := 1) hx hb dL_moveGang_15 (by decide) ?_
    refine k_more (cells' := 7) (slots' := 817) (Nat.le_of_ble_eq_true rfl) (Nat.le_of_ble_eq_true rfl) (vx_ret ?_)
    exact k_iret hx hb hr hlocks ⟨by rw [hx1], fun h => absurd (hx1.symm.trans h) (by decide), fun _ => hback _ _ _ _ _ hW⟩ hL dL_moveGang_16
  ·
    obtain ⟨hx0, rfl, n1, ad1, L1, C1, q1, q2, q3, q4, q5, q6, q7, q8, q9, hW1⟩ := hp
    have hW := hback _ _ _ _ _ hW1
    refine lv_i2l (v := ((s_und (D, nl, nt, ng) (k_fe 6 ga d 0)).2.toInt64)) hx hb dL_moveGang_8 rfl ?_
    refine k_nlast (k := 0) (ws' := (o, .inl (X.2.1 5, 1, .inr (.inl (vp_updL f 0 ((s_und (D, nl, nt, ng) (k_fe 6 ga d 0)).2.toInt64))))) :: ws) hx hb hK hW hL 0 rfl (by decide) (by unfold vp_in; decide) rfl dL_moveGang_9 (fun H locs hW hL => ?_)
    refine lv_goto (tgt := 17) hx hb dL_moveGang_10 (by decide) ?_
    refine lv_iconst (v := 0) hx hb dL_moveGang_17 (by decide) ?_
    refine k_more (cells' := 7) (slots' := 817) (Nat.le_of_ble_eq_true rfl) (Nat.le_of_ble_eq_true rfl) (vx_ret ?_)
    exact k_iret hx hb hr hlocks ⟨by rw [hx0], fun _ => ⟨n1, ad1, L1, C1, q1, q2, q3, q4, q5, q6, q7, q8, q9, hW⟩, fun h => absurd hx0 h⟩ hL dL_moveGang_18
set_option maxHeartbeats 400000 in
set_option maxRecDepth 100000 in
theorem c_L_pass (X : kX) (l : Launch) {n : Nat → Nat → Nat} {ad L : Nat → Nat → Nat → Nat} {C : Nat → Nat → Nat → Nat → Int32} {fr : Nat → Option Cell} {nl nt ng : Nat} (hd : kDk n 0 nl nt ng) (D : KD) {ne : Nat} (hc : kCx n ne) (hwf : cWF D nl nt) (h9 : n 0 9 = 0) (hne : ne < 512) (mi : Int32) (hl9 : l.stackTraces = false) {ws : va_W} {o : Nat} {f : Nat → Int64} : k_X X l yL_pass wsL_pass ({ frames := 11, cells := 5, slots := 805, locals := 280 }) [.ref (ad 5 16 0), .int mi, .ref o] (k_N X n ad L (k_g C 0 D) fr ((o, .inl (X.2.1 5, 1, .inr (.inl f))) :: ws)) (fun v H => v = some (.int (s_x_pass D nl nt ng mi)) ∧ (s_x_pass D nl nt ng mi = 0 → kHapN X n ad L C fr ne (k_fe 7 mi 0 0) (s_und (D, nl, nt, ng) (k_fe 7 mi 0 0)).1 ((o, .inl (X.2.1 5, 1, .inr (.inl (vp_updL f 0 ((s_und (D, nl, nt, ng) (k_fe 7 mi 0 0)).2.toInt64))))) :: ws) H) ∧ (s_x_pass D nl nt ng mi ≠ 0 → k_N X n ad L (k_g C 0 D) fr ((o, .inl (X.2.1 5, 1, .inr (.inl f))) :: ws) H)) (fun _ _ => False) 5 805 := by
  refine k_XH.of (cc := cL_pass) (maxL := 4) (ret := some .int) (hh := [(0, 9, 12, 13), (0, 9, 15, 15)]) (by decide) rfl (Nat.le_of_ble_eq_true rfl) ?_
  intro p e s m args below meth c ls hx hb hr hml hown hts hlocks hnm ht hK hW hl
  have hL : ∀ q ∈ ([] : List Loc), k_B X ≤ q.base := fun _ h => nomatch h
  have hl : lv_has ls 4 [(0, .ref (ad 5 16 0)), (1, .int mi), (2, .ref o)] := hl
  refine lv_aload_n hx hb dL_pass_0 rfl (lv_at hl 2 rfl) ?_
  refine lv_iconst (v := 0) hx hb dL_pass_1 (by decide) ?_
  refine lv_aload_n hx hb dL_pass_2 rfl (lv_at hl 0 rfl) ?_
  refine lv_iload_n hx hb dL_pass_3 rfl (lv_at hl 1 rfl) ?_
  obtain ⟨fr1, hF, hback⟩ := hW.freeze
  refine kx_callV (As := [.int mi]) (rest := [.int 0, .ref o]) ⟨hx, hb, hml, hown, hts⟩ hK (c_X6_pass X l hd D hc hwf h9 hne mi hl9) (cwV 1 hts gL_pass_X6_pass rfl rfl rfl (by decide +kernel) ⟨Nat.le_of_ble_eq_true rfl, Nat.le_of_ble_eq_true rfl⟩) (k_recv hK (k_ev hF) 16 0 hc.o (fun _ => rfl) rfl) hF rfl hl.1 rfl (Nat.le_of_ble_eq_true rfl) dL_pass_4 ⟨Nat.le_of_ble_eq_true rfl, Nat.le_of_ble_eq_true rfl⟩ hL (fun E ce q H locs hp hL hce hcv hcl => ?_) (fun v9 H locs hp hL => ?_)
  ·
    rcases hp with ⟨rfl, hx1, hW⟩ | ⟨rfl, hx1, hW⟩
    ·
      refine k_catch (own := RL) (s0 := 0) (e0 := 9) (hpc := 12) (ct := 13) [] [(0, 9, 15, 15)] 16 hown hK ht (fun z hz => by cases hz) rfl (by decide) (hts (.classLink RL 13 "java/lang/IllegalArgumentException") (by decide +kernel)) rfl hce hcv hcl ?_
      refine lv_astore_n (lv' := [(3, .ref q), (0, .ref (ad 5 16 0)), (1, .int mi), (2, .ref o)]) hx hb dL_pass_12 rfl hl (by decide) rfl (fun ls hl => ?_)
      refine lv_iconst (v := 1) hx hb dL_pass_13 (by decide) ?_
      refine k_more (cells' := 5) (slots' := 805) (Nat.le_of_ble_eq_true rfl) (Nat.le_of_ble_eq_true rfl) (vx_ret ?_)
      exact k_iret hx hb hr hlocks ⟨by rw [hx1], fun h => absurd (hx1.symm.trans h) (by decide), fun _ => hback _ _ _ _ _ hW⟩ hL dL_pass_14
    ·
      refine k_catch (own := RL) (s0 := 0) (e0 := 9) (hpc := 15) (ct := 15) [(0, 9, 12, 13)] [] 17 hown hK ht (fun z hz => by
          simp only [tableOf, List.map_cons, List.map_nil, List.mem_cons, List.not_mem_nil, or_false] at hz
          subst hz
          · exact ⟨by decide, "java/lang/IllegalArgumentException", hts (.classLink RL 13 "java/lang/IllegalArgumentException") (by decide +kernel), by decide +kernel⟩) rfl (by decide) (hts (.classLink RL 15 "java/lang/IllegalStateException") (by decide +kernel)) rfl hce hcv hcl ?_
      refine lv_astore_n (lv' := [(3, .ref q), (0, .ref (ad 5 16 0)), (1, .int mi), (2, .ref o)]) hx hb dL_pass_15 rfl hl (by decide) rfl (fun ls hl => ?_)
      refine lv_iconst (v := 2) hx hb dL_pass_16 (by decide) ?_
      refine k_more (cells' := 5) (slots' := 805) (Nat.le_of_ble_eq_true rfl) (Nat.le_of_ble_eq_true rfl) (vx_ret ?_)
      exact k_iret hx hb hr hlocks ⟨by rw [hx1], fun h => absurd (hx1.symm.trans h) (by decide), fun _ => hback _ _ _ _ _ hW⟩ hL dL_pass_17
  ·
    obtain ⟨hx0, rfl, n1, ad1, L1, C1, q1, q2, q3, q4, q5, q6, q7, q8, q9, hW1⟩ := hp
    have hW := hback _ _ _ _ _ hW1
    refine lv_i2l (v := ((s_und (D, nl, nt, ng) (k_fe 7 mi 0 0)).2.toInt64)) hx hb dL_pass_7 rfl ?_
    refine k_nlast (k := 0) (ws' := (o, .inl (X.2.1 5, 1, .inr (.inl (vp_updL f 0 ((s_und (D, nl, nt, ng) (k_fe 7 mi 0 0)).2.toInt64))))) :: ws) hx hb hK hW hL 0 rfl (by decide) (by unfold vp_in; decide) rfl dL_pass_8 (fun H locs hW hL => ?_)
    refine lv_goto (tgt := 18) hx hb dL_pass_9 (by decide) ?_
    refine lv_iconst (v := 0) hx hb dL_pass_18 (by decide) ?_
    refine k_more (cells' := 5) (slots' := 805) (Nat.le_of_ble_eq_true rfl) (Nat.le_of_ble_eq_true rfl) (vx_ret ?_)
    exact k_iret hx hb hr hlocks ⟨by rw [hx0], fun _ => ⟨n1, ad1, L1, C1, q1, q2, q3, q4, q5, q6, q7, q8, q9, hW⟩, fun h => absurd hx0 h⟩ hL dL_pass_19
set_option maxHeartbeats 400000 in
set_option maxRecDepth 100000 in
theorem c_L_power (X : kX) (l : Launch) {n : Nat → Nat → Nat} {ad L : Nat → Nat → Nat → Nat} {C : Nat → Nat → Nat → Nat → Int32} {fr : Nat → Option Cell} {nl nt ng : Nat} (hd : kDk n 0 nl nt ng) (D : KD) {ne : Nat} (hc : kCx n ne) (d : Int32) (hl9 : l.stackTraces = false) {ws : va_W} {o : Nat} {f : Nat → Int64} : k_X X l yL_power wsL_power ({ frames := 8, cells := 1, slots := 6, locals := 131 }) [.ref (ad 5 16 0), .int d, .ref o] (k_N X n ad L (k_g C 0 D) fr ((o, .inl (X.2.1 5, 1, .inr (.inl f))) :: ws)) (fun v H => v = some (.int (s_x_power D nl nt ng d)) ∧ (s_x_power D nl nt ng d = 0 → k_N X n ad L (k_g C 0 D) fr ((o, .inl (X.2.1 5, 1, .inr (.inl (vp_updL f 0 ((s_X0_powerAt D nl nt ng d).toInt64))))) :: ws) H) ∧ (s_x_power D nl nt ng d ≠ 0 → k_N X n ad L (k_g C 0 D) fr ((o, .inl (X.2.1 5, 1, .inr (.inl f))) :: ws) H)) (fun _ _ => False) 1 6 := by
  refine k_XH.of (cc := cL_power) (maxL := 4) (ret := some .int) (hh := [(0, 9, 12, 21)]) (by decide) rfl (Nat.le_of_ble_eq_true rfl) ?_
  intro p e s m args below meth c ls hx hb hr hml hown hts hlocks hnm ht hK hW hl
  have hL : ∀ q ∈ ([] : List Loc), k_B X ≤ q.base := fun _ h => nomatch h
  have hl : lv_has ls 4 [(0, .ref (ad 5 16 0)), (1, .int d), (2, .ref o)] := hl
  refine lv_aload_n hx hb dL_power_0 rfl (lv_at hl 2 rfl) ?_
  refine lv_iconst (v := 0) hx hb dL_power_1 (by decide) ?_
  refine lv_aload_n hx hb dL_power_2 rfl (lv_at hl 0 rfl) ?_
  refine lv_iload_n hx hb dL_power_3 rfl (lv_at hl 1 rfl) ?_
  obtain ⟨fr1, hF, hback⟩ := hW.freeze
  refine kx_callV (As := [.int d]) (rest := [.int 0, .ref o]) ⟨hx, hb, hml, hown, hts⟩ hK (c_X6_power X l hd D hc d hl9) (cwV 1 hts gL_power_X6_power rfl rfl rfl (by decide +kernel) ⟨Nat.le_of_ble_eq_true rfl, Nat.le_of_ble_eq_true rfl⟩) (k_recv hK (k_ev hF) 16 0 hc.o (fun _ => rfl) rfl) hF rfl hl.1 rfl (Nat.le_of_ble_eq_true rfl) dL_power_4 ⟨Nat.le_of_ble_eq_true rfl, Nat.le_of_ble_eq_true rfl⟩ hL (fun E ce q H locs hp hL hce hcv hcl => ?_) (fun v9 H locs hp hL => ?_)
  ·
    obtain ⟨rfl, hx1, hW⟩ := hp
    refine k_catch (own := RL) (s0 := 0) (e0 := 9) (hpc := 12) (ct := 21) [] [] 15 hown hK ht (fun z hz => by cases hz) rfl (by decide) (hts (.classLink RL 21 "java/lang/IndexOutOfBoundsException") (by decide +kernel)) rfl hce hcv hcl ?_
    refine lv_astore_n (lv' := [(3, .ref q), (0, .ref (ad 5 16 0)), (1, .int d), (2, .ref o)]) hx hb dL_power_12 rfl hl (by decide) rfl (fun ls hl => ?_)
    refine lv_iconst (v := 1) hx hb dL_power_13 (by decide) ?_
    refine k_more (cells' := 1) (slots' := 6) (Nat.le_of_ble_eq_true rfl) (Nat.le_of_ble_eq_true rfl) (vx_ret ?_)
    exact k_iret hx hb hr hlocks ⟨by rw [hx1], fun h => absurd (hx1.symm.trans h) (by decide), fun _ => hback _ _ _ _ _ hW⟩ hL dL_power_14
  ·
    obtain ⟨hx0, rfl, hW1⟩ := hp
    have hW := hback _ _ _ _ _ hW1
    refine lv_i2l (v := ((s_X0_powerAt D nl nt ng d).toInt64)) hx hb dL_power_7 rfl ?_
    refine k_nlast (k := 0) (ws' := (o, .inl (X.2.1 5, 1, .inr (.inl (vp_updL f 0 ((s_X0_powerAt D nl nt ng d).toInt64))))) :: ws) hx hb hK hW hL 0 rfl (by decide) (by unfold vp_in; decide) rfl dL_power_8 (fun H locs hW hL => ?_)
    refine lv_goto (tgt := 15) hx hb dL_power_9 (by decide) ?_
    refine lv_iconst (v := 0) hx hb dL_power_15 (by decide) ?_
    refine k_more (cells' := 1) (slots' := 6) (Nat.le_of_ble_eq_true rfl) (Nat.le_of_ble_eq_true rfl) (vx_ret ?_)
    exact k_iret hx hb hr hlocks ⟨by rw [hx0], fun _ => hW, fun h => absurd hx0 h⟩ hL dL_power_16
set_option maxHeartbeats 400000 in
set_option maxRecDepth 100000 in
theorem c_L_stateOf (X : kX) (l : Launch) {n : Nat → Nat → Nat} {ad L : Nat → Nat → Nat → Nat} {C : Nat → Nat → Nat → Nat → Int32} {fr : Nat → Option Cell} {nl nt ng : Nat} (hd : kDk n 0 nl nt ng) (D : KD) {ne : Nat} (hc : kCx n ne) (lo : Int32) (hst : ∀ i, i < nl → narrow .char (.int (D 4 i 5)) = .int (D 4 i 5)) (hl9 : l.stackTraces = false) {ws : va_W} {o : Nat} {f : Nat → Int64} : k_X X l yL_stateOf wsL_stateOf ({ frames := 8, cells := 1, slots := 6, locals := 132 }) [.ref (ad 5 16 0), .int lo, .ref o] (k_N X n ad L (k_g C 0 D) fr ((o, .inl (X.2.1 5, 1, .inr (.inl f))) :: ws)) (fun v H => v = some (.int (s_x_stateOf D nl nt ng lo)) ∧ (s_x_stateOf D nl nt ng lo = 0 → k_N X n ad L (k_g C 0 D) fr ((o, .inl (X.2.1 5, 1, .inr (.inl (vp_updL f 0 ((D 4 (lo.toNatClampNeg) 5).toInt64))))) :: ws) H) ∧ (s_x_stateOf D nl nt ng lo ≠ 0 → k_N X n ad L (k_g C 0 D) fr ((o, .inl (X.2.1 5, 1, .inr (.inl f))) :: ws) H)) (fun _ _ => False) 1 6 := by
  refine k_XH.of (cc := cL_stateOf) (maxL := 4) (ret := some .int) (hh := [(0, 9, 12, 21)]) (by decide) rfl (Nat.le_of_ble_eq_true rfl) ?_
  intro p e s m args below meth c ls hx hb hr hml hown hts hlocks hnm ht hK hW hl
  have hL : ∀ q ∈ ([] : List Loc), k_B X ≤ q.base := fun _ h => nomatch h
  have hl : lv_has ls 4 [(0, .ref (ad 5 16 0)), (1, .int lo), (2, .ref o)] := hl
  refine lv_aload_n hx hb dL_stateOf_0 rfl (lv_at hl 2 rfl) ?_
  refine lv_iconst (v := 0) hx hb dL_stateOf_1 (by decide) ?_
  refine lv_aload_n hx hb dL_stateOf_2 rfl (lv_at hl 0 rfl) ?_
  refine lv_iload_n hx hb dL_stateOf_3 rfl (lv_at hl 1 rfl) ?_
  obtain ⟨fr1, hF, hback⟩ := hW.freeze
  refine kx_callV (As := [.int lo]) (rest := [.int 0, .ref o]) ⟨hx, hb, hml, hown, hts⟩ hK (c_X6_stateOf X l hd D hc lo hst hl9) (cwV 1 hts gL_stateOf_X6_stateOf rfl rfl rfl (by decide +kernel) ⟨Nat.le_of_ble_eq_true rfl, Nat.le_of_ble_eq_true rfl⟩) (k_recv hK (k_ev hF) 16 0 hc.o (fun _ => rfl) rfl) hF rfl hl.1 rfl (Nat.le_of_ble_eq_true rfl) dL_stateOf_4 ⟨Nat.le_of_ble_eq_true rfl, Nat.le_of_ble_eq_true rfl⟩ hL (fun E ce q H locs hp hL hce hcv hcl => ?_) (fun v9 H locs hp hL => ?_)
  ·
    obtain ⟨rfl, hx1, hW⟩ := hp
    refine k_catch (own := RL) (s0 := 0) (e0 := 9) (hpc := 12) (ct := 21) [] [] 15 hown hK ht (fun z hz => by cases hz) rfl (by decide) (hts (.classLink RL 21 "java/lang/IndexOutOfBoundsException") (by decide +kernel)) rfl hce hcv hcl ?_
    refine lv_astore_n (lv' := [(3, .ref q), (0, .ref (ad 5 16 0)), (1, .int lo), (2, .ref o)]) hx hb dL_stateOf_12 rfl hl (by decide) rfl (fun ls hl => ?_)
    refine lv_iconst (v := 1) hx hb dL_stateOf_13 (by decide) ?_
    refine k_more (cells' := 1) (slots' := 6) (Nat.le_of_ble_eq_true rfl) (Nat.le_of_ble_eq_true rfl) (vx_ret ?_)
    exact k_iret hx hb hr hlocks ⟨by rw [hx1], fun h => absurd (hx1.symm.trans h) (by decide), fun _ => hback _ _ _ _ _ hW⟩ hL dL_stateOf_14
  ·
    obtain ⟨hx0, rfl, hW1⟩ := hp
    have hW := hback _ _ _ _ _ hW1
    refine lv_i2l (v := ((D 4 (lo.toNatClampNeg) 5).toInt64)) hx hb dL_stateOf_7 rfl ?_
    refine k_nlast (k := 0) (ws' := (o, .inl (X.2.1 5, 1, .inr (.inl (vp_updL f 0 ((D 4 (lo.toNatClampNeg) 5).toInt64))))) :: ws) hx hb hK hW hL 0 rfl (by decide) (by unfold vp_in; decide) rfl dL_stateOf_8 (fun H locs hW hL => ?_)
    refine lv_goto (tgt := 15) hx hb dL_stateOf_9 (by decide) ?_
    refine lv_iconst (v := 0) hx hb dL_stateOf_15 (by decide) ?_
    refine k_more (cells' := 1) (slots' := 6) (Nat.le_of_ble_eq_true rfl) (Nat.le_of_ble_eq_true rfl) (vx_ret ?_)
    exact k_iret hx hb hr hlocks ⟨by rw [hx0], fun _ => hW, fun h => absurd hx0 h⟩ hL dL_stateOf_16
set_option maxHeartbeats 400000 in
set_option maxRecDepth 100000 in
theorem c_L_lorryAt (X : kX) (l : Launch) {n : Nat → Nat → Nat} {ad L : Nat → Nat → Nat → Nat} {C : Nat → Nat → Nat → Nat → Int32} {fr : Nat → Option Cell} {nl nt ng : Nat} (hd : kDk n 0 nl nt ng) (D : KD) {ne : Nat} (hc : kCx n ne) (hwf : cWF D nl nt) (d : Int32) (hl9 : l.stackTraces = false) {ws : va_W} {o : Nat} {f : Nat → Int64} : k_X X l yL_lorryAt wsL_lorryAtN ({ frames := 8, cells := 2, slots := 12, locals := 132 }) [.ref (ad 5 16 0), .int d, .ref o] (k_N X n ad L (k_g C 0 D) fr ((o, .inl (X.2.1 5, 1, .inr (.inl f))) :: ws)) (fun v H => v = some (.int (s_x_lorryAt D nl nt ng d)) ∧ (s_x_lorryAt D nl nt ng d = 0 → k_N X n ad L (k_g C 0 D) fr ((o, .inl (X.2.1 5, 1, .inr (.inl (vp_updL f 0 ((D 4 ((s_X0_standingAt D d).toNatClampNeg) 0).toInt64))))) :: ws) H) ∧ (s_x_lorryAt D nl nt ng d ≠ 0 → k_N X n ad L (k_g C 0 D) fr ((o, .inl (X.2.1 5, 1, .inr (.inl f))) :: ws) H)) (fun _ _ => False) 2 12 := by
  refine k_XH.of (cc := cL_lorryAt) (maxL := 4) (ret := some .int) (hh := [(0, 9, 12, 21), (0, 9, 15, 55)]) (by decide) rfl (Nat.le_of_ble_eq_true rfl) ?_
  intro p e s m args below meth c ls hx hb hr hml hown hts hlocks hnm ht hK hW hl
  have hL : ∀ q ∈ ([] : List Loc), k_B X ≤ q.base := fun _ h => nomatch h
  have hl : lv_has ls 4 [(0, .ref (ad 5 16 0)), (1, .int d), (2, .ref o)] := hl
  refine lv_aload_n hx hb dL_lorryAt_0 rfl (lv_at hl 2 rfl) ?_
  refine lv_iconst (v := 0) hx hb dL_lorryAt_1 (by decide) ?_
  refine lv_aload_n hx hb dL_lorryAt_2 rfl (lv_at hl 0 rfl) ?_
  refine lv_iload_n hx hb dL_lorryAt_3 rfl (lv_at hl 1 rfl) ?_
  obtain ⟨fr1, hF, hback⟩ := hW.freeze
  refine kx_callV (As := [.int d]) (rest := [.int 0, .ref o]) ⟨hx, hb, hml, hown, hts⟩ hK (c_X6_lorryAt X l hd D hc hwf d hl9) (cwV 1 hts gL_lorryAt_X6_lorryAt rfl rfl rfl (by decide +kernel) ⟨Nat.le_of_ble_eq_true rfl, Nat.le_of_ble_eq_true rfl⟩) (k_recv hK (k_ev hF) 16 0 hc.o (fun _ => rfl) rfl) hF rfl hl.1 rfl (Nat.le_of_ble_eq_true rfl) dL_lorryAt_4 ⟨Nat.le_of_ble_eq_true rfl, Nat.le_of_ble_eq_true rfl⟩ hL (fun E ce q H locs hp hL hce hcv hcl => ?_) (fun v9 H locs hp hL => ?_)
  ·
    rcases hp with ⟨rfl, hx1, hW⟩ | ⟨rfl, hx1, hW⟩
    ·
      refine k_catch (own := RL) (s0 := 0) (e0 := 9) (hpc := 12) (ct := 21) [] [(0, 9, 15, 55)] 15 hown hK ht (fun z hz => by cases hz) rfl (by decide) (hts (.classLink RL 21 "java/lang/IndexOutOfBoundsException") (by decide +kernel)) rfl hce hcv hcl ?_
      refine lv_astore_n (lv' := [(3, .ref q), (0, .ref (ad 5 16 0)), (1, .int d), (2, .ref o)]) hx hb dL_lorryAt_12 rfl hl (by decide) rfl (fun ls hl => ?_)
      refine lv_iconst (v := 1) hx hb dL_lorryAt_13 (by decide) ?_
      refine k_more (cells' := 2) (slots' := 12) (Nat.le_of_ble_eq_true rfl) (Nat.le_of_ble_eq_true rfl) (vx_ret ?_)
      exact k_iret hx hb hr hlocks ⟨by rw [hx1], fun h => absurd (hx1.symm.trans h) (by decide), fun _ => hback _ _ _ _ _ hW⟩ hL dL_lorryAt_14
    ·
      refine k_catch (own := RL) (s0 := 0) (e0 := 9) (hpc := 15) (ct := 55) [(0, 9, 12, 21)] [] 19 hown hK ht (fun z hz => by
          simp only [tableOf, List.map_cons, List.map_nil, List.mem_cons, List.not_mem_nil, or_false] at hz
          subst hz
          · exact ⟨by decide, "java/lang/IndexOutOfBoundsException", hts (.classLink RL 21 "java/lang/IndexOutOfBoundsException") (by decide +kernel), by decide +kernel⟩) rfl (by decide) (hts (.classLink RL 55 "java/util/NoSuchElementException") (by decide +kernel)) rfl hce hcv hcl ?_
      refine lv_astore_n (lv' := [(3, .ref q), (0, .ref (ad 5 16 0)), (1, .int d), (2, .ref o)]) hx hb dL_lorryAt_15 rfl hl (by decide) rfl (fun ls hl => ?_)
      refine lv_iconst (v := 2) hx hb dL_lorryAt_16 (by decide) ?_
      refine k_more (cells' := 2) (slots' := 12) (Nat.le_of_ble_eq_true rfl) (Nat.le_of_ble_eq_true rfl) (vx_ret ?_)
      exact k_iret hx hb hr hlocks ⟨by rw [hx1], fun h => absurd (hx1.symm.trans h) (by decide), fun _ => hback _ _ _ _ _ hW⟩ hL dL_lorryAt_17
  ·
    obtain ⟨hx0, rfl, hW1⟩ := hp
    have hW := hback _ _ _ _ _ hW1
    refine lv_i2l (v := ((D 4 ((s_X0_standingAt D d).toNatClampNeg) 0).toInt64)) hx hb dL_lorryAt_7 rfl ?_
    refine k_nlast (k := 0) (ws' := (o, .inl (X.2.1 5, 1, .inr (.inl (vp_updL f 0 ((D 4 ((s_X0_standingAt D d).toNatClampNeg) 0).toInt64))))) :: ws) hx hb hK hW hL 0 rfl (by decide) (by unfold vp_in; decide) rfl dL_lorryAt_8 (fun H locs hW hL => ?_)
    refine lv_goto (tgt := 18) hx hb dL_lorryAt_9 (by decide) ?_
    refine lv_iconst (v := 0) hx hb dL_lorryAt_18 (by decide) ?_
    refine k_more (cells' := 2) (slots' := 12) (Nat.le_of_ble_eq_true rfl) (Nat.le_of_ble_eq_true rfl) (vx_ret ?_)
    exact k_iret hx hb hr hlocks ⟨by rw [hx0], fun _ => hW, fun h => absurd hx0 h⟩ hL dL_lorryAt_19
set_option maxHeartbeats 400000 in
set_option maxRecDepth 100000 in
theorem c_L_inQueue (X : kX) (l : Launch) {n : Nat → Nat → Nat} {ad L : Nat → Nat → Nat → Nat} {C : Nat → Nat → Nat → Nat → Int32} {fr : Nat → Option Cell} {nl nt ng : Nat} (hd : kDk n 0 nl nt ng) (D : KD) {ne : Nat} (hc : kCx n ne) (d : Int32) (pq : Int32) (hl9 : l.stackTraces = false) {ws : va_W} {o : Nat} {f : Nat → Int64} : k_X X l yL_inQueue wsL_inQueueN ({ frames := 8, cells := 2, slots := 12, locals := 147 }) [.ref (ad 5 16 0), .int d, .int pq, .ref o] (k_N X n ad L (k_g C 0 D) fr ((o, .inl (X.2.1 5, 1, .inr (.inl f))) :: ws)) (fun v H => v = some (.int (s_x_inQueue D nl nt ng d pq)) ∧ (s_x_inQueue D nl nt ng d pq = 0 → k_N X n ad L (k_g C 0 D) fr ((o, .inl (X.2.1 5, 1, .inr (.inl (vp_updL f 0 ((D 4 ((s_X0_queuedFor D nl nt ng d pq).toNatClampNeg) 0).toInt64))))) :: ws) H) ∧ (s_x_inQueue D nl nt ng d pq ≠ 0 → k_N X n ad L (k_g C 0 D) fr ((o, .inl (X.2.1 5, 1, .inr (.inl f))) :: ws) H)) (fun _ _ => False) 2 12 := by
  refine k_XH.of (cc := cL_inQueue) (maxL := 5) (ret := some .int) (hh := [(0, 10, 13, 21), (0, 10, 17, 55)]) (by decide) rfl (Nat.le_of_ble_eq_true rfl) ?_
  intro p e s m args below meth c ls hx hb hr hml hown hts hlocks hnm ht hK hW hl
  have hL : ∀ q ∈ ([] : List Loc), k_B X ≤ q.base := fun _ h => nomatch h
  have hl : lv_has ls 5 [(0, .ref (ad 5 16 0)), (1, .int d), (2, .int pq), (3, .ref o)] := hl
  refine lv_aload_n hx hb dL_inQueue_0 rfl (lv_at hl 3 rfl) ?_
  refine lv_iconst (v := 0) hx hb dL_inQueue_1 (by decide) ?_
  refine lv_aload_n hx hb dL_inQueue_2 rfl (lv_at hl 0 rfl) ?_
  refine lv_iload_n hx hb dL_inQueue_3 rfl (lv_at hl 1 rfl) ?_
  refine lv_iload_n hx hb dL_inQueue_4 rfl (lv_at hl 2 rfl) ?_
  obtain ⟨fr1, hF, hback⟩ := hW.freeze
  refine kx_callV (As := [.int d, .int pq]) (rest := [.int 0, .ref o]) ⟨hx, hb, hml, hown, hts⟩ hK (c_X6_inQueue X l hd D hc d pq hl9) (cwV 2 hts gL_inQueue_X6_inQueue rfl rfl rfl (by decide +kernel) ⟨Nat.le_of_ble_eq_true rfl, Nat.le_of_ble_eq_true rfl⟩) (k_recv hK (k_ev hF) 16 0 hc.o (fun _ => rfl) rfl) hF rfl hl.1 rfl (Nat.le_of_ble_eq_true rfl) dL_inQueue_5 ⟨Nat.le_of_ble_eq_true rfl, Nat.le_of_ble_eq_true rfl⟩ hL (fun E ce q H locs hp hL hce hcv hcl => ?_) (fun v9 H locs hp hL => ?_)
  ·
    rcases hp with ⟨rfl, hx1, hW⟩ | ⟨rfl, hx1, hW⟩
    ·
      refine k_catch (own := RL) (s0 := 0) (e0 := 10) (hpc := 13) (ct := 21) [] [(0, 10, 17, 55)] 15 hown hK ht (fun z hz => by cases hz) rfl (by decide) (hts (.classLink RL 21 "java/lang/IndexOutOfBoundsException") (by decide +kernel)) rfl hce hcv hcl ?_
      refine lv_astore (lv' := [(4, .ref q), (0, .ref (ad 5 16 0)), (1, .int d), (2, .int pq), (3, .ref o)]) hx hb dL_inQueue_13 hl (by decide) rfl (fun ls hl => ?_)
      refine lv_iconst (v := 1) hx hb dL_inQueue_15 (by decide) ?_
      refine k_more (cells' := 2) (slots' := 12) (Nat.le_of_ble_eq_true rfl) (Nat.le_of_ble_eq_true rfl) (vx_ret ?_)
      exact k_iret hx hb hr hlocks ⟨by rw [hx1], fun h => absurd (hx1.symm.trans h) (by decide), fun _ => hback _ _ _ _ _ hW⟩ hL dL_inQueue_16
    ·
      refine k_catch (own := RL) (s0 := 0) (e0 := 10) (hpc := 17) (ct := 55) [(0, 10, 13, 21)] [] 19 hown hK ht (fun z hz => by
          simp only [tableOf, List.map_cons, List.map_nil, List.mem_cons, List.not_mem_nil, or_false] at hz
          subst hz
          · exact ⟨by decide, "java/lang/IndexOutOfBoundsException", hts (.classLink RL 21 "java/lang/IndexOutOfBoundsException") (by decide +kernel), by decide +kernel⟩) rfl (by decide) (hts (.classLink RL 55 "java/util/NoSuchElementException") (by decide +kernel)) rfl hce hcv hcl ?_
      refine lv_astore (lv' := [(4, .ref q), (0, .ref (ad 5 16 0)), (1, .int d), (2, .int pq), (3, .ref o)]) hx hb dL_inQueue_17 hl (by decide) rfl (fun ls hl => ?_)
      refine lv_iconst (v := 2) hx hb dL_inQueue_19 (by decide) ?_
      refine k_more (cells' := 2) (slots' := 12) (Nat.le_of_ble_eq_true rfl) (Nat.le_of_ble_eq_true rfl) (vx_ret ?_)
      exact k_iret hx hb hr hlocks ⟨by rw [hx1], fun h => absurd (hx1.symm.trans h) (by decide), fun _ => hback _ _ _ _ _ hW⟩ hL dL_inQueue_20
  ·
    obtain ⟨hx0, rfl, hW1⟩ := hp
    have hW := hback _ _ _ _ _ hW1
    refine lv_i2l (v := ((D 4 ((s_X0_queuedFor D nl nt ng d pq).toNatClampNeg) 0).toInt64)) hx hb dL_inQueue_8 rfl ?_
    refine k_nlast (k := 0) (ws' := (o, .inl (X.2.1 5, 1, .inr (.inl (vp_updL f 0 ((D 4 ((s_X0_queuedFor D nl nt ng d pq).toNatClampNeg) 0).toInt64))))) :: ws) hx hb hK hW hL 0 rfl (by decide) (by unfold vp_in; decide) rfl dL_inQueue_9 (fun H locs hW hL => ?_)
    refine lv_goto (tgt := 21) hx hb dL_inQueue_10 (by decide) ?_
    refine lv_iconst (v := 0) hx hb dL_inQueue_21 (by decide) ?_
    refine k_more (cells' := 2) (slots' := 12) (Nat.le_of_ble_eq_true rfl) (Nat.le_of_ble_eq_true rfl) (vx_ret ?_)
    exact k_iret hx hb hr hlocks ⟨by rw [hx0], fun _ => hW, fun h => absurd hx0 h⟩ hL dL_inQueue_22
set_option maxHeartbeats 400000 in
set_option maxRecDepth 100000 in
theorem c_L_unloaded (X : kX) (l : Launch) {n : Nat → Nat → Nat} {ad L : Nat → Nat → Nat → Nat} {C : Nat → Nat → Nat → Nat → Int32} {fr : Nat → Option Cell} {nl nt ng : Nat} (hd : kDk n 0 nl nt ng) (D : KD) {ne : Nat} (hc : kCx n ne) (t : Int32) (hl9 : l.stackTraces = false) {ws : va_W} {o : Nat} {f : Nat → Int64} : k_X X l yL_unloaded wsL_unloaded ({ frames := 8, cells := 1, slots := 6, locals := 132 }) [.ref (ad 5 16 0), .int t, .ref o] (k_N X n ad L (k_g C 0 D) fr ((o, .inl (X.2.1 5, 1, .inr (.inl f))) :: ws)) (fun v H => v = some (.int (s_x_unloaded D nl nt ng t)) ∧ (s_x_unloaded D nl nt ng t = 0 → k_N X n ad L (k_g C 0 D) fr ((o, .inl (X.2.1 5, 1, .inr (.inl (vp_updL f 0 ((D 5 (t.toNatClampNeg) 3).toInt64))))) :: ws) H) ∧ (s_x_unloaded D nl nt ng t ≠ 0 → k_N X n ad L (k_g C 0 D) fr ((o, .inl (X.2.1 5, 1, .inr (.inl f))) :: ws) H)) (fun _ _ => False) 1 6 := by
  refine k_XH.of (cc := cL_unloaded) (maxL := 4) (ret := some .int) (hh := [(0, 9, 12, 21)]) (by decide) rfl (Nat.le_of_ble_eq_true rfl) ?_
  intro p e s m args below meth c ls hx hb hr hml hown hts hlocks hnm ht hK hW hl
  have hL : ∀ q ∈ ([] : List Loc), k_B X ≤ q.base := fun _ h => nomatch h
  have hl : lv_has ls 4 [(0, .ref (ad 5 16 0)), (1, .int t), (2, .ref o)] := hl
  refine lv_aload_n hx hb dL_unloaded_0 rfl (lv_at hl 2 rfl) ?_
  refine lv_iconst (v := 0) hx hb dL_unloaded_1 (by decide) ?_
  refine lv_aload_n hx hb dL_unloaded_2 rfl (lv_at hl 0 rfl) ?_
  refine lv_iload_n hx hb dL_unloaded_3 rfl (lv_at hl 1 rfl) ?_
  obtain ⟨fr1, hF, hback⟩ := hW.freeze
  refine kx_callV (As := [.int t]) (rest := [.int 0, .ref o]) ⟨hx, hb, hml, hown, hts⟩ hK (c_X6_unloaded X l hd D hc t hl9) (cwV 1 hts gL_unloaded_X6_unloaded rfl rfl rfl (by decide +kernel) ⟨Nat.le_of_ble_eq_true rfl, Nat.le_of_ble_eq_true rfl⟩) (k_recv hK (k_ev hF) 16 0 hc.o (fun _ => rfl) rfl) hF rfl hl.1 rfl (Nat.le_of_ble_eq_true rfl) dL_unloaded_4 ⟨Nat.le_of_ble_eq_true rfl, Nat.le_of_ble_eq_true rfl⟩ hL (fun E ce q H locs hp hL hce hcv hcl => ?_) (fun v9 H locs hp hL => ?_)
  ·
    obtain ⟨rfl, hx1, hW⟩ := hp
    refine k_catch (own := RL) (s0 := 0) (e0 := 9) (hpc := 12) (ct := 21) [] [] 15 hown hK ht (fun z hz => by cases hz) rfl (by decide) (hts (.classLink RL 21 "java/lang/IndexOutOfBoundsException") (by decide +kernel)) rfl hce hcv hcl ?_
    refine lv_astore_n (lv' := [(3, .ref q), (0, .ref (ad 5 16 0)), (1, .int t), (2, .ref o)]) hx hb dL_unloaded_12 rfl hl (by decide) rfl (fun ls hl => ?_)
    refine lv_iconst (v := 1) hx hb dL_unloaded_13 (by decide) ?_
    refine k_more (cells' := 1) (slots' := 6) (Nat.le_of_ble_eq_true rfl) (Nat.le_of_ble_eq_true rfl) (vx_ret ?_)
    exact k_iret hx hb hr hlocks ⟨by rw [hx1], fun h => absurd (hx1.symm.trans h) (by decide), fun _ => hback _ _ _ _ _ hW⟩ hL dL_unloaded_14
  ·
    obtain ⟨hx0, rfl, hW1⟩ := hp
    have hW := hback _ _ _ _ _ hW1
    refine lv_i2l (v := ((D 5 (t.toNatClampNeg) 3).toInt64)) hx hb dL_unloaded_7 rfl ?_
    refine k_nlast (k := 0) (ws' := (o, .inl (X.2.1 5, 1, .inr (.inl (vp_updL f 0 ((D 5 (t.toNatClampNeg) 3).toInt64))))) :: ws) hx hb hK hW hL 0 rfl (by decide) (by unfold vp_in; decide) rfl dL_unloaded_8 (fun H locs hW hL => ?_)
    refine lv_goto (tgt := 15) hx hb dL_unloaded_9 (by decide) ?_
    refine lv_iconst (v := 0) hx hb dL_unloaded_15 (by decide) ?_
    refine k_more (cells' := 1) (slots' := 6) (Nat.le_of_ble_eq_true rfl) (Nat.le_of_ble_eq_true rfl) (vx_ret ?_)
    exact k_iret hx hb hr hlocks ⟨by rw [hx0], fun _ => hW, fun h => absurd hx0 h⟩ hL dL_unloaded_16
set_option maxHeartbeats 400000 in
set_option maxRecDepth 100000 in
theorem c_L_ready (X : kX) (l : Launch) {n : Nat → Nat → Nat} {ad L : Nat → Nat → Nat → Nat} {C : Nat → Nat → Nat → Nat → Int32} {fr : Nat → Option Cell} {nl nt ng : Nat} (hd : kDk n 0 nl nt ng) (D : KD) {ne : Nat} (hc : kCx n ne) (t : Int32) (hl9 : l.stackTraces = false) {ws : va_W} {o : Nat} {f : Nat → Int64} : k_X X l yL_ready wsL_ready ({ frames := 8, cells := 1, slots := 6, locals := 132 }) [.ref (ad 5 16 0), .int t, .ref o] (k_N X n ad L (k_g C 0 D) fr ((o, .inl (X.2.1 5, 1, .inr (.inl f))) :: ws)) (fun v H => v = some (.int (s_x_ready D nl nt ng t)) ∧ (s_x_ready D nl nt ng t = 0 → k_N X n ad L (k_g C 0 D) fr ((o, .inl (X.2.1 5, 1, .inr (.inl (vp_updL f 0 ((D 5 (t.toNatClampNeg) 4).toInt64))))) :: ws) H) ∧ (s_x_ready D nl nt ng t ≠ 0 → k_N X n ad L (k_g C 0 D) fr ((o, .inl (X.2.1 5, 1, .inr (.inl f))) :: ws) H)) (fun _ _ => False) 1 6 := by
  refine k_XH.of (cc := cL_ready) (maxL := 4) (ret := some .int) (hh := [(0, 9, 12, 21)]) (by decide) rfl (Nat.le_of_ble_eq_true rfl) ?_
  intro p e s m args below meth c ls hx hb hr hml hown hts hlocks hnm ht hK hW hl
  have hL : ∀ q ∈ ([] : List Loc), k_B X ≤ q.base := fun _ h => nomatch h
  have hl : lv_has ls 4 [(0, .ref (ad 5 16 0)), (1, .int t), (2, .ref o)] := hl
  refine lv_aload_n hx hb dL_ready_0 rfl (lv_at hl 2 rfl) ?_
  refine lv_iconst (v := 0) hx hb dL_ready_1 (by decide) ?_
  refine lv_aload_n hx hb dL_ready_2 rfl (lv_at hl 0 rfl) ?_
  refine lv_iload_n hx hb dL_ready_3 rfl (lv_at hl 1 rfl) ?_
  obtain ⟨fr1, hF, hback⟩ := hW.freeze
  refine kx_callV (As := [.int t]) (rest := [.int 0, .ref o]) ⟨hx, hb, hml, hown, hts⟩ hK (c_X6_ready X l hd D hc t hl9) (cwV 1 hts gL_ready_X6_ready rfl rfl rfl (by decide +kernel) ⟨Nat.le_of_ble_eq_true rfl, Nat.le_of_ble_eq_true rfl⟩) (k_recv hK (k_ev hF) 16 0 hc.o (fun _ => rfl) rfl) hF rfl hl.1 rfl (Nat.le_of_ble_eq_true rfl) dL_ready_4 ⟨Nat.le_of_ble_eq_true rfl, Nat.le_of_ble_eq_true rfl⟩ hL (fun E ce q H locs hp hL hce hcv hcl => ?_) (fun v9 H locs hp hL => ?_)
  ·
    obtain ⟨rfl, hx1, hW⟩ := hp
    refine k_catch (own := RL) (s0 := 0) (e0 := 9) (hpc := 12) (ct := 21) [] [] 15 hown hK ht (fun z hz => by cases hz) rfl (by decide) (hts (.classLink RL 21 "java/lang/IndexOutOfBoundsException") (by decide +kernel)) rfl hce hcv hcl ?_
    refine lv_astore_n (lv' := [(3, .ref q), (0, .ref (ad 5 16 0)), (1, .int t), (2, .ref o)]) hx hb dL_ready_12 rfl hl (by decide) rfl (fun ls hl => ?_)
    refine lv_iconst (v := 1) hx hb dL_ready_13 (by decide) ?_
    refine k_more (cells' := 1) (slots' := 6) (Nat.le_of_ble_eq_true rfl) (Nat.le_of_ble_eq_true rfl) (vx_ret ?_)
    exact k_iret hx hb hr hlocks ⟨by rw [hx1], fun h => absurd (hx1.symm.trans h) (by decide), fun _ => hback _ _ _ _ _ hW⟩ hL dL_ready_14
  ·
    obtain ⟨hx0, rfl, hW1⟩ := hp
    have hW := hback _ _ _ _ _ hW1
    refine lv_i2l (v := ((D 5 (t.toNatClampNeg) 4).toInt64)) hx hb dL_ready_7 rfl ?_
    refine k_nlast (k := 0) (ws' := (o, .inl (X.2.1 5, 1, .inr (.inl (vp_updL f 0 ((D 5 (t.toNatClampNeg) 4).toInt64))))) :: ws) hx hb hK hW hL 0 rfl (by decide) (by unfold vp_in; decide) rfl dL_ready_8 (fun H locs hW hL => ?_)
    refine lv_goto (tgt := 15) hx hb dL_ready_9 (by decide) ?_
    refine lv_iconst (v := 0) hx hb dL_ready_15 (by decide) ?_
    refine k_more (cells' := 1) (slots' := 6) (Nat.le_of_ble_eq_true rfl) (Nat.le_of_ble_eq_true rfl) (vx_ret ?_)
    exact k_iret hx hb hr hlocks ⟨by rw [hx0], fun _ => hW, fun h => absurd hx0 h⟩ hL dL_ready_16
set_option maxHeartbeats 400000 in
set_option maxRecDepth 100000 in
theorem c_L_loaded (X : kX) (l : Launch) {n : Nat → Nat → Nat} {ad L : Nat → Nat → Nat → Nat} {C : Nat → Nat → Nat → Nat → Int32} {fr : Nat → Option Cell} {nl nt ng : Nat} (hd : kDk n 0 nl nt ng) (D : KD) {ne : Nat} (hc : kCx n ne) (t : Int32) (hl9 : l.stackTraces = false) {ws : va_W} {o : Nat} {f : Nat → Int64} : k_X X l yL_loaded wsL_loaded ({ frames := 8, cells := 1, slots := 6, locals := 132 }) [.ref (ad 5 16 0), .int t, .ref o] (k_N X n ad L (k_g C 0 D) fr ((o, .inl (X.2.1 5, 1, .inr (.inl f))) :: ws)) (fun v H => v = some (.int (s_x_loaded D nl nt ng t)) ∧ (s_x_loaded D nl nt ng t = 0 → k_N X n ad L (k_g C 0 D) fr ((o, .inl (X.2.1 5, 1, .inr (.inl (vp_updL f 0 ((D 5 (t.toNatClampNeg) 5).toInt64))))) :: ws) H) ∧ (s_x_loaded D nl nt ng t ≠ 0 → k_N X n ad L (k_g C 0 D) fr ((o, .inl (X.2.1 5, 1, .inr (.inl f))) :: ws) H)) (fun _ _ => False) 1 6 := by
  refine k_XH.of (cc := cL_loaded) (maxL := 4) (ret := some .int) (hh := [(0, 9, 12, 21)]) (by decide) rfl (Nat.le_of_ble_eq_true rfl) ?_
  intro p e s m args below meth c ls hx hb hr hml hown hts hlocks hnm ht hK hW hl
  have hL : ∀ q ∈ ([] : List Loc), k_B X ≤ q.base := fun _ h => nomatch h
  have hl : lv_has ls 4 [(0, .ref (ad 5 16 0)), (1, .int t), (2, .ref o)] := hl
  refine lv_aload_n hx hb dL_loaded_0 rfl (lv_at hl 2 rfl) ?_
  refine lv_iconst (v := 0) hx hb dL_loaded_1 (by decide) ?_
  refine lv_aload_n hx hb dL_loaded_2 rfl (lv_at hl 0 rfl) ?_
  refine lv_iload_n hx hb dL_loaded_3 rfl (lv_at hl 1 rfl) ?_
  obtain ⟨fr1, hF, hback⟩ := hW.freeze
  refine kx_callV (As := [.int t]) (rest := [.int 0, .ref o]) ⟨hx, hb, hml, hown, hts⟩ hK (c_X6_loaded X l hd D hc t hl9) (cwV 1 hts gL_loaded_X6_loaded rfl rfl rfl (by decide +kernel) ⟨Nat.le_of_ble_eq_true rfl, Nat.le_of_ble_eq_true rfl⟩) (k_recv hK (k_ev hF) 16 0 hc.o (fun _ => rfl) rfl) hF rfl hl.1 rfl (Nat.le_of_ble_eq_true rfl) dL_loaded_4 ⟨Nat.le_of_ble_eq_true rfl, Nat.le_of_ble_eq_true rfl⟩ hL (fun E ce q H locs hp hL hce hcv hcl => ?_) (fun v9 H locs hp hL => ?_)
  ·
    obtain ⟨rfl, hx1, hW⟩ := hp
    refine k_catch (own := RL) (s0 := 0) (e0 := 9) (hpc := 12) (ct := 21) [] [] 15 hown hK ht (fun z hz => by cases hz) rfl (by decide) (hts (.classLink RL 21 "java/lang/IndexOutOfBoundsException") (by decide +kernel)) rfl hce hcv hcl ?_
    refine lv_astore_n (lv' := [(3, .ref q), (0, .ref (ad 5 16 0)), (1, .int t), (2, .ref o)]) hx hb dL_loaded_12 rfl hl (by decide) rfl (fun ls hl => ?_)
    refine lv_iconst (v := 1) hx hb dL_loaded_13 (by decide) ?_
    refine k_more (cells' := 1) (slots' := 6) (Nat.le_of_ble_eq_true rfl) (Nat.le_of_ble_eq_true rfl) (vx_ret ?_)
    exact k_iret hx hb hr hlocks ⟨by rw [hx1], fun h => absurd (hx1.symm.trans h) (by decide), fun _ => hback _ _ _ _ _ hW⟩ hL dL_loaded_14
  ·
    obtain ⟨hx0, rfl, hW1⟩ := hp
    have hW := hback _ _ _ _ _ hW1
    refine lv_i2l (v := ((D 5 (t.toNatClampNeg) 5).toInt64)) hx hb dL_loaded_7 rfl ?_
    refine k_nlast (k := 0) (ws' := (o, .inl (X.2.1 5, 1, .inr (.inl (vp_updL f 0 ((D 5 (t.toNatClampNeg) 5).toInt64))))) :: ws) hx hb hK hW hL 0 rfl (by decide) (by unfold vp_in; decide) rfl dL_loaded_8 (fun H locs hW hL => ?_)
    refine lv_goto (tgt := 15) hx hb dL_loaded_9 (by decide) ?_
    refine lv_iconst (v := 0) hx hb dL_loaded_15 (by decide) ?_
    refine k_more (cells' := 1) (slots' := 6) (Nat.le_of_ble_eq_true rfl) (Nat.le_of_ble_eq_true rfl) (vx_ret ?_)
    exact k_iret hx hb hr hlocks ⟨by rw [hx0], fun _ => hW, fun h => absurd hx0 h⟩ hL dL_loaded_16
set_option maxHeartbeats 400000 in
set_option maxRecDepth 100000 in
theorem c_L_leftAt (X : kX) (l : Launch) {n : Nat → Nat → Nat} {ad L : Nat → Nat → Nat → Nat} {C : Nat → Nat → Nat → Nat → Int32} {fr : Nat → Option Cell} {nl nt ng : Nat} (hd : kDk n 0 nl nt ng) (D : KD) {ne : Nat} (hc : kCx n ne) (lo : Int32) (hl9 : l.stackTraces = false) {ws : va_W} {o : Nat} {f : Nat → Int64} : k_X X l yL_leftAt wsL_leftAtN ({ frames := 8, cells := 2, slots := 12, locals := 133 }) [.ref (ad 5 16 0), .int lo, .ref o] (k_N X n ad L (k_g C 0 D) fr ((o, .inl (X.2.1 5, 1, .inr (.inl f))) :: ws)) (fun v H => v = some (.int (s_x_leftAt D nl nt ng lo)) ∧ (s_x_leftAt D nl nt ng lo = 0 → k_N X n ad L (k_g C 0 D) fr ((o, .inl (X.2.1 5, 1, .inr (.inl (vp_updL f 0 ((D 4 (lo.toNatClampNeg) 7).toInt64))))) :: ws) H) ∧ (s_x_leftAt D nl nt ng lo ≠ 0 → k_N X n ad L (k_g C 0 D) fr ((o, .inl (X.2.1 5, 1, .inr (.inl f))) :: ws) H)) (fun _ _ => False) 2 12 := by
  refine k_XH.of (cc := cL_leftAt) (maxL := 4) (ret := some .int) (hh := [(0, 9, 12, 21), (0, 9, 15, 55)]) (by decide) rfl (Nat.le_of_ble_eq_true rfl) ?_
  intro p e s m args below meth c ls hx hb hr hml hown hts hlocks hnm ht hK hW hl
  have hL : ∀ q ∈ ([] : List Loc), k_B X ≤ q.base := fun _ h => nomatch h
  have hl : lv_has ls 4 [(0, .ref (ad 5 16 0)), (1, .int lo), (2, .ref o)] := hl
  refine lv_aload_n hx hb dL_leftAt_0 rfl (lv_at hl 2 rfl) ?_
  refine lv_iconst (v := 0) hx hb dL_leftAt_1 (by decide) ?_
  refine lv_aload_n hx hb dL_leftAt_2 rfl (lv_at hl 0 rfl) ?_
  refine lv_iload_n hx hb dL_leftAt_3 rfl (lv_at hl 1 rfl) ?_
  obtain ⟨fr1, hF, hback⟩ := hW.freeze
  refine kx_callV (As := [.int lo]) (rest := [.int 0, .ref o]) ⟨hx, hb, hml, hown, hts⟩ hK (c_X6_leftAt X l hd D hc lo hl9) (cwV 1 hts gL_leftAt_X6_leftAt rfl rfl rfl (by decide +kernel) ⟨Nat.le_of_ble_eq_true rfl, Nat.le_of_ble_eq_true rfl⟩) (k_recv hK (k_ev hF) 16 0 hc.o (fun _ => rfl) rfl) hF rfl hl.1 rfl (Nat.le_of_ble_eq_true rfl) dL_leftAt_4 ⟨Nat.le_of_ble_eq_true rfl, Nat.le_of_ble_eq_true rfl⟩ hL (fun E ce q H locs hp hL hce hcv hcl => ?_) (fun v9 H locs hp hL => ?_)
  ·
    rcases hp with ⟨rfl, hx1, hW⟩ | ⟨rfl, hx1, hW⟩
    ·
      refine k_catch (own := RL) (s0 := 0) (e0 := 9) (hpc := 12) (ct := 21) [] [(0, 9, 15, 55)] 15 hown hK ht (fun z hz => by cases hz) rfl (by decide) (hts (.classLink RL 21 "java/lang/IndexOutOfBoundsException") (by decide +kernel)) rfl hce hcv hcl ?_
      refine lv_astore_n (lv' := [(3, .ref q), (0, .ref (ad 5 16 0)), (1, .int lo), (2, .ref o)]) hx hb dL_leftAt_12 rfl hl (by decide) rfl (fun ls hl => ?_)
      refine lv_iconst (v := 1) hx hb dL_leftAt_13 (by decide) ?_
      refine k_more (cells' := 2) (slots' := 12) (Nat.le_of_ble_eq_true rfl) (Nat.le_of_ble_eq_true rfl) (vx_ret ?_)
      exact k_iret hx hb hr hlocks ⟨by rw [hx1], fun h => absurd (hx1.symm.trans h) (by decide), fun _ => hback _ _ _ _ _ hW⟩ hL dL_leftAt_14
    ·
      refine k_catch (own := RL) (s0 := 0) (e0 := 9) (hpc := 15) (ct := 55) [(0, 9, 12, 21)] [] 19 hown hK ht (fun z hz => by
          simp only [tableOf, List.map_cons, List.map_nil, List.mem_cons, List.not_mem_nil, or_false] at hz
          subst hz
          · exact ⟨by decide, "java/lang/IndexOutOfBoundsException", hts (.classLink RL 21 "java/lang/IndexOutOfBoundsException") (by decide +kernel), by decide +kernel⟩) rfl (by decide) (hts (.classLink RL 55 "java/util/NoSuchElementException") (by decide +kernel)) rfl hce hcv hcl ?_
      refine lv_astore_n (lv' := [(3, .ref q), (0, .ref (ad 5 16 0)), (1, .int lo), (2, .ref o)]) hx hb dL_leftAt_15 rfl hl (by decide) rfl (fun ls hl => ?_)
      refine lv_iconst (v := 2) hx hb dL_leftAt_16 (by decide) ?_
      refine k_more (cells' := 2) (slots' := 12) (Nat.le_of_ble_eq_true rfl) (Nat.le_of_ble_eq_true rfl) (vx_ret ?_)
      exact k_iret hx hb hr hlocks ⟨by rw [hx1], fun h => absurd (hx1.symm.trans h) (by decide), fun _ => hback _ _ _ _ _ hW⟩ hL dL_leftAt_17
  ·
    obtain ⟨hx0, rfl, hW1⟩ := hp
    have hW := hback _ _ _ _ _ hW1
    refine lv_i2l (v := ((D 4 (lo.toNatClampNeg) 7).toInt64)) hx hb dL_leftAt_7 rfl ?_
    refine k_nlast (k := 0) (ws' := (o, .inl (X.2.1 5, 1, .inr (.inl (vp_updL f 0 ((D 4 (lo.toNatClampNeg) 7).toInt64))))) :: ws) hx hb hK hW hL 0 rfl (by decide) (by unfold vp_in; decide) rfl dL_leftAt_8 (fun H locs hW hL => ?_)
    refine lv_goto (tgt := 18) hx hb dL_leftAt_9 (by decide) ?_
    refine lv_iconst (v := 0) hx hb dL_leftAt_18 (by decide) ?_
    refine k_more (cells' := 2) (slots' := 12) (Nat.le_of_ble_eq_true rfl) (Nat.le_of_ble_eq_true rfl) (vx_ret ?_)
    exact k_iret hx hb hr hlocks ⟨by rw [hx0], fun _ => hW, fun h => absurd hx0 h⟩ hL dL_leftAt_19
set_option maxHeartbeats 400000 in
set_option maxRecDepth 100000 in
theorem c_L_waited (X : kX) (l : Launch) {n : Nat → Nat → Nat} {ad L : Nat → Nat → Nat → Nat} {C : Nat → Nat → Nat → Nat → Int32} {fr : Nat → Option Cell} {nl nt ng : Nat} (hd : kDk n 0 nl nt ng) (D : KD) {ne : Nat} (hc : kCx n ne) (lo : Int32) (hl9 : l.stackTraces = false) {ws : va_W} {o : Nat} {f : Nat → Int64} : k_X X l yL_waited wsL_waited ({ frames := 8, cells := 1, slots := 6, locals := 132 }) [.ref (ad 5 16 0), .int lo, .ref o] (k_N X n ad L (k_g C 0 D) fr ((o, .inl (X.2.1 5, 1, .inr (.inl f))) :: ws)) (fun v H => v = some (.int (s_x_waited D nl nt ng lo)) ∧ (s_x_waited D nl nt ng lo = 0 → k_N X n ad L (k_g C 0 D) fr ((o, .inl (X.2.1 5, 1, .inr (.inl (vp_updL f 0 ((D 4 (lo.toNatClampNeg) 8).toInt64))))) :: ws) H) ∧ (s_x_waited D nl nt ng lo ≠ 0 → k_N X n ad L (k_g C 0 D) fr ((o, .inl (X.2.1 5, 1, .inr (.inl f))) :: ws) H)) (fun _ _ => False) 1 6 := by
  refine k_XH.of (cc := cL_waited) (maxL := 4) (ret := some .int) (hh := [(0, 9, 12, 21)]) (by decide) rfl (Nat.le_of_ble_eq_true rfl) ?_
  intro p e s m args below meth c ls hx hb hr hml hown hts hlocks hnm ht hK hW hl
  have hL : ∀ q ∈ ([] : List Loc), k_B X ≤ q.base := fun _ h => nomatch h
  have hl : lv_has ls 4 [(0, .ref (ad 5 16 0)), (1, .int lo), (2, .ref o)] := hl
  refine lv_aload_n hx hb dL_waited_0 rfl (lv_at hl 2 rfl) ?_
  refine lv_iconst (v := 0) hx hb dL_waited_1 (by decide) ?_
  refine lv_aload_n hx hb dL_waited_2 rfl (lv_at hl 0 rfl) ?_
  refine lv_iload_n hx hb dL_waited_3 rfl (lv_at hl 1 rfl) ?_
  obtain ⟨fr1, hF, hback⟩ := hW.freeze
  refine kx_callV (As := [.int lo]) (rest := [.int 0, .ref o]) ⟨hx, hb, hml, hown, hts⟩ hK (c_X6_waited X l hd D hc lo hl9) (cwV 1 hts gL_waited_X6_waited rfl rfl rfl (by decide +kernel) ⟨Nat.le_of_ble_eq_true rfl, Nat.le_of_ble_eq_true rfl⟩) (k_recv hK (k_ev hF) 16 0 hc.o (fun _ => rfl) rfl) hF rfl hl.1 rfl (Nat.le_of_ble_eq_true rfl) dL_waited_4 ⟨Nat.le_of_ble_eq_true rfl, Nat.le_of_ble_eq_true rfl⟩ hL (fun E ce q H locs hp hL hce hcv hcl => ?_) (fun v9 H locs hp hL => ?_)
  ·
    obtain ⟨rfl, hx1, hW⟩ := hp
    refine k_catch (own := RL) (s0 := 0) (e0 := 9) (hpc := 12) (ct := 21) [] [] 15 hown hK ht (fun z hz => by cases hz) rfl (by decide) (hts (.classLink RL 21 "java/lang/IndexOutOfBoundsException") (by decide +kernel)) rfl hce hcv hcl ?_
    refine lv_astore_n (lv' := [(3, .ref q), (0, .ref (ad 5 16 0)), (1, .int lo), (2, .ref o)]) hx hb dL_waited_12 rfl hl (by decide) rfl (fun ls hl => ?_)
    refine lv_iconst (v := 1) hx hb dL_waited_13 (by decide) ?_
    refine k_more (cells' := 1) (slots' := 6) (Nat.le_of_ble_eq_true rfl) (Nat.le_of_ble_eq_true rfl) (vx_ret ?_)
    exact k_iret hx hb hr hlocks ⟨by rw [hx1], fun h => absurd (hx1.symm.trans h) (by decide), fun _ => hback _ _ _ _ _ hW⟩ hL dL_waited_14
  ·
    obtain ⟨hx0, rfl, hW1⟩ := hp
    have hW := hback _ _ _ _ _ hW1
    refine lv_i2l (v := ((D 4 (lo.toNatClampNeg) 8).toInt64)) hx hb dL_waited_7 rfl ?_
    refine k_nlast (k := 0) (ws' := (o, .inl (X.2.1 5, 1, .inr (.inl (vp_updL f 0 ((D 4 (lo.toNatClampNeg) 8).toInt64))))) :: ws) hx hb hK hW hL 0 rfl (by decide) (by unfold vp_in; decide) rfl dL_waited_8 (fun H locs hW hL => ?_)
    refine lv_goto (tgt := 15) hx hb dL_waited_9 (by decide) ?_
    refine lv_iconst (v := 0) hx hb dL_waited_15 (by decide) ?_
    refine k_more (cells' := 1) (slots' := 6) (Nat.le_of_ble_eq_true rfl) (Nat.le_of_ble_eq_true rfl) (vx_ret ?_)
    exact k_iret hx hb hr hlocks ⟨by rw [hx0], fun _ => hW, fun h => absurd hx0 h⟩ hL dL_waited_16
set_option maxHeartbeats 400000 in
set_option maxRecDepth 100000 in
theorem c_L_ownMinutes (X : kX) (l : Launch) {n : Nat → Nat → Nat} {ad L : Nat → Nat → Nat → Nat} {C : Nat → Nat → Nat → Nat → Int32} {fr : Nat → Option Cell} {nl nt ng : Nat} (hd : kDk n 0 nl nt ng) (D : KD) {ne : Nat} (hc : kCx n ne) (lo : Int32) (hl9 : l.stackTraces = false) {ws : va_W} {o : Nat} {f : Nat → Int64} : k_X X l yL_ownMinutes wsL_ownMinutes ({ frames := 8, cells := 1, slots := 6, locals := 132 }) [.ref (ad 5 16 0), .int lo, .ref o] (k_N X n ad L (k_g C 0 D) fr ((o, .inl (X.2.1 5, 1, .inr (.inl f))) :: ws)) (fun v H => v = some (.int (s_x_ownMinutes D nl nt ng lo)) ∧ (s_x_ownMinutes D nl nt ng lo = 0 → k_N X n ad L (k_g C 0 D) fr ((o, .inl (X.2.1 5, 1, .inr (.inl (vp_updL f 0 ((D 4 (lo.toNatClampNeg) 9).toInt64))))) :: ws) H) ∧ (s_x_ownMinutes D nl nt ng lo ≠ 0 → k_N X n ad L (k_g C 0 D) fr ((o, .inl (X.2.1 5, 1, .inr (.inl f))) :: ws) H)) (fun _ _ => False) 1 6 := by
  refine k_XH.of (cc := cL_ownMinutes) (maxL := 4) (ret := some .int) (hh := [(0, 9, 12, 21)]) (by decide) rfl (Nat.le_of_ble_eq_true rfl) ?_
  intro p e s m args below meth c ls hx hb hr hml hown hts hlocks hnm ht hK hW hl
  have hL : ∀ q ∈ ([] : List Loc), k_B X ≤ q.base := fun _ h => nomatch h
  have hl : lv_has ls 4 [(0, .ref (ad 5 16 0)), (1, .int lo), (2, .ref o)] := hl
  refine lv_aload_n hx hb dL_ownMinutes_0 rfl (lv_at hl 2 rfl) ?_
  refine lv_iconst (v := 0) hx hb dL_ownMinutes_1 (by decide) ?_
  refine lv_aload_n hx hb dL_ownMinutes_2 rfl (lv_at hl 0 rfl) ?_
  refine lv_iload_n hx hb dL_ownMinutes_3 rfl (lv_at hl 1 rfl) ?_
  obtain ⟨fr1, hF, hback⟩ := hW.freeze
  refine kx_callV (As := [.int lo]) (rest := [.int 0, .ref o]) ⟨hx, hb, hml, hown, hts⟩ hK (c_X6_ownMinutes X l hd D hc lo hl9) (cwV 1 hts gL_ownMinutes_X6_ownMinutes rfl rfl rfl (by decide +kernel) ⟨Nat.le_of_ble_eq_true rfl, Nat.le_of_ble_eq_true rfl⟩) (k_recv hK (k_ev hF) 16 0 hc.o (fun _ => rfl) rfl) hF rfl hl.1 rfl (Nat.le_of_ble_eq_true rfl) dL_ownMinutes_4 ⟨Nat.le_of_ble_eq_true rfl, Nat.le_of_ble_eq_true rfl⟩ hL (fun E ce q H locs hp hL hce hcv hcl => ?_) (fun v9 H locs hp hL => ?_)
  ·
    obtain ⟨rfl, hx1, hW⟩ := hp
    refine k_catch (own := RL) (s0 := 0) (e0 := 9) (hpc := 12) (ct := 21) [] [] 15 hown hK ht (fun z hz => by cases hz) rfl (by decide) (hts (.classLink RL 21 "java/lang/IndexOutOfBoundsException") (by decide +kernel)) rfl hce hcv hcl ?_
    refine lv_astore_n (lv' := [(3, .ref q), (0, .ref (ad 5 16 0)), (1, .int lo), (2, .ref o)]) hx hb dL_ownMinutes_12 rfl hl (by decide) rfl (fun ls hl => ?_)
    refine lv_iconst (v := 1) hx hb dL_ownMinutes_13 (by decide) ?_
    refine k_more (cells' := 1) (slots' := 6) (Nat.le_of_ble_eq_true rfl) (Nat.le_of_ble_eq_true rfl) (vx_ret ?_)
    exact k_iret hx hb hr hlocks ⟨by rw [hx1], fun h => absurd (hx1.symm.trans h) (by decide), fun _ => hback _ _ _ _ _ hW⟩ hL dL_ownMinutes_14
  ·
    obtain ⟨hx0, rfl, hW1⟩ := hp
    have hW := hback _ _ _ _ _ hW1
    refine lv_i2l (v := ((D 4 (lo.toNatClampNeg) 9).toInt64)) hx hb dL_ownMinutes_7 rfl ?_
    refine k_nlast (k := 0) (ws' := (o, .inl (X.2.1 5, 1, .inr (.inl (vp_updL f 0 ((D 4 (lo.toNatClampNeg) 9).toInt64))))) :: ws) hx hb hK hW hL 0 rfl (by decide) (by unfold vp_in; decide) rfl dL_ownMinutes_8 (fun H locs hW hL => ?_)
    refine lv_goto (tgt := 15) hx hb dL_ownMinutes_9 (by decide) ?_
    refine lv_iconst (v := 0) hx hb dL_ownMinutes_15 (by decide) ?_
    refine k_more (cells' := 1) (slots' := 6) (Nat.le_of_ble_eq_true rfl) (Nat.le_of_ble_eq_true rfl) (vx_ret ?_)
    exact k_iret hx hb hr hlocks ⟨by rw [hx0], fun _ => hW, fun h => absurd hx0 h⟩ hL dL_ownMinutes_16
set_option maxHeartbeats 400000 in
set_option maxRecDepth 100000 in
theorem c_L_debtor (X : kX) (l : Launch) {n : Nat → Nat → Nat} {ad L : Nat → Nat → Nat → Nat} {C : Nat → Nat → Nat → Nat → Int32} {fr : Nat → Option Cell} {nl nt ng : Nat} (hd : kDk n 0 nl nt ng) (D : KD) {ne : Nat} (hc : kCx n ne) (lo : Int32) (hl9 : l.stackTraces = false) {ws : va_W} {o : Nat} {f : Nat → Int64} : k_X X l yL_debtor wsL_debtorN ({ frames := 8, cells := 2, slots := 12, locals := 133 }) [.ref (ad 5 16 0), .int lo, .ref o] (k_N X n ad L (k_g C 0 D) fr ((o, .inl (X.2.1 5, 1, .inr (.inl f))) :: ws)) (fun v H => v = some (.int (s_x_debtor D nl nt ng lo)) ∧ (s_x_debtor D nl nt ng lo = 0 → k_N X n ad L (k_g C 0 D) fr ((o, .inl (X.2.1 5, 1, .inr (.inl (vp_updL f 0 ((D 4 (lo.toNatClampNeg) 12).toInt64))))) :: ws) H) ∧ (s_x_debtor D nl nt ng lo ≠ 0 → k_N X n ad L (k_g C 0 D) fr ((o, .inl (X.2.1 5, 1, .inr (.inl f))) :: ws) H)) (fun _ _ => False) 2 12 := by
  refine k_XH.of (cc := cL_debtor) (maxL := 4) (ret := some .int) (hh := [(0, 9, 12, 21), (0, 9, 15, 55)]) (by decide) rfl (Nat.le_of_ble_eq_true rfl) ?_
  intro p e s m args below meth c ls hx hb hr hml hown hts hlocks hnm ht hK hW hl
  have hL : ∀ q ∈ ([] : List Loc), k_B X ≤ q.base := fun _ h => nomatch h
  have hl : lv_has ls 4 [(0, .ref (ad 5 16 0)), (1, .int lo), (2, .ref o)] := hl
  refine lv_aload_n hx hb dL_debtor_0 rfl (lv_at hl 2 rfl) ?_
  refine lv_iconst (v := 0) hx hb dL_debtor_1 (by decide) ?_
  refine lv_aload_n hx hb dL_debtor_2 rfl (lv_at hl 0 rfl) ?_
  refine lv_iload_n hx hb dL_debtor_3 rfl (lv_at hl 1 rfl) ?_
  obtain ⟨fr1, hF, hback⟩ := hW.freeze
  refine kx_callV (As := [.int lo]) (rest := [.int 0, .ref o]) ⟨hx, hb, hml, hown, hts⟩ hK (c_X6_debtor X l hd D hc lo hl9) (cwV 1 hts gL_debtor_X6_debtor rfl rfl rfl (by decide +kernel) ⟨Nat.le_of_ble_eq_true rfl, Nat.le_of_ble_eq_true rfl⟩) (k_recv hK (k_ev hF) 16 0 hc.o (fun _ => rfl) rfl) hF rfl hl.1 rfl (Nat.le_of_ble_eq_true rfl) dL_debtor_4 ⟨Nat.le_of_ble_eq_true rfl, Nat.le_of_ble_eq_true rfl⟩ hL (fun E ce q H locs hp hL hce hcv hcl => ?_) (fun v9 H locs hp hL => ?_)
  ·
    rcases hp with ⟨rfl, hx1, hW⟩ | ⟨rfl, hx1, hW⟩
    ·
      refine k_catch (own := RL) (s0 := 0) (e0 := 9) (hpc := 12) (ct := 21) [] [(0, 9, 15, 55)] 15 hown hK ht (fun z hz => by cases hz) rfl (by decide) (hts (.classLink RL 21 "java/lang/IndexOutOfBoundsException") (by decide +kernel)) rfl hce hcv hcl ?_
      refine lv_astore_n (lv' := [(3, .ref q), (0, .ref (ad 5 16 0)), (1, .int lo), (2, .ref o)]) hx hb dL_debtor_12 rfl hl (by decide) rfl (fun ls hl => ?_)
      refine lv_iconst (v := 1) hx hb dL_debtor_13 (by decide) ?_
      refine k_more (cells' := 2) (slots' := 12) (Nat.le_of_ble_eq_true rfl) (Nat.le_of_ble_eq_true rfl) (vx_ret ?_)
      exact k_iret hx hb hr hlocks ⟨by rw [hx1], fun h => absurd (hx1.symm.trans h) (by decide), fun _ => hback _ _ _ _ _ hW⟩ hL dL_debtor_14
    ·
      refine k_catch (own := RL) (s0 := 0) (e0 := 9) (hpc := 15) (ct := 55) [(0, 9, 12, 21)] [] 19 hown hK ht (fun z hz => by
          simp only [tableOf, List.map_cons, List.map_nil, List.mem_cons, List.not_mem_nil, or_false] at hz
          subst hz
          · exact ⟨by decide, "java/lang/IndexOutOfBoundsException", hts (.classLink RL 21 "java/lang/IndexOutOfBoundsException") (by decide +kernel), by decide +kernel⟩) rfl (by decide) (hts (.classLink RL 55 "java/util/NoSuchElementException") (by decide +kernel)) rfl hce hcv hcl ?_
      refine lv_astore_n (lv' := [(3, .ref q), (0, .ref (ad 5 16 0)), (1, .int lo), (2, .ref o)]) hx hb dL_debtor_15 rfl hl (by decide) rfl (fun ls hl => ?_)
      refine lv_iconst (v := 2) hx hb dL_debtor_16 (by decide) ?_
      refine k_more (cells' := 2) (slots' := 12) (Nat.le_of_ble_eq_true rfl) (Nat.le_of_ble_eq_true rfl) (vx_ret ?_)
      exact k_iret hx hb hr hlocks ⟨by rw [hx1], fun h => absurd (hx1.symm.trans h) (by decide), fun _ => hback _ _ _ _ _ hW⟩ hL dL_debtor_17
  ·
    obtain ⟨hx0, rfl, hW1⟩ := hp
    have hW := hback _ _ _ _ _ hW1
    refine lv_i2l (v := ((D 4 (lo.toNatClampNeg) 12).toInt64)) hx hb dL_debtor_7 rfl ?_
    refine k_nlast (k := 0) (ws' := (o, .inl (X.2.1 5, 1, .inr (.inl (vp_updL f 0 ((D 4 (lo.toNatClampNeg) 12).toInt64))))) :: ws) hx hb hK hW hL 0 rfl (by decide) (by unfold vp_in; decide) rfl dL_debtor_8 (fun H locs hW hL => ?_)
    refine lv_goto (tgt := 18) hx hb dL_debtor_9 (by decide) ?_
    refine lv_iconst (v := 0) hx hb dL_debtor_18 (by decide) ?_
    refine k_more (cells' := 2) (slots' := 12) (Nat.le_of_ble_eq_true rfl) (Nat.le_of_ble_eq_true rfl) (vx_ret ?_)
    exact k_iret hx hb hr hlocks ⟨by rw [hx0], fun _ => hW, fun h => absurd hx0 h⟩ hL dL_debtor_19
set_option maxHeartbeats 400000 in
set_option maxRecDepth 100000 in
theorem c_L_invoice (X : kX) (l : Launch) {n : Nat → Nat → Nat} {ad L : Nat → Nat → Nat → Nat} {C : Nat → Nat → Nat → Nat → Int32} {fr : Nat → Option Cell} {nl nt ng : Nat} (hd : kDk n 0 nl nt ng) (D : KD) {ne : Nat} (hc : kCx n ne) (de : Int32) (lo : Int32) (hl9 : l.stackTraces = false) {ws : va_W} {o : Nat} {f : Nat → Int64} : k_X X l yL_invoice wsL_invoice ({ frames := 9, cells := 2, slots := 12, locals := 154 }) [.ref (ad 5 16 0), .int de, .int lo, .ref o] (k_N X n ad L (k_g C 0 D) fr ((o, .inl (X.2.1 5, 1, .inr (.inl f))) :: ws)) (fun v H => v = some (.int (s_x_invoice D nl nt ng de lo)) ∧ (s_x_invoice D nl nt ng de lo = 0 → k_N X n ad L (k_g C 0 D) fr ((o, .inl (X.2.1 5, 1, .inr (.inl (vp_updL f 0 ((s_X3_centsFrom D (lo.toNatClampNeg) de).toInt64))))) :: ws) H) ∧ (s_x_invoice D nl nt ng de lo ≠ 0 → k_N X n ad L (k_g C 0 D) fr ((o, .inl (X.2.1 5, 1, .inr (.inl f))) :: ws) H)) (fun _ _ => False) 2 12 := by
  refine k_XH.of (cc := cL_invoice) (maxL := 5) (ret := some .int) (hh := [(0, 10, 13, 21)]) (by decide) rfl (Nat.le_of_ble_eq_true rfl) ?_
  intro p e s m args below meth c ls hx hb hr hml hown hts hlocks hnm ht hK hW hl
  have hL : ∀ q ∈ ([] : List Loc), k_B X ≤ q.base := fun _ h => nomatch h
  have hl : lv_has ls 5 [(0, .ref (ad 5 16 0)), (1, .int de), (2, .int lo), (3, .ref o)] := hl
  refine lv_aload_n hx hb dL_invoice_0 rfl (lv_at hl 3 rfl) ?_
  refine lv_iconst (v := 0) hx hb dL_invoice_1 (by decide) ?_
  refine lv_aload_n hx hb dL_invoice_2 rfl (lv_at hl 0 rfl) ?_
  refine lv_iload_n hx hb dL_invoice_3 rfl (lv_at hl 1 rfl) ?_
  refine lv_iload_n hx hb dL_invoice_4 rfl (lv_at hl 2 rfl) ?_
  obtain ⟨fr1, hF, hback⟩ := hW.freeze
  refine kx_callV (As := [.int de, .int lo]) (rest := [.int 0, .ref o]) ⟨hx, hb, hml, hown, hts⟩ hK (c_X6_invoice X l hd D hc de lo hl9) (cwV 2 hts gL_invoice_X6_invoice rfl rfl rfl (by decide +kernel) ⟨Nat.le_of_ble_eq_true rfl, Nat.le_of_ble_eq_true rfl⟩) (k_recv hK (k_ev hF) 16 0 hc.o (fun _ => rfl) rfl) hF rfl hl.1 rfl (Nat.le_of_ble_eq_true rfl) dL_invoice_5 ⟨Nat.le_of_ble_eq_true rfl, Nat.le_of_ble_eq_true rfl⟩ hL (fun E ce q H locs hp hL hce hcv hcl => ?_) (fun v9 H locs hp hL => ?_)
  ·
    obtain ⟨rfl, hx1, hW⟩ := hp
    refine k_catch (own := RL) (s0 := 0) (e0 := 10) (hpc := 13) (ct := 21) [] [] 15 hown hK ht (fun z hz => by cases hz) rfl (by decide) (hts (.classLink RL 21 "java/lang/IndexOutOfBoundsException") (by decide +kernel)) rfl hce hcv hcl ?_
    refine lv_astore (lv' := [(4, .ref q), (0, .ref (ad 5 16 0)), (1, .int de), (2, .int lo), (3, .ref o)]) hx hb dL_invoice_13 hl (by decide) rfl (fun ls hl => ?_)
    refine lv_iconst (v := 1) hx hb dL_invoice_15 (by decide) ?_
    refine k_more (cells' := 2) (slots' := 12) (Nat.le_of_ble_eq_true rfl) (Nat.le_of_ble_eq_true rfl) (vx_ret ?_)
    exact k_iret hx hb hr hlocks ⟨by rw [hx1], fun h => absurd (hx1.symm.trans h) (by decide), fun _ => hback _ _ _ _ _ hW⟩ hL dL_invoice_16
  ·
    obtain ⟨hx0, rfl, hW1⟩ := hp
    have hW := hback _ _ _ _ _ hW1
    refine lv_i2l (v := ((s_X3_centsFrom D (lo.toNatClampNeg) de).toInt64)) hx hb dL_invoice_8 rfl ?_
    refine k_nlast (k := 0) (ws' := (o, .inl (X.2.1 5, 1, .inr (.inl (vp_updL f 0 ((s_X3_centsFrom D (lo.toNatClampNeg) de).toInt64))))) :: ws) hx hb hK hW hL 0 rfl (by decide) (by unfold vp_in; decide) rfl dL_invoice_9 (fun H locs hW hL => ?_)
    refine lv_goto (tgt := 17) hx hb dL_invoice_10 (by decide) ?_
    refine lv_iconst (v := 0) hx hb dL_invoice_17 (by decide) ?_
    refine k_more (cells' := 2) (slots' := 12) (Nat.le_of_ble_eq_true rfl) (Nat.le_of_ble_eq_true rfl) (vx_ret ?_)
    exact k_iret hx hb hr hlocks ⟨by rw [hx0], fun _ => hW, fun h => absurd hx0 h⟩ hL dL_invoice_18
set_option maxHeartbeats 400000 in
set_option maxRecDepth 100000 in
theorem c_L_invoiceAnew (X : kX) (l : Launch) {n : Nat → Nat → Nat} {ad L : Nat → Nat → Nat → Nat} {C : Nat → Nat → Nat → Nat → Int32} {fr : Nat → Option Cell} {nl nt ng : Nat} (hd : kDk n 0 nl nt ng) (D : KD) {ne : Nat} (hc : kCx n ne) (de : Int32) (lo : Int32) (hne : ne ≤ 512) (hn1 : ∀ r, n 1 r = 0) (hok : ∀ j, j < ne → kOk (kRun (C 5 19) j) (C 5 19 j)) (hrun : kRun (C 5 19) ne = (D, nl, nt, ng)) (hl9 : l.stackTraces = false) {ws : va_W} {o : Nat} {f : Nat → Int64} : k_X X l yL_invoiceAnew wsL_invoiceAnew ({ frames := 11, cells := 91, slots := 982, locals := 278 }) [.ref (ad 5 16 0), .int de, .int lo, .ref o] (k_N X n ad L (k_g C 0 D) fr ((o, .inl (X.2.1 5, 1, .inr (.inl f))) :: ws)) (fun v H => v = some (.int (s_x_invoiceAnew D nl nt ng de lo)) ∧ (s_x_invoiceAnew D nl nt ng de lo = 0 → k_N X n ad L (k_g C 0 D) fr ((o, .inl (X.2.1 5, 1, .inr (.inl (vp_updL f 0 ((s_X3_centsFrom D (lo.toNatClampNeg) de).toInt64))))) :: ws) H) ∧ (s_x_invoiceAnew D nl nt ng de lo ≠ 0 → k_N X n ad L (k_g C 0 D) fr ((o, .inl (X.2.1 5, 1, .inr (.inl f))) :: ws) H)) (fun _ _ => False) 91 982 := by
  refine k_XH.of (cc := cL_invoiceAnew) (maxL := 5) (ret := some .int) (hh := [(0, 10, 13, 21)]) (by decide) rfl (Nat.le_of_ble_eq_true rfl) ?_
  intro p e s m args below meth c ls hx hb hr hml hown hts hlocks hnm ht hK hW hl
  have hL : ∀ q ∈ ([] : List Loc), k_B X ≤ q.base := fun _ h => nomatch h
  have hl : lv_has ls 5 [(0, .ref (ad 5 16 0)), (1, .int de), (2, .int lo), (3, .ref o)] := hl
  refine lv_aload_n hx hb dL_invoiceAnew_0 rfl (lv_at hl 3 rfl) ?_
  refine lv_iconst (v := 0) hx hb dL_invoiceAnew_1 (by decide) ?_
  refine lv_aload_n hx hb dL_invoiceAnew_2 rfl (lv_at hl 0 rfl) ?_
  refine lv_iload_n hx hb dL_invoiceAnew_3 rfl (lv_at hl 1 rfl) ?_
  refine lv_iload_n hx hb dL_invoiceAnew_4 rfl (lv_at hl 2 rfl) ?_
  obtain ⟨fr1, hF, hback⟩ := hW.freeze
  refine kx_callV (As := [.int de, .int lo]) (rest := [.int 0, .ref o]) ⟨hx, hb, hml, hown, hts⟩ hK (c_X6_invoiceAnew X l hd D hc de lo hne hn1 hok hrun hl9) (cwV 2 hts gL_invoiceAnew_X6_invoiceAnew rfl rfl rfl (by decide +kernel) ⟨Nat.le_of_ble_eq_true rfl, Nat.le_of_ble_eq_true rfl⟩) (k_recv hK (k_ev hF) 16 0 hc.o (fun _ => rfl) rfl) hF rfl hl.1 rfl (Nat.le_of_ble_eq_true rfl) dL_invoiceAnew_5 ⟨Nat.le_of_ble_eq_true rfl, Nat.le_of_ble_eq_true rfl⟩ hL (fun E ce q H locs hp hL hce hcv hcl => ?_) (fun v9 H locs hp hL => ?_)
  ·
    obtain ⟨rfl, hx1, hW⟩ := hp
    refine k_catch (own := RL) (s0 := 0) (e0 := 10) (hpc := 13) (ct := 21) [] [] 15 hown hK ht (fun z hz => by cases hz) rfl (by decide) (hts (.classLink RL 21 "java/lang/IndexOutOfBoundsException") (by decide +kernel)) rfl hce hcv hcl ?_
    refine lv_astore (lv' := [(4, .ref q), (0, .ref (ad 5 16 0)), (1, .int de), (2, .int lo), (3, .ref o)]) hx hb dL_invoiceAnew_13 hl (by decide) rfl (fun ls hl => ?_)
    refine lv_iconst (v := 1) hx hb dL_invoiceAnew_15 (by decide) ?_
    refine k_more (cells' := 91) (slots' := 982) (Nat.le_of_ble_eq_true rfl) (Nat.le_of_ble_eq_true rfl) (vx_ret ?_)
    exact k_iret hx hb hr hlocks ⟨by rw [hx1], fun h => absurd (hx1.symm.trans h) (by decide), fun _ => hback _ _ _ _ _ hW⟩ hL dL_invoiceAnew_16
  ·
    obtain ⟨hx0, rfl, hW1⟩ := hp
    have hW := hback _ _ _ _ _ hW1
    refine lv_i2l (v := ((s_X3_centsFrom D (lo.toNatClampNeg) de).toInt64)) hx hb dL_invoiceAnew_8 rfl ?_
    refine k_nlast (k := 0) (ws' := (o, .inl (X.2.1 5, 1, .inr (.inl (vp_updL f 0 ((s_X3_centsFrom D (lo.toNatClampNeg) de).toInt64))))) :: ws) hx hb hK hW hL 0 rfl (by decide) (by unfold vp_in; decide) rfl dL_invoiceAnew_9 (fun H locs hW hL => ?_)
    refine lv_goto (tgt := 17) hx hb dL_invoiceAnew_10 (by decide) ?_
    refine lv_iconst (v := 0) hx hb dL_invoiceAnew_17 (by decide) ?_
    refine k_more (cells' := 91) (slots' := 982) (Nat.le_of_ble_eq_true rfl) (Nat.le_of_ble_eq_true rfl) (vx_ret ?_)
    exact k_iret hx hb hr hlocks ⟨by rw [hx0], fun _ => hW, fun h => absurd hx0 h⟩ hL dL_invoiceAnew_18
set_option maxHeartbeats 400000 in
set_option maxRecDepth 100000 in
theorem c_L_balance (X : kX) (l : Launch) {n : Nat → Nat → Nat} {ad L : Nat → Nat → Nat → Nat} {C : Nat → Nat → Nat → Nat → Int32} {fr : Nat → Option Cell} {nl nt ng : Nat} (hd : kDk n 0 nl nt ng) (D : KD) {ne : Nat} (hc : kCx n ne) (who : Int32) (hl9 : l.stackTraces = false) {ws : va_W} {o : Nat} {f : Nat → Int64} : k_X X l yL_balance wsL_balance ({ frames := 9, cells := 1, slots := 6, locals := 153 }) [.ref (ad 5 16 0), .int who, .ref o] (k_N X n ad L (k_g C 0 D) fr ((o, .inl (X.2.1 5, 1, .inr (.inl f))) :: ws)) (fun v H => v = some (.int (s_x_balance D nl nt ng who)) ∧ (s_x_balance D nl nt ng who = 0 → k_N X n ad L (k_g C 0 D) fr ((o, .inl (X.2.1 5, 1, .inr (.inl (vp_updL f 0 (s_X0_balanceOf D nl nt ng who))))) :: ws) H) ∧ (s_x_balance D nl nt ng who ≠ 0 → k_N X n ad L (k_g C 0 D) fr ((o, .inl (X.2.1 5, 1, .inr (.inl f))) :: ws) H)) (fun _ _ => False) 1 6 := by
  refine k_XH.of (cc := cL_balance) (maxL := 4) (ret := some .int) (hh := [(0, 8, 11, 21)]) (by decide) rfl (Nat.le_of_ble_eq_true rfl) ?_
  intro p e s m args below meth c ls hx hb hr hml hown hts hlocks hnm ht hK hW hl
  have hL : ∀ q ∈ ([] : List Loc), k_B X ≤ q.base := fun _ h => nomatch h
  have hl : lv_has ls 4 [(0, .ref (ad 5 16 0)), (1, .int who), (2, .ref o)] := hl
  refine lv_aload_n hx hb dL_balance_0 rfl (lv_at hl 2 rfl) ?_
  refine lv_iconst (v := 0) hx hb dL_balance_1 (by decide) ?_
  refine lv_aload_n hx hb dL_balance_2 rfl (lv_at hl 0 rfl) ?_
  refine lv_iload_n hx hb dL_balance_3 rfl (lv_at hl 1 rfl) ?_
  obtain ⟨fr1, hF, hback⟩ := hW.freeze
  refine kx_callV (As := [.int who]) (rest := [.int 0, .ref o]) ⟨hx, hb, hml, hown, hts⟩ hK (c_X6_balance X l hd D hc who hl9) (cwV 1 hts gL_balance_X6_balance rfl rfl rfl (by decide +kernel) ⟨Nat.le_of_ble_eq_true rfl, Nat.le_of_ble_eq_true rfl⟩) (k_recv hK (k_ev hF) 16 0 hc.o (fun _ => rfl) rfl) hF rfl hl.1 rfl (Nat.le_of_ble_eq_true rfl) dL_balance_4 ⟨Nat.le_of_ble_eq_true rfl, Nat.le_of_ble_eq_true rfl⟩ hL (fun E ce q H locs hp hL hce hcv hcl => ?_) (fun v9 H locs hp hL => ?_)
  ·
    obtain ⟨rfl, hx1, hW⟩ := hp
    refine k_catch (own := RL) (s0 := 0) (e0 := 8) (hpc := 11) (ct := 21) [] [] 15 hown hK ht (fun z hz => by cases hz) rfl (by decide) (hts (.classLink RL 21 "java/lang/IndexOutOfBoundsException") (by decide +kernel)) rfl hce hcv hcl ?_
    refine lv_astore_n (lv' := [(3, .ref q), (0, .ref (ad 5 16 0)), (1, .int who), (2, .ref o)]) hx hb dL_balance_11 rfl hl (by decide) rfl (fun ls hl => ?_)
    refine lv_iconst (v := 1) hx hb dL_balance_12 (by decide) ?_
    refine k_more (cells' := 1) (slots' := 6) (Nat.le_of_ble_eq_true rfl) (Nat.le_of_ble_eq_true rfl) (vx_ret ?_)
    exact k_iret hx hb hr hlocks ⟨by rw [hx1], fun h => absurd (hx1.symm.trans h) (by decide), fun _ => hback _ _ _ _ _ hW⟩ hL dL_balance_13
  ·
    obtain ⟨hx0, rfl, hW1⟩ := hp
    have hW := hback _ _ _ _ _ hW1
    refine k_nlast (k := 0) (ws' := (o, .inl (X.2.1 5, 1, .inr (.inl (vp_updL f 0 (s_X0_balanceOf D nl nt ng who))))) :: ws) hx hb hK hW hL 0 rfl (by decide) (by unfold vp_in; decide) rfl dL_balance_7 (fun H locs hW hL => ?_)
    refine lv_goto (tgt := 14) hx hb dL_balance_8 (by decide) ?_
    refine lv_iconst (v := 0) hx hb dL_balance_14 (by decide) ?_
    refine k_more (cells' := 1) (slots' := 6) (Nat.le_of_ble_eq_true rfl) (Nat.le_of_ble_eq_true rfl) (vx_ret ?_)
    exact k_iret hx hb hr hlocks ⟨by rw [hx0], fun _ => hW, fun h => absurd hx0 h⟩ hL dL_balance_15
set_option maxHeartbeats 400000 in
set_option maxRecDepth 100000 in
theorem c_L_bestDoor (X : kX) (l : Launch) {n : Nat → Nat → Nat} {ad L : Nat → Nat → Nat → Nat} {C : Nat → Nat → Nat → Nat → Int32} {fr : Nat → Option Cell} {nl nt ng : Nat} (hd : kDk n 0 nl nt ng) (D : KD) {ne : Nat} (hc : kCx n ne) (hwf : cWF D nl nt) (lo : Int32) (h21 : n 0 21 = 0) (h22 : n 0 22 = 0) (hl9 : l.stackTraces = false) {ws : va_W} {o : Nat} {f : Nat → Int64} : k_X X l yL_bestDoor wsL_bestDoor ({ frames := 15, cells := 6, slots := 100, locals := 332 }) [.ref (ad 5 16 0), .int lo, .ref o] (k_N X n ad L (k_g C 0 D) fr ((o, .inl (X.2.1 5, 1, .inr (.inl f))) :: ws)) (fun v H => v = some (.int (s_x_bestDoor D nl nt ng lo)) ∧ (s_x_bestDoor D nl nt ng lo = 0 → k_N X n ad L (k_g C 0 D) fr ((o, .inl (X.2.1 5, 1, .inr (.inl (vp_updL f 0 ((s_X4_bestDoorOf (s_plan D nl nt ng) lo).toInt64))))) :: ws) H) ∧ (s_x_bestDoor D nl nt ng lo ≠ 0 → k_N X n ad L (k_g C 0 D) fr ((o, .inl (X.2.1 5, 1, .inr (.inl f))) :: ws) H)) (fun _ _ => False) 6 100 := by
  refine k_XH.of (cc := cL_bestDoor) (maxL := 4) (ret := some .int) (hh := [(0, 9, 12, 21), (0, 9, 15, 15)]) (by decide) rfl (Nat.le_of_ble_eq_true rfl) ?_
  intro p e s m args below meth c ls hx hb hr hml hown hts hlocks hnm ht hK hW hl
  have hL : ∀ q ∈ ([] : List Loc), k_B X ≤ q.base := fun _ h => nomatch h
  have hl : lv_has ls 4 [(0, .ref (ad 5 16 0)), (1, .int lo), (2, .ref o)] := hl
  refine lv_aload_n hx hb dL_bestDoor_0 rfl (lv_at hl 2 rfl) ?_
  refine lv_iconst (v := 0) hx hb dL_bestDoor_1 (by decide) ?_
  refine lv_aload_n hx hb dL_bestDoor_2 rfl (lv_at hl 0 rfl) ?_
  refine lv_iload_n hx hb dL_bestDoor_3 rfl (lv_at hl 1 rfl) ?_
  obtain ⟨fr1, hF, hback⟩ := hW.freeze
  refine kx_callV (As := [.int lo]) (rest := [.int 0, .ref o]) ⟨hx, hb, hml, hown, hts⟩ hK (c_X6_bestDoor X l hd D hc hwf lo h21 h22 hl9) (cwV 1 hts gL_bestDoor_X6_bestDoor rfl rfl rfl (by decide +kernel) ⟨Nat.le_of_ble_eq_true rfl, Nat.le_of_ble_eq_true rfl⟩) (k_recv hK (k_ev hF) 16 0 hc.o (fun _ => rfl) rfl) hF rfl hl.1 rfl (Nat.le_of_ble_eq_true rfl) dL_bestDoor_4 ⟨Nat.le_of_ble_eq_true rfl, Nat.le_of_ble_eq_true rfl⟩ hL (fun E ce q H locs hp hL hce hcv hcl => ?_) (fun v9 H locs hp hL => ?_)
  ·
    rcases hp with ⟨rfl, hx1, hW⟩ | ⟨rfl, hx1, hW⟩
    ·
      refine k_catch (own := RL) (s0 := 0) (e0 := 9) (hpc := 12) (ct := 21) [] [(0, 9, 15, 15)] 15 hown hK ht (fun z hz => by cases hz) rfl (by decide) (hts (.classLink RL 21 "java/lang/IndexOutOfBoundsException") (by decide +kernel)) rfl hce hcv hcl ?_
      refine lv_astore_n (lv' := [(3, .ref q), (0, .ref (ad 5 16 0)), (1, .int lo), (2, .ref o)]) hx hb dL_bestDoor_12 rfl hl (by decide) rfl (fun ls hl => ?_)
      refine lv_iconst (v := 1) hx hb dL_bestDoor_13 (by decide) ?_
      refine k_more (cells' := 6) (slots' := 100) (Nat.le_of_ble_eq_true rfl) (Nat.le_of_ble_eq_true rfl) (vx_ret ?_)
      exact k_iret hx hb hr hlocks ⟨by rw [hx1], fun h => absurd (hx1.symm.trans h) (by decide), fun _ => hback _ _ _ _ _ hW⟩ hL dL_bestDoor_14
    ·
      refine k_catch (own := RL) (s0 := 0) (e0 := 9) (hpc := 15) (ct := 15) [(0, 9, 12, 21)] [] 17 hown hK ht (fun z hz => by
          simp only [tableOf, List.map_cons, List.map_nil, List.mem_cons, List.not_mem_nil, or_false] at hz
          subst hz
          · exact ⟨by decide, "java/lang/IndexOutOfBoundsException", hts (.classLink RL 21 "java/lang/IndexOutOfBoundsException") (by decide +kernel), by decide +kernel⟩) rfl (by decide) (hts (.classLink RL 15 "java/lang/IllegalStateException") (by decide +kernel)) rfl hce hcv hcl ?_
      refine lv_astore_n (lv' := [(3, .ref q), (0, .ref (ad 5 16 0)), (1, .int lo), (2, .ref o)]) hx hb dL_bestDoor_15 rfl hl (by decide) rfl (fun ls hl => ?_)
      refine lv_iconst (v := 2) hx hb dL_bestDoor_16 (by decide) ?_
      refine k_more (cells' := 6) (slots' := 100) (Nat.le_of_ble_eq_true rfl) (Nat.le_of_ble_eq_true rfl) (vx_ret ?_)
      exact k_iret hx hb hr hlocks ⟨by rw [hx1], fun h => absurd (hx1.symm.trans h) (by decide), fun _ => hback _ _ _ _ _ hW⟩ hL dL_bestDoor_17
  ·
    obtain ⟨hx0, rfl, hW1⟩ := hp
    have hW := hback _ _ _ _ _ hW1
    refine lv_i2l (v := ((s_X4_bestDoorOf (s_plan D nl nt ng) lo).toInt64)) hx hb dL_bestDoor_7 rfl ?_
    refine k_nlast (k := 0) (ws' := (o, .inl (X.2.1 5, 1, .inr (.inl (vp_updL f 0 ((s_X4_bestDoorOf (s_plan D nl nt ng) lo).toInt64))))) :: ws) hx hb hK hW hL 0 rfl (by decide) (by unfold vp_in; decide) rfl dL_bestDoor_8 (fun H locs hW hL => ?_)
    refine lv_goto (tgt := 18) hx hb dL_bestDoor_9 (by decide) ?_
    refine lv_iconst (v := 0) hx hb dL_bestDoor_18 (by decide) ?_
    refine k_more (cells' := 6) (slots' := 100) (Nat.le_of_ble_eq_true rfl) (Nat.le_of_ble_eq_true rfl) (vx_ret ?_)
    exact k_iret hx hb hr hlocks ⟨by rw [hx0], fun _ => hW, fun h => absurd hx0 h⟩ hL dL_bestDoor_19
