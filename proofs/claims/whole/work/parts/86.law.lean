/-! THE LAW: what holds between two calls; arguments out of the script; the comparison at a call's end -/
def lw_I (n : Nat → Nat → Nat) (C : Nat → Nat → Nat → Nat → Int32) (nl nt ng ne k : Nat) : Prop :=
  kDk n 0 nl nt ng ∧ kCx n ne ∧ k_mod n 2 ∧ cWF (C 0) nl nt ∧ n 0 9 = 0 ∧ n 0 21 = 0 ∧ n 0 22 = 0 ∧ (∀ r, n 1 r = 0) ∧ ne ≤ k ∧ (∀ j, j < ne → kOk (kRun (C 5 19) j) (C 5 19 j)) ∧ kRun (C 5 19) ne = (C 0, nl, nt, ng)
abbrev lw_ws (X : kX) (o o2 : Nat) (f : Nat → Int64) (fd : Nat → UInt64) : va_W := [(o, .inl (X.2.1 5, 1, .inr (.inl f))), (o2, .inl (X.2.1 6, 1, .inr (.inr (.inr (.inl fd)))))]
def lw_J (X : kX) (k x0 m0 o o2 : Nat) (H : Heap) : Prop := ∃ n ad L C nl nt ng ne f fd, lw_I n C nl nt ng ne k ∧ q_V (C 0) (C 2) nl nt ng ∧ ad 5 16 0 = x0 ∧ ad 2 14 0 = m0 ∧ k_N X n ad L C (fun _ => none) (lw_ws X o o2 f fd) H
abbrev lw_lv (b x0 m0 o o2 k : Nat) : List (Nat × Value) := [(0, .ref b), (1, .ref x0), (2, .ref m0), (3, .ref o), (4, .ref o2), (5, .int (nI (4 * k)))]
def lw_X (p : Program) (l : Launch) (s : State) (m : MethodId) (meth : Method) (c : Code) (b Ln : Nat) (xs : Nat → Int32) (X : kX) : Prop :=
  p.tables.exec = Jvm.exec ∧ c.code = code ∧ c.maxLocals = 9 ∧ s.vm.findClass RL = some m.cls ∧ (∀ w ∈ wsL_lawN, w.before #[Value.ref b] s = true) ∧ k_S X s ∧ k_H0 X = s.heap ∧ va_X b Ln xs s s.heap ∧ b < s.heap.size ∧ Ln ≤ 2048 ∧ l.stackTraces = false ∧ kFP
/-- one call of the script, read at pc PC -/
def lw_case (PC : Nat) : Prop := ∀ (p : Program) (l : Launch) (e : Env) (s : State) (m : MethodId) (below : List Frame) (meth : Method) (c : Code) (H : Heap) (locs : List Loc) (cells slots : Nat) (Q : State → Prop) (ls : Array Slot) (b Ln : Nat) (xs : Nat → Int32) (X : kX) (n : Nat → Nat → Nat) (ad L : Nat → Nat → Nat → Nat) (C : Nat → Nat → Nat → Nat → Int32) (nl nt ng ne k o o2 : Nat) (f : Nat → Int64) (fd : Nat → UInt64),
  lw_X p l s m meth c b Ln xs X → 4 * k + 3 < Ln → lw_I n C nl nt ng ne k → q_V (C 0) (C 2) nl nt ng → k_N X n ad L C (fun _ => none) (lw_ws X o o2 f fd) H → (∀ q ∈ locs, k_B X ≤ q.base) → lv_has ls 9 (lw_lv b (ad 5 16 0) (ad 2 14 0) o o2 k) → cells + 100 ≤ room_1.cells ∧ slots + 1000 ≤ room_1.slots →
  (∀ (H : Heap) (locs : List Loc) (ls : Array Slot), lw_J X (k + 1) (ad 5 16 0) (ad 2 14 0) o o2 H → (∀ q ∈ locs, k_B X ≤ q.base) → lv_has ls 9 (lw_lv b (ad 5 16 0) (ad 2 14 0) o o2 k) → W p l e room_1 s m #[Value.ref b] below meth c H locs (cells + 100) (slots + 1000) Q (F0 m 1811 ls [])) →
  W p l e room_1 s m #[Value.ref b] below meth c H locs cells slots Q (F0 m PC ls [])
theorem lw_I.next {n : Nat → Nat → Nat} {C : Nat → Nat → Nat → Nat → Int32} {nl nt ng ne k : Nat} (h : lw_I n C nl nt ng ne k) : lw_I n C nl nt ng ne (k + 1) := by
  obtain ⟨i1, i2, i3, i4, i5, i6, i7, i8, i9, i10, i11⟩ := h
  exact ⟨i1, i2, i3, i4, i5, i6, i7, i8, by omega, i10, i11⟩
theorem lw_I.ref {n : Nat → Nat → Nat} {C : Nat → Nat → Nat → Nat → Int32} {nl nt ng ne k : Nat} (h : lw_I n C nl nt ng ne k) (E : KD) : lw_I n (k_g C 2 E) nl nt ng ne k := by
  unfold lw_I at h ⊢
  rw [k_g_ne C E (by decide : 0 ≠ 2), k_g_ne C E (by decide : 5 ≠ 2)]
  exact h
theorem lw_V {C : Nat → Nat → Nat → Nat → Int32} {nl nt ng : Nat} {E : KD} (h : q_V (C 0) E nl nt ng) : q_V (k_g C 2 E 0) (k_g C 2 E 2) nl nt ng := by
  rw [k_g_ne C E (by decide : 0 ≠ 2), k_g_at]
  exact h
theorem kRun_cg {ev ev' : Nat → Nat → Int32} {n : Nat} (h : ∀ j, j < n → ev j = ev' j) : kRun ev n = kRun ev' n := by
  induction n with
  | zero => rfl
  | succ n ih =>
    show (s_und (kRun ev n) (ev n)).1 = (s_und (kRun ev' n) (ev' n)).1
    rw [ih (fun j hj => h j (by omega)), h n (by omega)]
section LAWQ
variable {X : kX} {n : Nat → Nat → Nat} {ad L : Nat → Nat → Nat → Nat} {C : Nat → Nat → Nat → Nat → Int32} {fr : Nat → Option Cell} {ws : va_W} {H : Heap} {o : Nat} {nl nt ng ne k : Nat}
/-- a question's end -/
theorem lw_q1 {v : Option Value} {cd : Int32} {a : Int64} {f : Nat → Int64} (hp : v = some (.int cd) ∧ (cd = 0 → k_N X n ad L (k_g C 0 (C 0)) fr ((o, .inl (X.2.1 5, 1, .inr (.inl (vp_updL f 0 a)))) :: ws) H) ∧ (cd ≠ 0 → k_N X n ad L (k_g C 0 (C 0)) fr ((o, .inl (X.2.1 5, 1, .inr (.inl f))) :: ws) H)) :
    ∃ f', v = some (.int cd) ∧ k_N X n ad L C fr ((o, .inl (X.2.1 5, 1, .inr (.inl f'))) :: ws) H ∧ (cd = 0 → f' 0 = a) := by
  rw [k_g_self] at hp
  by_cases c : cd = 0
  · exact ⟨_, hp.1, hp.2.1 c, fun _ => pk_uLs⟩
  · exact ⟨_, hp.1, hp.2.2 c, fun q => absurd q c⟩
theorem lw_q2 {v : Option Value} {cd : Int32} {a : UInt64} {f : Nat → UInt64} (hp : v = some (.int cd) ∧ (cd = 0 → k_N X n ad L (k_g C 0 (C 0)) fr ((o, .inl (X.2.1 6, 1, .inr (.inr (.inr (.inl (vf_upd f 0 a)))))) :: ws) H) ∧ (cd ≠ 0 → k_N X n ad L (k_g C 0 (C 0)) fr ((o, .inl (X.2.1 6, 1, .inr (.inr (.inr (.inl f))))) :: ws) H)) :
    ∃ f', v = some (.int cd) ∧ k_N X n ad L C fr ((o, .inl (X.2.1 6, 1, .inr (.inr (.inr (.inl f'))))) :: ws) H ∧ (cd = 0 → f' 0 = a) := by
  rw [k_g_self] at hp
  by_cases c : cd = 0
  · exact ⟨_, hp.1, hp.2.1 c, fun _ => by simp [vf_upd]⟩
  · exact ⟨_, hp.1, hp.2.2 c, fun q => absurd q c⟩
/-- a change's end: what the new world's plan region may hold is forgotten -/
theorem lw_hap {v : Option Value} {cd : Int32} {f : Nat → Int64} {w : Nat → Int32} (hI : lw_I n C nl nt ng ne k) (hok : cd = 0 → kOk (C 0, nl, nt, ng) w)
    (hp : v = some (.int cd) ∧ (cd = 0 → kHapN X n ad L C fr ne w (s_und (C 0, nl, nt, ng) w).1 ((o, .inl (X.2.1 5, 1, .inr (.inl (vp_updL f 0 ((s_und (C 0, nl, nt, ng) w).2.toInt64))))) :: ws) H) ∧ (cd ≠ 0 → k_N X n ad L (k_g C 0 (C 0)) fr ((o, .inl (X.2.1 5, 1, .inr (.inl f))) :: ws) H)) :
    ∃ n' ad' L' C' nl' nt' ng' ne' f', v = some (.int cd) ∧ lw_I n' C' nl' nt' ng' ne' (k + 1) ∧ C' 2 = C 2 ∧ ad' 5 16 0 = ad 5 16 0 ∧ ad' 2 14 0 = ad 2 14 0 ∧ k_N X n' ad' L' C' fr ((o, .inl (X.2.1 5, 1, .inr (.inl f'))) :: ws) H ∧ (cd = 0 → f' 0 = (s_und (C 0, nl, nt, ng) w).2.toInt64 ∧ (C' 0, nl', nt', ng') = (s_und (C 0, nl, nt, ng) w).1) ∧ (cd ≠ 0 → (C' 0, nl', nt', ng') = (C 0, nl, nt, ng)) := by
  by_cases c : cd = 0
  · obtain ⟨i1, i2, i3, i4, i5, i6, i7, i8, i9, i10, i11⟩ := hI
    have hw := hok c
    obtain ⟨n1, ad1, L1, C1, h1, h2, h3, h4, h5, h6, h7, h8, h9, hW⟩ := hp.2.1 c
    generalize hσ : (s_und (C 0, nl, nt, ng) w).1 = σ at *
    obtain ⟨fr1, hF, hback⟩ := hW.freeze
    have hn0 : ∀ g', g' ≠ 0 → (fun g' r' => if g' = 0 ∧ (r' = 21 ∨ r' = 22) then 0 else n1 g' r') g' = n1 g' := fun g' hg => by funext r'; exact if_neg (fun q => hg q.1)
    have hnr : ∀ r', r' ≠ 21 ∧ r' ≠ 22 → (fun g' r' => if g' = 0 ∧ (r' = 21 ∨ r' = 22) then 0 else n1 g' r') 0 r' = n1 0 r' := fun r' hr => if_neg (fun q => q.2.elim hr.1 hr.2)
    have h21 : (fun g' r' => if g' = 0 ∧ (r' = 21 ∨ r' = 22) then 0 else n1 g' r') 0 21 = 0 := if_pos ⟨rfl, Or.inl rfl⟩
    have h22 : (fun g' r' => if g' = 0 ∧ (r' = 21 ∨ r' = 22) then 0 else n1 g' r') 0 22 = 0 := if_pos ⟨rfl, Or.inr rfl⟩
    generalize hN : (fun g' r' => if g' = 0 ∧ (r' = 21 ∨ r' = 22) then 0 else n1 g' r') = n2 at hn0 hnr h21 h22
    have d2 : kDk n2 0 σ.2.1 σ.2.2.1 σ.2.2.2 := by
      unfold kDk at h4 ⊢
      rw [hnr 0 (by decide), hnr 1 (by decide), hnr 3 (by decide), hnr 4 (by decide), hnr 5 (by decide), hnr 6 (by decide), hnr 2 (by decide)]
      exact h4
    have c2 : kCx n2 (ne + 1) := by
      unfold kCx at h7 ⊢
      rw [hn0 5 (by decide)]
      exact h7
    have m2 : k_mod n2 2 := by
      unfold k_mod at i3 ⊢
      rw [hn0 2 (by decide), (h1 2 (by decide) (by decide)).1]
      exact i3
    have hcap : k_cap n2 L1 := by
      refine ⟨fun g i hv => ?_, fun g i hv => ?_⟩
      · by_cases hg : g = 0
        · subst hg
          have hv' : i < n2 0 1 ∧ 0 < n2 0 (4 + i) ∧ n2 0 2 ≠ i + 1 := hv
          rw [hnr 1 (by decide), hnr 2 (by decide)] at hv'
          have hi : i < 3 := by rw [← h4.2.1]; exact hv'.1
          have e4 := hnr (4 + i) (by omega)
          rw [e4] at hv' ⊢
          exact hF.2.2.2.2.2.1 0 i hv'
        · have e := hn0 g hg
          unfold k_v at hv
          rw [e] at hv ⊢
          exact hF.2.2.2.2.2.1 g i hv
      · by_cases hg : g = 0
        · subst hg
          have hv' : i < n2 0 17 ∧ 0 < n2 0 19 ∧ n2 0 2 ≠ 40 := hv
          rw [hnr 17 (by decide), hnr 19 (by decide), hnr 2 (by decide)] at hv'
          rw [hnr 19 (by decide)]
          exact hF.2.2.2.2.2.2 0 i hv'
        · have e := hn0 g hg
          unfold k_v at hv
          rw [e] at hv ⊢
          exact hF.2.2.2.2.2.2 g i hv
    have hF2 : k_W X n2 ad1 L1 (k_g C1 0 σ.1) fr1 H := k_forgetP (D' := σ.1) d2 (fun g' hg => ⟨(hn0 g' hg).symm, rfl⟩) (fun r hr => ⟨(hnr r hr).symm, rfl⟩) h21 h22 hcap (fun _ _ => rfl) hF
    have e5 : k_g C1 0 σ.1 5 = C1 5 := k_g_ne _ _ (by decide)
    have er : kRun (C1 5 19) ne = (C 0, nl, nt, ng) := (kRun_cg (fun j hj => h8 j (by omega))).trans i11
    refine ⟨n2, ad1, L1, k_g C1 0 σ.1, σ.2.1, σ.2.2.1, σ.2.2.2, ne + 1, _, hp.1, ⟨d2, c2, m2, ?_, ?_, h21, h22, fun r => ?_, by omega, fun j hj => ?_, ?_⟩, ?_, h3, ?_, hback _ _ _ _ _ hF2, fun _ => ⟨pk_uLs, ?_⟩, fun q => absurd c q⟩
    · rw [k_g_at]; exact h6
    · rw [hnr 9 (by decide)]; exact h5
    · rw [hn0 1 (by decide), (h1 1 (by decide) (by decide)).1]; exact i8 r
    · rw [e5]
      by_cases hj2 : j = ne
      · rw [hj2, er, h9]; exact hw
      · rw [h8 j hj2, kRun_cg (ev' := C 5 19) (fun j' hj' => h8 j' (by omega))]
        exact i10 j (by omega)
    · rw [e5, k_g_at]
      show (s_und (kRun (C1 5 19) ne) (C1 5 19 ne)).1 = _
      rw [er, h9, hσ]
    · rw [k_g_ne _ _ (by decide)]; exact (h1 2 (by decide) (by decide)).2.2.2
    · rw [(h1 2 (by decide) (by decide)).2.1]
    · rw [k_g_at]
  · exact ⟨n, ad, L, C, nl, nt, ng, ne, f, hp.1, hI.next, rfl, rfl, rfl, by have := hp.2.2 c; rw [k_g_self] at this; exact this, fun q => absurd q c, fun _ => rfl⟩
/-- the relation once the reference has answered too -/
theorem lw_chg {C' : Nat → Nat → Nat → Nat → Int32} {nl' nt' ng' : Nat} {cd : Int32} {r : KD × Int32} {w : Nat → Int32} {f' : Nat → Int64} (h : q_chg (C 0) (C 2) nl nt ng cd r w) (h0 : cd = 0 → f' 0 = (s_und (C 0, nl, nt, ng) w).2.toInt64 ∧ (C' 0, nl', nt', ng') = (s_und (C 0, nl, nt, ng) w).1) (h1 : cd ≠ 0 → (C' 0, nl', nt', ng') = (C 0, nl, nt, ng)) :
    r.1 14 0 0 = cd ∧ q_V (C' 0) r.1 nl' nt' ng' ∧ (cd = 0 → f' 0 = r.2.toInt64) := by
  obtain ⟨a1, a2, a3⟩ := h
  refine ⟨a1, ?_, fun q => ?_⟩
  · by_cases c : cd = 0
    · have e := (h0 c).2
      have q := (a2 c).1
      rw [← e] at q
      exact q
    · have e := h1 c
      have q := a3 c
      simp only [Prod.mk.injEq] at e
      rw [e.1, e.2.1, e.2.2.1, e.2.2.2]
      exact q
  · rw [(h0 q).1, (a2 q).2.1]
end LAWQ
theorem lw_nm {D E : KD} {nl nt ng : Nat} (hV : q_V D E nl nt ng) (hfp : kFP) (hc : s_x_meanWait D nl nt ng = 0) : vf_n64 (FP.ddiv (FP.i2d (s_X0_minutesWaited D nl nt ng)) (FP.i2d (nI nl))) := by
  refine hfp.1 _ _ (fun q => ?_)
  unfold s_x_meanWait at hc
  rw [if_pos q] at hc
  exact absurd hc (by decide)
theorem lw_nd {D E : KD} {nl nt ng : Nat} (hV : q_V D E nl nt ng) (hfp : kFP) (hc : s_x_dockShare D nl nt ng = 0) : vf_n64 (FP.f2d (FP.fdiv (FP.i2f (s_X0_minutesOfTheDock D nl nt ng)) (FP.i2f (s_X0_minutesWaited D nl nt ng)))) := by
  refine (hfp.2.1 _ _ (fun q => ?_)).2
  unfold s_x_dockShare at hc
  rw [if_pos q] at hc
  exact absurd hc (by decide)
section LAW
variable {p : Program} {l : Launch} {e : Env} {R : Room} {s : State} {m : MethodId} {args : Array Value} {below : List Frame} {meth : Method} {c : Code} {H : Heap} {locs : List Loc} {cells slots : Nat} {Q : State → Prop}
variable {pc : Nat} {ls : Array Slot} {rest : List Value} {X : kX} {n : Nat → Nat → Nat} {ad L : Nat → Nat → Nat → Nat} {C : Nat → Nat → Nat → Nat → Int32} {fr : Nat → Option Cell} {b Ln : Nat} {xs : Nat → Int32}
theorem lw_vS (hX0 : k_H0 X = s.heap) (hW : k_W X n ad L C fr H) (hL : ∀ q ∈ locs, k_B X ≤ q.base) : va_S (fun q => s.heap.size ≤ q) s.heap H locs := by
  have h5 := hW.2.2.2.2.1
  have e : k_B X = s.heap.size := by show (k_H0 X).size = _; rw [hX0]
  rw [e, hX0] at h5
  refine ⟨h5.1, fun q hq _ => h5.2 q hq, fun q hq => ?_⟩
  have := hL q hq
  rw [e] at this
  exact this
theorem lw_ia (hx : p.tables.exec = Jvm.exec) (hb : c.code = code) (hX0 : k_H0 X = s.heap) (hXs : va_X b Ln xs s s.heap) (hbl : b < s.heap.size) (hW : k_W X n ad L C fr H) (hL : ∀ q ∈ locs, k_B X ≤ q.base) {k j : Nat} (hk : 4 * k + j < Ln) (hL2 : Ln ≤ 2048) (hl0 : ls[0]? = some (.val (.ref b))) (hl5 : ls[5]? = some (.val (.int (nI (4 * k))))) {ci : Int} (hci : Int32.ofInt ci = nI j)
    (d0 : decode code pc = .ok (.aload_n 0, 1)) (d1 : decode code (pc + 1) = .ok (.iload 5, 2)) (d3 : decode code (pc + 3) = .ok (.iconst ci, 1)) (d4 : decode code (pc + 4) = .ok (.iadd, 1)) (d5 : decode code (pc + 5) = .ok (.iaload, 1))
    (kk : W p l e R s m args below meth c H locs cells slots Q (F0 m (pc + 6) ls (.int (xs (4 * k + j)) :: rest))) : W p l e R s m args below meth c H locs cells slots Q (F0 m pc ls rest) := by
  refine lv_aload_n hx hb d0 rfl hl0 ?_
  refine lv_iload hx hb d1 hl5 ?_
  refine lv_iconst hx hb d3 hci ?_
  refine lv_iadd hx hb d4 ?_
  rw [nI_add]
  refine va_sld (A := fun q => s.heap.size ≤ q) hx hb hXs hbl (fun q => absurd hbl (Nat.not_lt.mpr q)) (lw_vS hX0 hW hL) (vp_in_nI hk (by omega)) d5 ?_
  rw [nI_clamp (by omega)]
  exact kk
theorem lw_br (hx : p.tables.exec = Jvm.exec) (hb : c.code = code) {x : Int32} (d0 : decode code pc = .ok (.ifCond .eq 7, 3)) (d3 : decode code (pc + 3) = .ok (.iconst 1, 1)) (d4 : decode code (pc + 4) = .ok (.goto 4, 3)) (d7 : decode code (pc + 7) = .ok (.iconst 0, 1))
    (kk : W p l e R s m args below meth c H locs cells slots Q (F0 m (pc + 8) ls (.int (if x = 0 then 0 else 1) :: rest))) : W p l e R s m args below meth c H locs cells slots Q (F0 m pc ls (.int x :: rest)) := by
  refine lv_if_eq (tgt := pc + 7) hx hb d0 (by omega) (fun h => ?_) (fun h => ?_)
  · refine lv_iconst (v := 0) hx hb d7 (by decide) ?_
    rw [if_pos h] at kk
    exact kk
  · refine lv_iconst (v := 1) hx hb d3 (by decide) ?_
    refine lv_goto (tgt := pc + 8) hx hb d4 (by omega) ?_
    rw [if_neg h] at kk
    exact kk
theorem lw_lcmp (x : Int64) : lg_cmp x x = 0 := by
  unfold lg_cmp
  rw [if_neg (Int64.lt_irrefl), if_pos rfl]
/-- thrown() asked, the codes compared: alike -/
theorem lw_thr (hx : p.tables.exec = Jvm.exec) (hb : c.code = code) (hml : c.maxLocals = 9) (hown : s.vm.findClass RL = some m.cls) (hts : ∀ w ∈ wsL_lawN, w.before args s = true) (hK : k_S X s) (hm : k_mod n 2) {E : KD} {ws : va_W} (hW : k_N X n ad L (k_g C 2 E) fr ws H) (hL : ∀ q ∈ locs, k_B X ≤ q.base) {cd : Int32} (hthr : E 14 0 0 = cd) {lv : List (Nat × Value)} (hl : lv_has ls 9 lv) (k2 k6 : Nat) (h2 : lv[k2]? = some (2, .ref (ad 2 14 0))) (h6 : lv[k6]? = some (6, .int cd)) (hcs : cells ≤ room_1.cells ∧ slots ≤ room_1.slots)
    (d0 : decode code pc = .ok (.aload_n 2, 1)) (d1 : decode code (pc + 1) = .ok (.invokevirtual 114, 3)) (d4 : decode code (pc + 4) = .ok (.iload 6, 2)) (d6 : decode code (pc + 6) = .ok (.if_icmp .eq 5, 3))
    (kk : ∀ (H : Heap) (locs : List Loc), k_N X n ad L (k_g C 2 E) fr ws H → (∀ q ∈ locs, k_B X ≤ q.base) → W p l e room_1 s m args below meth c H locs cells slots Q (F0 m (pc + 11) ls [])) : W p l e room_1 s m args below meth c H locs cells slots Q (F0 m pc ls []) := by
  refine lv_aload_n hx hb d0 rfl (lv_at hl k2 h2) ?_
  obtain ⟨fr1, hF, hback⟩ := hW.freeze
  refine k_callV (As := []) (rest := []) ⟨hx, hb, hml, hown, hts⟩ hK (c_X7_thrown X l hm E) (cwV 0 hts gL_law_X7_thrown rfl rfl rfl (by decide +kernel) ⟨Nat.le_of_ble_eq_true rfl, Nat.le_of_ble_eq_true rfl⟩) (k_recv hK hF 14 0 hm.o (fun _ => rfl) rfl) hF rfl hl.1 rfl (Nat.le_of_ble_eq_true rfl) d1 hcs hL (fun v H locs hp hL => ?_)
  obtain ⟨rfl, hW⟩ := hp
  replace hW := hback _ _ _ _ _ hW
  refine lv_iload hx hb d4 (lv_at hl k6 h6) ?_
  refine lv_icmp_eq (tgt := pc + 11) hx hb d6 (by omega) (fun _ => kk _ _ hW hL) (fun h => absurd hthr h)
/-- the answers compared: alike -/
theorem lw_cmp (hx : p.tables.exec = Jvm.exec) (hb : c.code = code) (hK : k_S X s) {o o2 : Nat} {f : Nat → Int64} {fd : Nat → UInt64} (hW : k_N X n ad L C fr (lw_ws X o o2 f fd) H) {cd rv : Int32} (hans : cd = 0 → f 0 = rv.toInt64) {lv : List (Nat × Value)} (hl : lv_has ls 9 lv) (k3 k6 k7 : Nat) (h3 : lv[k3]? = some (3, .ref o)) (h6 : lv[k6]? = some (6, .int cd)) (h7 : lv[k7]? = some (7, .int rv)) {off : Int} (hoff : ((pc + 17 : Nat) : Int) + off = ((1811 : Nat) : Int))
    (d0 : decode code pc = .ok (.iload 6, 2)) (d2 : decode code (pc + 2) = .ok (.ifCond .ne 15, 3)) (d5 : decode code (pc + 5) = .ok (.aload_n 3, 1)) (d6 : decode code (pc + 6) = .ok (.iconst 0, 1)) (d7 : decode code (pc + 7) = .ok (.laload, 1)) (d8 : decode code (pc + 8) = .ok (.iload 7, 2)) (d10 : decode code (pc + 10) = .ok (.i2l, 1)) (d11 : decode code (pc + 11) = .ok (.lcmp, 1)) (d12 : decode code (pc + 12) = .ok (.ifCond .eq 5, 3)) (d17 : decode code (pc + 17) = .ok (.goto off, 3))
    (kk : W p l e R s m args below meth c H locs cells slots Q (F0 m 1811 ls [])) : W p l e R s m args below meth c H locs cells slots Q (F0 m pc ls []) := by
  have e0 : (0 : Int32).toNatClampNeg = 0 := by decide
  refine lv_iload hx hb d0 (lv_at hl k6 h6) ?_
  refine lv_if_ne (tgt := pc + 17) hx hb d2 (by omega) (fun _ => lv_goto (tgt := 1811) hx hb d17 hoff kk) (fun hc => ?_)
  refine lv_aload_n hx hb d5 rfl (lv_at hl k3 h3) ?_
  refine lv_iconst (v := 0) hx hb d6 (by decide) ?_
  refine va_lald hx hb hK.1 hW.2.1 0 5 rfl rfl (by unfold vp_in; decide) d7 ?_
  rw [e0, hans hc]
  refine lv_iload hx hb d8 (lv_at hl k7 h7) ?_
  refine lv_i2l hx hb d10 rfl ?_
  refine W.lcmp hx hb d11 ?_
  rw [lw_lcmp]
  exact lv_if_eq (tgt := pc + 17) hx hb d12 (by omega) (fun _ => lv_goto (tgt := 1811) hx hb d17 hoff kk) (fun h => absurd rfl h)
end LAW
theorem lw_I0 : lw_I k_nS k_CS 0 0 0 0 0 := by
  refine ⟨k_dkD (fun _ => rfl), ⟨rfl, rfl, rfl, rfl, rfl⟩, ⟨rfl, rfl⟩, ⟨fun t ht => absurd ht (Nat.not_lt_zero _), fun d => Or.inl rfl⟩, rfl, rfl, rfl, fun _ => rfl, Nat.le_refl _, fun j hj => absurd hj (Nat.not_lt_zero _), rfl⟩
