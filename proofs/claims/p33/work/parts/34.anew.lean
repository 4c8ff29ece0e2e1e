/-! a dock just made comes into the world -/
def k_D0 : KD := fun r _ _ => if r = 3 then -1 else 0
def k_nD : Nat → Nat := fun r => if r = 0 then 1 else if r = 1 then 3 else if r = 3 then 1 else 0
def k_aD (q1 q2 q3 q4 a : Nat) : Nat → Nat → Nat := fun r i => if r = 0 then a else if r = 3 then q4 else if i = 0 then q1 else if i = 1 then q2 else q3
theorem k_nD_0 {r : Nat} (h : r ≠ 0 ∧ r ≠ 1 ∧ r ≠ 3) : k_nD r = 0 := by
  unfold k_nD
  rw [if_neg h.1, if_neg h.2.1, if_neg h.2.2]
/-- which places a fresh dock has -/
theorem k_vD {n : Nat → Nat → Nat} {g r i : Nat} (hn : ∀ r, n g r = k_nD r) (hv : k_v n g r i) : (r = 0 ∧ i = 0) ∨ (r = 3 ∧ i = 0) ∨ (r = 1 ∧ i < 3) := by
  unfold k_v at hv
  split at hv
  · rw [hn] at hv; exact Or.inr (Or.inr ⟨rfl, hv.1⟩)
  · rw [hn (4 + i), k_nD_0 (by omega)] at hv; exact absurd hv.2.1 (Nat.lt_irrefl _)
  · rw [hn, k_nD_0 (by decide)] at hv; exact absurd hv (Nat.not_lt_zero _)
  · rw [hn, k_nD_0 (by decide)] at hv; exact absurd hv (Nat.not_lt_zero _)
  · rw [hn, k_nD_0 (by decide)] at hv; exact absurd hv.1 (Nat.not_lt_zero _)
  · rw [hn, k_nD_0 (by decide)] at hv; exact absurd hv.1 (Nat.not_lt_zero _)
  · rename_i r9 p1 p2 p3 p4 p5 p6
    rw [hn] at hv
    by_cases h0 : r = 0
    · subst h0; have : i < 1 := hv; exact Or.inl ⟨rfl, by omega⟩
    · by_cases h3 : r = 3
      · subst h3; have : i < 1 := hv; exact Or.inr (Or.inl ⟨rfl, by omega⟩)
      · rw [k_nD_0 ⟨h0, p1, h3⟩] at hv; exact absurd hv (Nat.not_lt_zero _)
theorem k_dkD {n : Nat → Nat → Nat} {g : Nat} (hn : ∀ r, n g r = k_nD r) : kDk n g 0 0 0 := by
  unfold kDk
  simp only [hn]
  decide
/-- what a fresh dock's places hold -/
theorem k_eD {X : kX} {n : Nat → Nat → Nat} {ad L : Nat → Nat → Nat → Nat} {g q1 q2 q3 q4 a r i : Nat} (hn : ∀ r, n g r = k_nD r) (ha : ∀ r i, ad g r i = k_aD q1 q2 q3 q4 a r i) (h : (r = 0 ∧ i = 0) ∨ (r = 3 ∧ i = 0) ∨ (r = 1 ∧ i < 3)) :
    k_e X n ad L g r i (k_D0 r i) = if r = 0 then .inr (6, [.ref q1, .ref q2, .ref q3, .ref q4, .int 0]) else if r = 3 then .inl (X.2.1 3, 4, .inr (.inr (.inr (.inr (fun _ => none))))) else .inr (3, [.int 0, .ref X.2.2.2, .int 0]) := by
  rcases h with ⟨rfl, rfl⟩ | ⟨rfl, rfl⟩ | ⟨rfl, hi⟩
  · show (Sum.inr (6, [.ref (ad g 1 0), .ref (ad g 1 1), .ref (ad g 1 2), .ref (ad g 3 0), .int 0]) : va_E) = _
    rw [ha, ha, ha, ha]
    rfl
  · rfl
  · show (Sum.inr (3, [.int 0, .ref (if n g (4 + i) = 0 then X.2.2.2 else ad g 2 i), .int (nI (n g (4 + i)))]) : va_E) = _
    rw [hn, k_nD_0 (by omega)]
    rfl
def k_jD (r i : Nat) : Option Nat := if r = 0 ∧ i = 0 then some 4 else if r = 3 ∧ i = 0 then some 0 else if r = 1 ∧ i = 0 then some 3 else if r = 1 ∧ i = 1 then some 2 else if r = 1 ∧ i = 2 then some 1 else none
set_option maxHeartbeats 400000 in
theorem k_closeD {X : kX} {n : Nat → Nat → Nat} {ad L : Nat → Nat → Nat → Nat} {C : Nat → Nat → Nat → Nat → Int32} {fr : Nat → Option Cell} {H : Heap} {g a q1 q2 q3 q4 : Nat} (hg : g ≠ 0) (hn : ∀ r, n g r = 0)
    (h : k_N X n ad L C fr [(q4, .inl (X.2.1 3, 4, .inr (.inr (.inr (.inr (fun _ => none)))))), (q3, .inr (3, [.int 0, .ref X.2.2.2, .int 0])), (q2, .inr (3, [.int 0, .ref X.2.2.2, .int 0])), (q1, .inr (3, [.int 0, .ref X.2.2.2, .int 0])), (a, .inr (6, [.ref q1, .ref q2, .ref q3, .ref q4, .int 0]))] H) :
    ∃ n' ad', (∀ g', g' ≠ g → n' g' = n g' ∧ ad' g' = ad g') ∧ ad' g 0 0 = a ∧ kDk n' g 0 0 0 ∧ n' g 9 = 0 ∧ k_W X n' ad' L (k_g C g k_D0) fr H := by
  have hns : ∀ r, (fun g' r' => if g' = g then k_nD r' else n g' r') g r = k_nD r := fun r => if_pos rfl
  have hno : ∀ g', g' ≠ g → (fun g' r' => if g' = g then k_nD r' else n g' r') g' = n g' := fun g' hg => by funext r'; exact if_neg hg
  have has : ∀ r i, (fun g' r' i' => if g' = g then k_aD q1 q2 q3 q4 a r' i' else ad g' r' i') g r i = k_aD q1 q2 q3 q4 a r i := fun r i => if_pos rfl
  have hao : ∀ g', g' ≠ g → (fun g' r' i' => if g' = g then k_aD q1 q2 q3 q4 a r' i' else ad g' r' i') g' = ad g' := fun g' hg => by funext r' i'; exact if_neg hg
  generalize hN : (fun g' r' => if g' = g then k_nD r' else n g' r') = n' at hns hno
  generalize hA : (fun g' r' i' => if g' = g then k_aD q1 q2 q3 q4 a r' i' else ad g' r' i') = ad' at has hao
  refine ⟨n', ad', fun g' hg => ⟨hno g' hg, hao g' hg⟩, has 0 0, k_dkD hns, hns 9, ?_⟩
  refine h.close (fun g' r' i' => if g' = g then k_jD r' i' else none) (fun g' r' i' hv => ?_) (fun g1 r1 i1 g2 r2 i2 k e1 e2 => ?_) ⟨fun g' i' hv => ?_, fun g' i' hv => ?_⟩
  · by_cases hq : g' = g
    · subst hq
      have hp := k_vD hns hv
      rw [k_g_at, k_eD hns has hp, has]
      simp only [if_true]
      rcases hp with ⟨rfl, rfl⟩ | ⟨rfl, rfl⟩ | ⟨rfl, hi⟩
      · exact Or.inr ⟨4, rfl, rfl⟩
      · exact Or.inr ⟨0, rfl, rfl⟩
      · rcases (by omega : i' = 0 ∨ i' = 1 ∨ i' = 2) with rfl | rfl | rfl
        · exact Or.inr ⟨3, rfl, rfl⟩
        · exact Or.inr ⟨2, rfl, rfl⟩
        · exact Or.inr ⟨1, rfl, rfl⟩
    · refine Or.inl ⟨?_, if_neg hq, congrFun (congrFun (hao g' hq) r') i', ?_⟩
      · unfold k_v at hv ⊢; rw [← hno g' hq]; exact hv
      · rw [k_g_ne _ _ hq]
        exact congrFun (congrFun (congrFun (k_e_g (hno g' hq) (hao g' hq) (congrFun (congrFun (hao 0 (Ne.symm hg)) 0) 0) rfl) r') i') _
  · split at e1 <;> rename_i p1
    · split at e2 <;> rename_i p2
      · subst p1; subst p2; refine ⟨rfl, ?_⟩
        unfold k_jD at e1 e2
        (repeat' split at e1) <;> (repeat' split at e2) <;> first | (exact ⟨by omega, by omega⟩) | (cases e1; cases e2) | (cases e1) | (cases e2)
      · cases e2
    · cases e1
  · by_cases hq : g' = g
    · subst hq
      rcases k_vD hns hv with h | h | h <;> omega
    · rw [hno g' hq]; refine h.1.cap.1 g' i' ?_
      unfold k_v at hv ⊢; rw [← hno g' hq]; exact hv
  · by_cases hq : g' = g
    · subst hq
      rcases k_vD hns hv with h | h | h <;> omega
    · rw [hno g' hq]; refine h.1.cap.2 g' i' ?_
      unfold k_v at hv ⊢; rw [← hno g' hq]; exact hv
/-- a loop that counts up to N, and what it makes counted by the step -/
theorem k_forC {p : Program} {l : Launch} {e : Env} {R : Room} {s : State} {m : MethodId} {args : Array Value} {below : List Frame} {meth : Method} {c : Code} {H : Heap} {locs : List Loc} {Q : State → Prop} {pc : Nat} {ls : Array Slot} {rest : List Value} (N : Nat) (I : Nat → Heap → List Loc → Array Slot → Prop) (cf sf : Nat → Nat) (k0 : Nat) (h0 : I k0 H locs ls) (hk : k0 ≤ N)
    (hs : ∀ k, k ≤ N → (∀ H locs ls, k < N → I (k + 1) H locs ls → W p l e R s m args below meth c H locs (cf (k + 1)) (sf (k + 1)) Q (F0 m pc ls rest)) → ∀ H locs ls, I k H locs ls → W p l e R s m args below meth c H locs (cf k) (sf k) Q (F0 m pc ls rest)) : W p l e R s m args below meth c H locs (cf k0) (sf k0) Q (F0 m pc ls rest) := by
  have key : ∀ f k : Nat, k + f = N → ∀ H locs ls, I k H locs ls → W p l e R s m args below meth c H locs (cf k) (sf k) Q (F0 m pc ls rest) := by
    intro f
    induction f with
    | zero => intro k hk H locs ls hI; exact hs k (by omega) (fun H locs ls h _ => absurd h (by omega)) H locs ls hI
    | succ f ih => intro k hk H locs ls hI; exact hs k (by omega) (fun H locs ls h hI2 => ih (k + 1) (by omega) H locs ls hI2) H locs ls hI
  exact key (N - k0) k0 (by omega) H locs ls h0
/-- the state that events make out of nothing -/
def kRun (ev : Nat → Nat → Int32) : Nat → kSt
  | 0 => (k_D0, 0, 0, 0)
  | j + 1 => (s_und (kRun ev j) (ev j)).1
def k_adds (ev : Nat → Nat → Int32) (k : Nat) : Nat := (kRun ev k).2.1 + (kRun ev k).2.2.1 + (kRun ev k).2.2.2
theorem kOk.lim {σ : kSt} {w : Nat → Int32} (h : kOk σ w) (h1 : σ.2.1 ≤ 8) (h2 : σ.2.2.1 ≤ 16) (h3 : σ.2.2.2 ≤ 4) : (s_und σ w).1.2.1 ≤ 8 ∧ (s_und σ w).1.2.2.1 ≤ 16 ∧ (s_und σ w).1.2.2.2 ≤ 4 := by
  rcases h with ⟨hk, q1⟩ | ⟨hk, q1, -⟩ | ⟨hk, -⟩ | ⟨hk, -⟩ | ⟨hk, -⟩ | ⟨hk, q1⟩ | ⟨hk, -⟩ | ⟨hk, -⟩
  · rw [s_und_0 hk]; exact ⟨q1, h2, h3⟩
  · rw [s_und_1 hk]; exact ⟨h1, q1, h3⟩
  · rw [s_und_2 hk]; exact ⟨h1, h2, h3⟩
  · rw [s_und_3 hk]; exact ⟨h1, h2, h3⟩
  · rw [s_und_4 hk]; exact ⟨h1, h2, h3⟩
  · rw [s_und_5 hk]; exact ⟨h1, h2, q1⟩
  · rw [s_und_6 hk]; exact ⟨h1, h2, h3⟩
  · rw [s_und_7 hk]; exact ⟨h1, h2, h3⟩
theorem cWF_D0 : cWF k_D0 0 0 := ⟨fun t ht => absurd ht (Nat.not_lt_zero _), fun d => Or.inl rfl⟩
/-- owner 1 holds a dock of the state σ, all else stands -/
def kAnew (X : kX) (n : Nat → Nat → Nat) (ad L : Nat → Nat → Nat → Nat) (C : Nat → Nat → Nat → Nat → Int32) (fr : Nat → Option Cell) (σ : kSt) (a : Nat) (H : Heap) : Prop :=
  ∃ n1 ad1 L1, (∀ g', g' ≠ 1 → n1 g' = n g' ∧ ad1 g' = ad g' ∧ L1 g' = L g') ∧ ad1 1 0 0 = a ∧ kDk n1 1 σ.2.1 σ.2.2.1 σ.2.2.2 ∧ n1 1 9 = 0 ∧ cWF σ.1 σ.2.1 σ.2.2.1 ∧ k_W X n1 ad1 L1 (k_g C 1 σ.1) fr H
set_option maxHeartbeats 400000 in
set_option maxRecDepth 100000 in
theorem c_X6_dockAnew (X : kX) (l : Launch) {n : Nat → Nat → Nat} {ad L : Nat → Nat → Nat → Nat} {C : Nat → Nat → Nat → Nat → Int32} {fr : Nat → Option Cell} {ne : Nat} (hc : kCx n ne) (hne : ne ≤ 512) (hn1 : ∀ r, n 1 r = 0) (hok : ∀ j, j < ne → kOk (kRun (C 5 19) j) (C 5 19 j)) : k_M X l yX6_dockAnew wsX6_dockAnew ({ frames := 9, cells := 89, slots := 970, locals := 234 }) [.ref (ad 5 16 0)] (k_W X n ad L C fr) (fun v H => ∃ a, v = some (.ref a) ∧ kAnew X n ad L C fr (kRun (C 5 19) ne) a H) 89 970 := by
  refine k_M.of (cc := cX6_dockAnew) (maxL := 3) (ret := (some (.object "Crossdockery$Dock"))) (by decide) rfl (Nat.le_of_ble_eq_true rfl) ?_
  intro p e s m args below meth c ls hx hb hr hml hown hts hlocks hnm hK hW hl
  have hL : ∀ q ∈ ([] : List Loc), k_B X ≤ q.base := fun _ h => nomatch h
  have hl : lv_has ls 3 [(0, .ref (ad 5 16 0))] := hl
  have fX6 : ∀ w ∈ u_ws RX6 TX6 2, w.before args s = true := fun w h => hts w ((by decide +kernel : ∀ w ∈ u_ws RX6 TX6 2, w ∈ wsX6_dockAnew) w h)
  replace hW := k_N.of hW
  refine k_new (ci := 6) (K := RX0) (T := TX0) (N := 5) (fs := [.null, .null, .null, .null, .int 0]) hx hb hts (by decide +kernel) tyX0 tyX0_ok hown (hts (.classLink RX6 9 RX0) (by decide +kernel)) (hts (.instantiable RX0 5) (by decide +kernel)) (hts (.initialized RX0) (by decide +kernel)) hK hW rfl (by decide) (Nat.le_of_ble_eq_true rfl) (Nat.le_of_ble_eq_true rfl) dX6_dockAnew_0 (fun q1 H hW => ?_)
  refine lv_dup hx hb dX6_dockAnew_3 rfl ?_
  refine k_callIN (As := []) (rest := [.ref q1]) ⟨hx, hb, hml, hown, hts⟩ hK (c_X0_init X l q1) ⟨va_cnB 0 hts gX6_dockAnew_X0_init_n11 rfl rfl rfl (hK.nest (List.mem_of_getElem? (i := 0) rfl)) (hts (.initialized RX0) (by decide +kernel)) (by decide +kernel) ⟨Nat.le_of_ble_eq_true rfl, Nat.le_of_ble_eq_true rfl⟩, rfl, (hts (.instanceMethod yX0_init) (by decide +kernel))⟩ hW rfl hl.1 rfl (Nat.le_of_ble_eq_true rfl) dX6_dockAnew_4 ⟨Nat.le_of_ble_eq_true rfl, Nat.le_of_ble_eq_true rfl⟩ hL (fun v9 H locs hp hL => ?_)
  obtain ⟨rfl, q2, q3, q4, q5, hW⟩ := hp
  obtain ⟨n1, ad1, ho, ha, hd1, h91, hW7⟩ := k_closeD (by decide) hn1 hW
  subst ha
  replace hW := hW7
  have h5 : ad1 5 = ad 5 := (ho 5 (by decide)).2
  rw [← h5] at hl
  refine lv_astore_n (lv' := [(1, .ref (ad1 1 0 0)), (0, .ref (ad1 5 16 0))]) hx hb dX6_dockAnew_7 rfl hl (by decide) rfl (fun ls hl => ?_)
  refine lv_iconst (v := 0) hx hb dX6_dockAnew_8 (by decide) ?_
  refine lv_istore_n (lv' := [(2, .int 0), (1, .ref (ad1 1 0 0)), (0, .ref (ad1 5 16 0))]) hx hb dX6_dockAnew_9 rfl hl (by decide) rfl (fun ls hl => ?_)
  refine k_more (cells' := 5 + 3 * k_adds (C 5 19) 0) (slots' := 18 + 34 * k_adds (C 5 19) 0) (Nat.le_of_ble_eq_true rfl) (Nat.le_of_ble_eq_true rfl) ?_
  refine k_forC ne (fun k H locs ls => (∃ n1 ad1 L1, (∀ g', g' ≠ 1 → n1 g' = n g' ∧ ad1 g' = ad g' ∧ L1 g' = L g') ∧ kDk n1 1 (kRun (C 5 19) k).2.1 (kRun (C 5 19) k).2.2.1 (kRun (C 5 19) k).2.2.2 ∧ n1 1 9 = 0 ∧ cWF (kRun (C 5 19) k).1 (kRun (C 5 19) k).2.1 (kRun (C 5 19) k).2.2.1 ∧ k_W X n1 ad1 L1 (k_g C 1 (kRun (C 5 19) k).1) fr H ∧ lv_has ls 3 [(2, .int (nI k)), (1, .ref (ad1 1 0 0)), (0, .ref (ad1 5 16 0))]) ∧ ∀ q ∈ locs, k_B X ≤ q.base) (fun k => 5 + 3 * k_adds (C 5 19) k) (fun k => 18 + 34 * k_adds (C 5 19) k) 0 ⟨⟨n1, ad1, L, fun g' hg => ⟨(ho g' hg).1, (ho g' hg).2, rfl⟩, hd1, h91, cWF_D0, hW, hl⟩, hL⟩ (Nat.zero_le _) (fun k hk ih H locs ls hI => ?_)
  clear ho hd1 h91 hW7 hW hl hL
  obtain ⟨⟨n1, ad1, L1, ho, hd1, h91, hwf, hW, hl⟩, hL⟩ := hI
  have hc1 : kCx n1 ne := by unfold kCx; rw [(ho 5 (by decide)).1]; exact hc
  refine lv_iload_n hx hb dX6_dockAnew_10 rfl (lv_at hl 0 rfl) ?_
  refine lv_aload_n hx hb dX6_dockAnew_11 rfl (lv_at hl 2 rfl) ?_
  refine k_get (g := 5) (K := RX6) (T := TX6) (N := 2) (v := .ref (ad1 5 17 0)) (w := .ref (ad1 5 17 0)) hx hb fX6 hown hK (k_ev hW) 16 0 hc1.o (fun _ => rfl) rfl 1 (by decide) (hts (.fieldLink RX6 19 "Crossdockery" "events" "Ljava/util/ArrayList;") (by decide +kernel)) rfl rfl rfl dX6_dockAnew_12 ?_
  refine k_callV (As := []) (rest := [.int (nI k)]) ⟨hx, hb, hml, hown, hts⟩ hK (c_Jx4a65c_size_8abf5 X l hc1.li (hc1.e X ad1 L1)) (cwV 0 hts gX6_dockAnew_Jx4a65c_size_8abf5 rfl rfl rfl (by decide +kernel) ⟨Nat.le_of_ble_eq_true rfl, Nat.le_of_ble_eq_true rfl⟩) (k_recv hK (k_ev hW) 17 0 hc1.li (fun _ => rfl) rfl) (k_ev hW) rfl hl.1 rfl (Nat.le_of_ble_eq_true rfl) dX6_dockAnew_15 ⟨(by show 5 + 3 * k_adds (C 5 19) k + 0 ≤ 89; unfold k_adds; have := hd1.l8; have := hd1.t16; have := hd1.g4; omega), (by show 18 + 34 * k_adds (C 5 19) k + 0 ≤ 970; unfold k_adds; have := hd1.l8; have := hd1.t16; have := hd1.g4; omega)⟩ hL (fun v9 H locs hp hL => ?_)
  obtain ⟨rfl, hW⟩ := hp
  rw [k_g_self] at hW
  refine lv_icmp_ge (tgt := 43) hx hb dX6_dockAnew_18 (by decide) (fun h1 => ?_) (fun h1 => ?_)
  ·
    have hge := k_nI_ge (by omega) (by omega) h1
    obtain rfl : ne = k := by omega
    refine lv_aload_n hx hb dX6_dockAnew_43 rfl (lv_at hl 1 rfl) ?_
    refine k_more (cells' := 89) (slots' := 970) (by show 5 + 3 * k_adds (C 5 19) ne + 0 ≤ 89; unfold k_adds; have := hd1.l8; have := hd1.t16; have := hd1.g4; omega) (by show 18 + 34 * k_adds (C 5 19) ne + 0 ≤ 970; unfold k_adds; have := hd1.l8; have := hd1.t16; have := hd1.g4; omega) ?_
    exact k_aret (v := some (ad1 1 0 0)) hx hb hr hlocks ⟨_, rfl, n1, ad1, L1, ho, rfl, hd1, h91, hwf, hW⟩ hL dX6_dockAnew_44
  ·
    have hlt := k_nI_nge (by omega) (by omega) h1
    refine lv_aload_n hx hb dX6_dockAnew_21 rfl (lv_at hl 1 rfl) ?_
    refine lv_aload_n hx hb dX6_dockAnew_22 rfl (lv_at hl 2 rfl) ?_
    refine k_get (g := 5) (K := RX6) (T := TX6) (N := 2) (v := .ref (ad1 5 17 0)) (w := .ref (ad1 5 17 0)) hx hb fX6 hown hK (k_ev hW) 16 0 hc1.o (fun _ => rfl) rfl 1 (by decide) (hts (.fieldLink RX6 19 "Crossdockery" "events" "Ljava/util/ArrayList;") (by decide +kernel)) rfl rfl rfl dX6_dockAnew_23 ?_
    refine lv_iload_n hx hb dX6_dockAnew_26 rfl (lv_at hl 0 rfl) ?_
    have h0 : 0 < ne := by omega
    have hcp := k_capE hW hc1 h0
    refine k_callV (As := [.int (nI k)]) (rest := [.ref (ad1 1 0 0)]) ⟨hx, hb, hml, hown, hts⟩ hK (c_Jx4a65c_get_915e3 X l (r2 := 18) (a := ad1 5 19 k) hc1.li (hc1.en h0 X ad1 L1) (hc1.ar h0) (hc1.f X ad1 L1) hlt hcp.1 (by omega) (fun _ => if_pos hlt)) (cwV 1 hts gX6_dockAnew_Jx4a65c_get_915e3 rfl rfl rfl (by decide +kernel) ⟨Nat.le_of_ble_eq_true rfl, Nat.le_of_ble_eq_true rfl⟩) (k_recv hK (k_ev hW) 17 0 hc1.li (fun _ => rfl) rfl) (k_ev hW) rfl hl.1 rfl (Nat.le_of_ble_eq_true rfl) dX6_dockAnew_27 ⟨(by show 5 + 3 * k_adds (C 5 19) k + 0 + 0 ≤ 89; unfold k_adds; have := hd1.l8; have := hd1.t16; have := hd1.g4; omega), (by show 18 + 34 * k_adds (C 5 19) k + 0 + 0 ≤ 970; unfold k_adds; have := hd1.l8; have := hd1.t16; have := hd1.g4; omega)⟩ hL (fun v9 H locs hp hL => ?_)
    obtain ⟨rfl, hW⟩ := hp
    rw [k_g_self] at hW
    refine k_cast' (K := RX1) (nm := RX1) hx hb hown (hts (.classLink RX6 229 RX1) (by decide +kernel)) hK (List.mem_of_getElem? (i := 7) rfl) (k_recv hK (k_ev hW) 19 k (hc1.ev hlt) (fun _ => rfl) rfl) dX6_dockAnew_30 ?_
    have hadd : k_adds (C 5 19) (k + 1) = k_adds (C 5 19) k + k_cst (C 5 19 k) := k_cst_cnt (hok k hlt)
    have hlim := kOk.lim (hok k hlt) hd1.l8 hd1.t16 hd1.g4
    have hle : k_adds (C 5 19) (k + 1) ≤ 28 := by show (s_und (kRun (C 5 19) k) (C 5 19 k)).1.2.1 + (s_und (kRun (C 5 19) k) (C 5 19 k)).1.2.2.1 + (s_und (kRun (C 5 19) k) (C 5 19 k)).1.2.2.2 ≤ 28; omega
    refine k_callV (As := [.ref (ad1 5 19 k)]) (rest := []) ⟨hx, hb, hml, hown, hts⟩ hK (c_X0_undergo X l hd1 (kRun (C 5 19) k).1 hwf h91 (by decide) (hc1.ev hlt) (hok k hlt)) (cwV 1 hts gX6_dockAnew_X0_undergo rfl rfl rfl (by decide +kernel) ⟨Nat.le_of_ble_eq_true rfl, Nat.le_of_ble_eq_true rfl⟩) (k_recv hK hW 0 0 hd1.o (fun _ => rfl) rfl) hW rfl hl.1 rfl (Nat.le_of_ble_eq_true rfl) dX6_dockAnew_33 ⟨(by show 5 + 3 * k_adds (C 5 19) k + 0 + 0 + 3 * k_cst (C 5 19 k) ≤ 89; omega), (by show 18 + 34 * k_adds (C 5 19) k + 0 + 0 + 34 * k_cst (C 5 19 k) ≤ 970; omega)⟩ hL (fun v9 H locs hp hL => ?_)
    obtain ⟨rfl, n2, ad2, L2, k1, k2, k3, k4, k5, hW⟩ := hp
    refine lv_pop hx hb dX6_dockAnew_36 rfl ?_
    refine lv_iinc (v := nI (k + 1)) (k := 0) (lv' := [(2, .int (nI (k + 1))), (1, .ref (ad1 1 0 0)), (0, .ref (ad1 5 16 0))]) hx hb dX6_dockAnew_37 hl rfl (nI_1 _) (by decide) rfl (fun ls hl => ?_)
    refine lv_goto (tgt := 10) hx hb dX6_dockAnew_40 (by decide) ?_
    refine k_more (cells' := 5 + 3 * k_adds (C 5 19) (k + 1)) (slots' := 18 + 34 * k_adds (C 5 19) (k + 1)) (by show 5 + 3 * k_adds (C 5 19) k + 0 + 0 + 3 * k_cst (C 5 19 k) ≤ _; omega) (by show 18 + 34 * k_adds (C 5 19) k + 0 + 0 + 34 * k_cst (C 5 19 k) ≤ _; omega) ?_
    have ha1 : ad2 1 0 0 = ad1 1 0 0 := k2.2
    have ha5 : ad2 5 = ad1 5 := (k2.1 5 (by decide)).1
    rw [← ha1, ← ha5] at hl
    exact ih _ _ _ hlt ⟨⟨n2, ad2, L2, fun g' hg => ⟨(k1 g' hg).trans (ho g' hg).1, (k2.1 g' hg).1.trans (ho g' hg).2.1, (k2.1 g' hg).2.trans (ho g' hg).2.2⟩, k3, k4, k5, hW, hl⟩, hL⟩
