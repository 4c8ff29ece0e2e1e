/-- a dock stands at owner g, with so many lorries, transfers, gangs -/
def kDk (n : Nat → Nat → Nat) (g nl nt ng : Nat) : Prop := n g 0 = 1 ∧ n g 1 = 3 ∧ n g 3 = 1 ∧ n g 4 = nl ∧ n g 5 = nt ∧ n g 6 = ng ∧ nl ≤ 8 ∧ nt ≤ 16 ∧ ng ≤ 4 ∧ n g 2 = 0
theorem kDk.o {n : Nat → Nat → Nat} {g nl nt ng : Nat} (h : kDk n g nl nt ng) : k_v n g 0 0 := by
  show 0 < n g 0
  rw [h.1]; decide
theorem kDk.li {n : Nat → Nat → Nat} {g nl nt ng : Nat} (h : kDk n g nl nt ng) {i : Nat} (hi : i < 3) : k_v n g 1 i := by
  show i < n g 1 ∧ n g 2 ≠ i + 1
  rw [h.2.1, h.2.2.2.2.2.2.2.2.2]; exact ⟨hi, by omega⟩
theorem kDk.at {n : Nat → Nat → Nat} {g nl nt ng : Nat} (h : kDk n g nl nt ng) : k_v n g 3 0 := by
  show 0 < n g 3
  rw [h.2.2.1]; decide
theorem kDk.lo {n : Nat → Nat → Nat} {g nl nt ng : Nat} (h : kDk n g nl nt ng) {i : Nat} (hi : i < nl) : k_v n g 4 i := by
  show i < n g 4
  rw [h.2.2.2.1]; exact hi
theorem kDk.mi {n : Nat → Nat → Nat} {g nl nt ng : Nat} (h : kDk n g nl nt ng) {i : Nat} (hi : i < nl) : k_v n g 7 i := by
  show i < n g 4
  rw [h.2.2.2.1]; exact hi
theorem kDk.tr {n : Nat → Nat → Nat} {g nl nt ng : Nat} (h : kDk n g nl nt ng) {i : Nat} (hi : i < nt) : k_v n g 5 i := by
  show i < n g 5
  rw [h.2.2.2.2.1]; exact hi
theorem kDk.co {n : Nat → Nat → Nat} {g nl nt ng : Nat} (h : kDk n g nl nt ng) {i : Nat} (hi : i < nt) : k_v n g 8 i := by
  show i < n g 5
  rw [h.2.2.2.2.1]; exact hi
theorem kDk.ga {n : Nat → Nat → Nat} {g nl nt ng : Nat} (h : kDk n g nl nt ng) {i : Nat} (hi : i < ng) : k_v n g 6 i := by
  show i < n g 6
  rw [h.2.2.2.2.2.1]; exact hi
theorem kDk.nl {n : Nat → Nat → Nat} {g nl nt ng : Nat} (h : kDk n g nl nt ng) : n g 4 = nl := h.2.2.2.1
theorem kDk.nt {n : Nat → Nat → Nat} {g nl nt ng : Nat} (h : kDk n g nl nt ng) : n g 5 = nt := h.2.2.2.2.1
theorem kDk.ng {n : Nat → Nat → Nat} {g nl nt ng : Nat} (h : kDk n g nl nt ng) : n g 6 = ng := h.2.2.2.2.2.1
theorem kDk.l8 {n : Nat → Nat → Nat} {g nl nt ng : Nat} (h : kDk n g nl nt ng) : nl ≤ 8 := h.2.2.2.2.2.2.1
theorem kDk.t16 {n : Nat → Nat → Nat} {g nl nt ng : Nat} (h : kDk n g nl nt ng) : nt ≤ 16 := h.2.2.2.2.2.2.2.1
theorem kDk.g4 {n : Nat → Nat → Nat} {g nl nt ng : Nat} (h : kDk n g nl nt ng) : ng ≤ 4 := h.2.2.2.2.2.2.2.2.1
theorem kDk.no {n : Nat → Nat → Nat} {g nl nt ng : Nat} (h : kDk n g nl nt ng) : n g 2 = 0 := h.2.2.2.2.2.2.2.2.2
/-- a lorry by its number, -1: none -/
def k_lr (ad : Nat → Nat → Nat → Nat) (g : Nat) (x : Int32) : Option Nat := if x = -1 then none else some (ad g 4 x.toNatClampNeg)
theorem k_lr_0 {ad : Nat → Nat → Nat → Nat} {g : Nat} {x : Int32} (h : x = -1) : k_lr ad g x = none := if_pos h
theorem k_lr_x {ad : Nat → Nat → Nat → Nat} {g : Nat} {x : Int32} (h : x ≠ -1) : k_lr ad g x = some (ad g 4 x.toNatClampNeg) := if_neg h
theorem k_lr_n {ad : Nat → Nat → Nat → Nat} {g i : Nat} (h : i < 2 ^ 31) : k_lr ad g (nI i) = some (ad g 4 i) := by
  rw [k_lr_x (nI_nm1 h), nI_clamp h]
/-- the dock's references are to lorries -/
def cWF (D : KD) (nl nt : Nat) : Prop := (∀ t, t < nt → vp_in (D 5 t 0) nl ∧ vp_in (D 5 t 1) nl) ∧ ∀ d, D 3 0 d = -1 ∨ vp_in (D 3 0 d) nl
theorem cWF.fr {D : KD} {nl nt : Nat} (h : cWF D nl nt) {t : Nat} (ht : t < nt) : (D 5 t 0).toNatClampNeg < nl := (h.1 t ht).1.lt
theorem cWF.to {D : KD} {nl nt : Nat} (h : cWF D nl nt) {t : Nat} (ht : t < nt) : (D 5 t 1).toNatClampNeg < nl := (h.1 t ht).2.lt
theorem cWF.at {D : KD} {nl nt : Nat} (h : cWF D nl nt) {d : Nat} (_hd : d < 4) (h1 : D 3 0 d ≠ -1) : (D 3 0 d).toNatClampNeg < nl := ((h.2 d).resolve_left h1).lt
theorem cWF.ain {D : KD} {nl nt : Nat} (h : cWF D nl nt) {d : Nat} (_hd : d < 4) (h1 : D 3 0 d ≠ -1) : vp_in (D 3 0 d) nl := (h.2 d).resolve_left h1
theorem cWF.put {D : KD} {nl nt r i k : Nat} {x : Int32} (h : cWF D nl nt) (hr : r ≠ 3 ∧ (r ≠ 5 ∨ 2 ≤ k)) : cWF (k_d D r i k x) nl nt := by
  have e3 : k_d D r i k x 3 0 = D 3 0 := k_d_off D x (fun z => hr.1 z.1.symm)
  have e5 : ∀ t m, m < 2 → k_d D r i k x 5 t m = D 5 t m := by
    intro t m hm
    refine if_neg (fun z => ?_)
    rcases hr.2 with q | q
    · exact q z.1.symm
    · omega
  unfold cWF at h ⊢
  refine ⟨fun t ht => ?_, fun d => ?_⟩
  · rw [e5 t 0 (by decide), e5 t 1 (by decide)]
    exact h.1 t ht
  · rw [e3]
    exact h.2 d
theorem cWF.put3 {D : KD} {nl nt k : Nat} {x : Int32} (h : cWF D nl nt) (hx : x = -1 ∨ vp_in x nl) : cWF (k_d D 3 0 k x) nl nt := by
  have e5 : ∀ t, k_d D 3 0 k x 5 t = D 5 t := fun t => k_d_off D x (fun z => absurd z.1 (by decide))
  unfold cWF at h ⊢
  refine ⟨fun t ht => ?_, fun d => ?_⟩
  · rw [e5]
    exact h.1 t ht
  · by_cases q : d = k
    · subst q
      rw [k_d_at]
      exact hx
    · rw [k_d_ne _ _ q]
      exact h.2 d
theorem vp_in_of_lt {x : Int32} {N : Nat} (hN : N < 2 ^ 31) (h1 : ¬ x < 0) (h2 : x < nI N) : vp_in x N := by
  obtain ⟨j, hj, rfl⟩ := nI_of h1
  exact vp_in_nI ((nI_ltI hj hN).mp h2) hN
theorem vp_in_of_nge {x : Int32} {N : Nat} (hN : N < 2 ^ 31) (h1 : ¬ x < 0) (h2 : ¬ x ≥ nI N) : vp_in x N := by
  obtain ⟨j, hj, rfl⟩ := nI_of h1
  have := mt (nI_leI hN hj).mpr h2
  exact vp_in_nI (by omega) hN
theorem k_01 {x : Int32} (h : x = 0 ∨ x = 1) : narrow .boolean (.int x) = .int x := by rcases h with q | q <;> rw [q] <;> decide
theorem k_01f {x : Int32} (h : x = 0 ∨ x = 1) : fits .boolean (.int x) = true := by rcases h with q | q <;> rw [q] <;> decide
theorem k_W.cap {X : kX} {n : Nat → Nat → Nat} {ad L : Nat → Nat → Nat → Nat} {C : Nat → Nat → Nat → Nat → Int32} {fr : Nat → Option Cell} {H : Heap} (h : k_W X n ad L C fr H) : k_cap n L := h.2.2.2.2.2
theorem kDk.e0 {n : Nat → Nat → Nat} {g nl nt ng : Nat} (h : kDk n g nl nt ng) (X : kX) (ad L : Nat → Nat → Nat → Nat) : ∀ c : Nat → Int32, k_e X n ad L g 1 0 c = .inr (3, [.int (c 0), .ref (if nl = 0 then X.2.2.2 else ad g 2 0), .int (nI nl)]) := by
  intro c
  show Sum.inr _ = _
  rw [← h.nl]
theorem kDk.en0 {n : Nat → Nat → Nat} {g nl nt ng : Nat} (h : kDk n g nl nt ng) (hn : 0 < nl) (X : kX) (ad L : Nat → Nat → Nat → Nat) : ∀ c : Nat → Int32, k_e X n ad L g 1 0 c = .inr (3, [.int (c 0), .ref (ad g 2 0), .int (nI nl)]) := by
  intro c
  rw [h.e0 X ad L c, if_neg (by omega)]
theorem kDk.f0 {n : Nat → Nat → Nat} {g nl nt ng : Nat} (h : kDk n g nl nt ng) (X : kX) (ad L : Nat → Nat → Nat → Nat) : ∀ c : Nat → Int32, k_e X n ad L g 2 0 c = .inl (X.2.1 4, L g 2 0, .inr (.inr (.inr (.inr (fun j => if j < nl then some (ad g 4 j) else none))))) := by
  intro c
  show Sum.inl _ = _
  rw [← h.nl]
theorem kDk.w0 {n : Nat → Nat → Nat} {g nl nt ng : Nat} (h : kDk n g nl nt ng) (hn : 0 < nl) : k_v n g 2 0 := by
  show 0 < n g 1 ∧ 0 < n g (4 + 0) ∧ n g 2 ≠ 0 + 1
  rw [h.2.1, h.no]
  refine ⟨by decide, ?_, by decide⟩
  show 0 < n g 4
  rw [h.nl]
  exact hn
theorem kDk.e1 {n : Nat → Nat → Nat} {g nl nt ng : Nat} (h : kDk n g nl nt ng) (X : kX) (ad L : Nat → Nat → Nat → Nat) : ∀ c : Nat → Int32, k_e X n ad L g 1 1 c = .inr (3, [.int (c 0), .ref (if nt = 0 then X.2.2.2 else ad g 2 1), .int (nI nt)]) := by
  intro c
  show Sum.inr _ = _
  rw [← h.nt]
theorem kDk.en1 {n : Nat → Nat → Nat} {g nl nt ng : Nat} (h : kDk n g nl nt ng) (hn : 0 < nt) (X : kX) (ad L : Nat → Nat → Nat → Nat) : ∀ c : Nat → Int32, k_e X n ad L g 1 1 c = .inr (3, [.int (c 0), .ref (ad g 2 1), .int (nI nt)]) := by
  intro c
  rw [h.e1 X ad L c, if_neg (by omega)]
theorem kDk.f1 {n : Nat → Nat → Nat} {g nl nt ng : Nat} (h : kDk n g nl nt ng) (X : kX) (ad L : Nat → Nat → Nat → Nat) : ∀ c : Nat → Int32, k_e X n ad L g 2 1 c = .inl (X.2.1 4, L g 2 1, .inr (.inr (.inr (.inr (fun j => if j < nt then some (ad g 5 j) else none))))) := by
  intro c
  show Sum.inl _ = _
  rw [← h.nt]
theorem kDk.w1 {n : Nat → Nat → Nat} {g nl nt ng : Nat} (h : kDk n g nl nt ng) (hn : 0 < nt) : k_v n g 2 1 := by
  show 1 < n g 1 ∧ 0 < n g (4 + 1) ∧ n g 2 ≠ 1 + 1
  rw [h.2.1, h.no]
  refine ⟨by decide, ?_, by decide⟩
  show 0 < n g 5
  rw [h.nt]
  exact hn
theorem kDk.e2 {n : Nat → Nat → Nat} {g nl nt ng : Nat} (h : kDk n g nl nt ng) (X : kX) (ad L : Nat → Nat → Nat → Nat) : ∀ c : Nat → Int32, k_e X n ad L g 1 2 c = .inr (3, [.int (c 0), .ref (if ng = 0 then X.2.2.2 else ad g 2 2), .int (nI ng)]) := by
  intro c
  show Sum.inr _ = _
  rw [← h.ng]
theorem kDk.en2 {n : Nat → Nat → Nat} {g nl nt ng : Nat} (h : kDk n g nl nt ng) (hn : 0 < ng) (X : kX) (ad L : Nat → Nat → Nat → Nat) : ∀ c : Nat → Int32, k_e X n ad L g 1 2 c = .inr (3, [.int (c 0), .ref (ad g 2 2), .int (nI ng)]) := by
  intro c
  rw [h.e2 X ad L c, if_neg (by omega)]
theorem kDk.f2 {n : Nat → Nat → Nat} {g nl nt ng : Nat} (h : kDk n g nl nt ng) (X : kX) (ad L : Nat → Nat → Nat → Nat) : ∀ c : Nat → Int32, k_e X n ad L g 2 2 c = .inl (X.2.1 4, L g 2 2, .inr (.inr (.inr (.inr (fun j => if j < ng then some (ad g 6 j) else none))))) := by
  intro c
  show Sum.inl _ = _
  rw [← h.ng]
theorem kDk.w2 {n : Nat → Nat → Nat} {g nl nt ng : Nat} (h : kDk n g nl nt ng) (hn : 0 < ng) : k_v n g 2 2 := by
  show 2 < n g 1 ∧ 0 < n g (4 + 2) ∧ n g 2 ≠ 2 + 1
  rw [h.2.1, h.no]
  refine ⟨by decide, ?_, by decide⟩
  show 0 < n g 6
  rw [h.ng]
  exact hn
theorem vp_in.nm1 {x : Int32} {n : Nat} (h : vp_in x n) : ¬ x = -1 := fun q => h (Or.inl (by rw [q]; decide))
section KDOCK
variable {p : Program} {l : Launch} {e : Env} {R : Room} {s : State} {m : MethodId} {args : Array Value} {below : List Frame} {meth : Method} {c : Code} {H : Heap} {locs : List Loc} {cells slots : Nat} {Q : State → Prop}
variable {cc : ByteArray} {pc : Nat} {ls : Array Slot} {rest : List Value} {X : kX} {n : Nat → Nat → Nat} {ad L : Nat → Nat → Nat → Nat} {C : Nat → Nat → Nat → Nat → Int32} {fr : Nat → Option Cell} {g : Nat} {D : KD}
theorem k_opt {x : Int32} (kn : x = -1 → W p l e R s m args below meth c H locs cells slots Q (F0 m pc ls (.null :: rest))) (ks : ¬ x = -1 → W p l e R s m args below meth c H locs cells slots Q (F0 m pc ls (.ref (ad g 4 x.toNatClampNeg) :: rest))) : W p l e R s m args below meth c H locs cells slots Q (F0 m pc ls (va_rf (k_lr ad g x) :: rest)) := by
  by_cases q : x = -1
  · rw [k_lr_0 q]
    exact kn q
  · rw [k_lr_x q]
    exact ks q
theorem k_acmp_ne (hexec : p.tables.exec = Jvm.exec) (hb : c.code = cc) (hW : k_W X n ad L (k_g C g D) fr H) {i j : Nat} (hi : k_v n g 4 i) (hj : k_v n g 4 j) {off : Int} {tgt : Nat} (hdg : decode cc pc = .ok (.if_acmp .ne off, 3)) (ht : (pc : Int) + off = (tgt : Int))
    (kt : ¬ i = j → W p l e R s m args below meth c H locs cells slots Q (F0 m tgt ls rest)) (kf : i = j → W p l e R s m args below meth c H locs cells slots Q (F0 m (pc + 3) ls rest)) : W p l e R s m args below meth c H locs cells slots Q (F0 m pc ls (.ref (ad g 4 j) :: .ref (ad g 4 i) :: rest)) := by
  refine lv_acmp_ne (rx := some (ad g 4 i)) (ry := some (ad g 4 j)) hexec hb hdg ht (fun q => kt (fun z => q (by rw [z]))) (fun q => kf ?_)
  exact (hW.2.1 _ _ _ _ _ _ hi hj (Option.some.inj q)).2.2
theorem k_acmp_eq (hexec : p.tables.exec = Jvm.exec) (hb : c.code = cc) (hW : k_W X n ad L (k_g C g D) fr H) {i j : Nat} (hi : k_v n g 4 i) (hj : k_v n g 4 j) {off : Int} {tgt : Nat} (hdg : decode cc pc = .ok (.if_acmp .eq off, 3)) (ht : (pc : Int) + off = (tgt : Int))
    (kt : i = j → W p l e R s m args below meth c H locs cells slots Q (F0 m tgt ls rest)) (kf : ¬ i = j → W p l e R s m args below meth c H locs cells slots Q (F0 m (pc + 3) ls rest)) : W p l e R s m args below meth c H locs cells slots Q (F0 m pc ls (.ref (ad g 4 j) :: .ref (ad g 4 i) :: rest)) := by
  refine lv_acmp_eq (rx := some (ad g 4 i)) (ry := some (ad g 4 j)) hexec hb hdg ht (fun q => kt ?_) (fun q => kf (fun z => q (by rw [z])))
  exact (hW.2.1 _ _ _ _ _ _ hi hj (Option.some.inj q)).2.2
end KDOCK

theorem k_m1_0 : (-1 : Int32) = nI 0 - 1 := by decide
theorem k_m1_j (j : Nat) : nI (j + 1) - 1 = nI j := by
  rw [← nI_1 j]
  exact Int32.add_sub_cancel _ _
theorem k_m1_s (k : Nat) : nI k - 1 + 1 = nI (k + 1) - 1 := by
  rw [k_m1_j k]
  exact Int32.sub_add_cancel _ _
theorem k_m1_ge {k N : Nat} (hk : k < 2 ^ 31) (hN : N < 2 ^ 31) (h : nI k - 1 ≥ nI N) : N + 1 ≤ k := by
  cases k with
  | zero =>
    exfalso
    rw [← k_m1_0] at h
    have h2 := nI_leI (a := N) (b := 0)
    have h3 : ¬ nI N < 0 := nI_pos hN
    have h4 : (-1 : Int32) < 0 := by decide
    rw [Int32.lt_iff_toInt_lt] at h3 h4
    have h5 := Int32.le_iff_toInt_le.mp h
    omega
  | succ j =>
    rw [k_m1_j] at h
    have := (nI_leI hN (by omega)).mp h
    omega
theorem k_m1_nge {k N : Nat} (hk : k < 2 ^ 31) (hN : N < 2 ^ 31) (h : ¬ nI k - 1 ≥ nI N) : k < N + 1 := by
  cases k with
  | zero => omega
  | succ j =>
    rw [k_m1_j] at h
    have := mt (nI_leI hN (by omega)).mpr h
    omega

set_option maxHeartbeats 4000000 in
set_option maxRecDepth 100000 in
theorem c_Jx4a65c_size_8abf5 (X : kX) (l : Launch) {n : Nat → Nat → Nat} {ad L : Nat → Nat → Nat → Nat} {C : Nat → Nat → Nat → Nat → Int32} {fr : Nat → Option Cell} {g : Nat} {D : KD} {r i cnt a0 : Nat} (hv1 : k_v n g r i) (he1 : ∀ c : Nat → Int32, k_e X n ad L g r i c = .inr (3, [.int (c 0), .ref a0, .int (nI cnt)])) : k_M X l yJx4a65c_size_8abf5 wsJx4a65c_size_8abf5 ({ frames := 1, cells := 0, slots := 0, locals := 12 }) [.ref (ad g r i)] (k_W X n ad L (k_g C g D) fr) (fun v H => v = some (.int (nI cnt)) ∧ k_W X n ad L (k_g C g D) fr H) 0 0 := by
  refine k_M.of (cc := cJx4a65c_size_8abf5) (maxL := 1) (ret := (some .int)) (by decide) rfl (Nat.le_of_ble_eq_true rfl) ?_
  intro p e s m args below meth c ls hx hb hr hml hown hts hlocks hnm hK hW hl
  have hL : ∀ q ∈ ([] : List Loc), k_B X ≤ q.base := fun _ h => nomatch h
  have hl : lv_has ls 1 [(0, .ref (ad g r i))] := hl
  have fJx4a65c : ∀ w ∈ u_ws RJx4a65c TJx4a65c 3, w.before args s = true := fun w h => hts w ((by decide +kernel : ∀ w ∈ u_ws RJx4a65c TJx4a65c 3, w ∈ wsJx4a65c_size_8abf5) w h)
  refine lv_aload_n hx hb dJx4a65c_size_8abf5_0 rfl (lv_at hl 0 rfl) ?_
  refine k_get (K := RJx4a65c) (T := TJx4a65c) (N := 3) (v := .int (nI cnt)) (w := .int (nI cnt)) hx hb fJx4a65c hown hK hW r i hv1 he1 rfl 2 (by decide) (hts (.fieldLink RJx4a65c 48 "java/util/ArrayList" "size" "I") (by decide +kernel)) rfl rfl rfl dJx4a65c_size_8abf5_1 ?_
  exact k_iret hx hb hr hlocks (⟨rfl, hW⟩) hL dJx4a65c_size_8abf5_4
set_option maxHeartbeats 4000000 in
set_option maxRecDepth 100000 in
theorem c_J3_checkIndex_8e157 (X : kX) (l : Launch) (P0 : Heap → Prop) {j cnt : Nat} (hj : j < cnt) (hc : cnt < 2 ^ 31) : k_M X l yJ3_checkIndex_8e157 wsJ3_checkIndex_8e157 ({ frames := 1, cells := 0, slots := 0, locals := 12 }) [.int (nI j), .int (nI cnt), .null] (P0) (fun v H => v = some (.int (nI j)) ∧ P0 H) 0 0 := by
  refine k_M.of (cc := cJ3_checkIndex_8e157) (maxL := 3) (ret := (some .int)) (by decide) rfl (Nat.le_of_ble_eq_true rfl) ?_
  intro p e s m args below meth c ls hx hb hr hml hown hts hlocks hnm hK hW hl
  have hL : ∀ q ∈ ([] : List Loc), k_B X ≤ q.base := fun _ h => nomatch h
  have hl : lv_has ls 3 [(0, .int (nI j)), (1, .int (nI cnt)), (2, .null)] := hl
  refine lv_iload_n hx hb dJ3_checkIndex_8e157_0 rfl (lv_at hl 0 rfl) ?_
  refine lv_if_lt (tgt := 9) hx hb dJ3_checkIndex_8e157_1 (by decide) (fun c1 => ?_) (fun c1 => ?_)
  ·
    exact absurd c1 (nI_pos (by omega))
  ·
    refine lv_iload_n hx hb dJ3_checkIndex_8e157_4 rfl (lv_at hl 0 rfl) ?_
    refine lv_iload_n hx hb dJ3_checkIndex_8e157_5 rfl (lv_at hl 1 rfl) ?_
    refine lv_icmp_lt (tgt := 16) hx hb dJ3_checkIndex_8e157_6 (by decide) (fun c2 => ?_) (fun c2 => ?_)
    ·
      refine lv_iload_n hx hb dJ3_checkIndex_8e157_16 rfl (lv_at hl 0 rfl) ?_
      exact k_iret hx hb hr hlocks (⟨rfl, hW⟩) hL dJ3_checkIndex_8e157_17
    ·
      exact absurd (nI_lt hj (by omega)) c2
set_option maxHeartbeats 4000000 in
set_option maxRecDepth 100000 in
theorem c_J15_checkIndex_7cf53 (X : kX) (l : Launch) (P0 : Heap → Prop) {j cnt : Nat} (hj : j < cnt) (hc : cnt < 2 ^ 31) : k_M X l yJ15_checkIndex_7cf53 wsJ15_checkIndex_7cf53 ({ frames := 2, cells := 0, slots := 0, locals := 34 }) [.int (nI j), .int (nI cnt)] (P0) (fun v H => v = some (.int (nI j)) ∧ P0 H) 0 0 := by
  refine k_M.of (cc := cJ15_checkIndex_7cf53) (maxL := 2) (ret := (some .int)) (by decide) rfl (Nat.le_of_ble_eq_true rfl) ?_
  intro p e s m args below meth c ls hx hb hr hml hown hts hlocks hnm hK hW hl
  have hL : ∀ q ∈ ([] : List Loc), k_B X ≤ q.base := fun _ h => nomatch h
  have hl : lv_has ls 2 [(0, .int (nI j)), (1, .int (nI cnt))] := hl
  refine lv_iload_n hx hb dJ15_checkIndex_7cf53_0 rfl (lv_at hl 0 rfl) ?_
  refine lv_iload_n hx hb dJ15_checkIndex_7cf53_1 rfl (lv_at hl 1 rfl) ?_
  refine lv_null hx hb dJ15_checkIndex_7cf53_2 ?_
  refine k_callS (As := [.int (nI j), .int (nI cnt), .null]) (rest := []) ⟨hx, hb, hml, hown, hts⟩ hK (c_J3_checkIndex_8e157 X l P0 hj hc) (va_cwS 3 hts gJ15_checkIndex_7cf53_J3_checkIndex_8e157 rfl rfl rfl (by decide +kernel) ⟨Nat.le_of_ble_eq_true rfl, Nat.le_of_ble_eq_true rfl⟩) hW rfl hl.1 rfl (Nat.le_of_ble_eq_true rfl) dJ15_checkIndex_7cf53_3 ⟨Nat.le_of_ble_eq_true rfl, Nat.le_of_ble_eq_true rfl⟩ hL (fun v9 H locs hp hL => ?_)
  obtain ⟨rfl, hW⟩ := hp
  exact k_iret hx hb hr hlocks (⟨rfl, hW⟩) hL dJ15_checkIndex_7cf53_6
set_option maxHeartbeats 4000000 in
set_option maxRecDepth 100000 in
theorem c_Jx4a65c_elementData_915e3 (X : kX) (l : Launch) {n : Nat → Nat → Nat} {ad L : Nat → Nat → Nat → Nat} {C : Nat → Nat → Nat → Nat → Int32} {fr : Nat → Option Cell} {g : Nat} {D : KD} {r r2 i cnt z : Nat} {f : (Nat → Int32) → Nat → Option Nat} (hv1 : k_v n g r i) (he1 : ∀ c : Nat → Int32, k_e X n ad L g r i c = .inr (3, [.int (c 0), .ref (ad g r2 i), .int (nI cnt)])) (hv2 : k_v n g r2 i) (he2 : ∀ c : Nat → Int32, k_e X n ad L g r2 i c = .inl (X.2.1 4, z, .inr (.inr (.inr (.inr (f c)))))) {j a : Nat} (hj : j < cnt) (hcz : cnt ≤ z) (hz : z < 2 ^ 31) (hel : ∀ c : Nat → Int32, f c j = some a) : k_M X l yJx4a65c_elementData_915e3 wsJx4a65c_elementData_915e3 ({ frames := 1, cells := 0, slots := 0, locals := 12 }) [.ref (ad g r i), .int (nI j)] (k_W X n ad L (k_g C g D) fr) (fun v H => v = some (.ref a) ∧ k_W X n ad L (k_g C g D) fr H) 0 0 := by
  refine k_M.of (cc := cJx4a65c_elementData_915e3) (maxL := 2) (ret := (some (.object "java/lang/Object"))) (by decide) rfl (Nat.le_of_ble_eq_true rfl) ?_
  intro p e s m args below meth c ls hx hb hr hml hown hts hlocks hnm hK hW hl
  have hL : ∀ q ∈ ([] : List Loc), k_B X ≤ q.base := fun _ h => nomatch h
  have hl : lv_has ls 2 [(0, .ref (ad g r i)), (1, .int (nI j))] := hl
  have fJx4a65c : ∀ w ∈ u_ws RJx4a65c TJx4a65c 3, w.before args s = true := fun w h => hts w ((by decide +kernel : ∀ w ∈ u_ws RJx4a65c TJx4a65c 3, w ∈ wsJx4a65c_elementData_915e3) w h)
  refine lv_aload_n hx hb dJx4a65c_elementData_915e3_0 rfl (lv_at hl 0 rfl) ?_
  refine k_get (K := RJx4a65c) (T := TJx4a65c) (N := 3) (v := .ref (ad g r2 i)) (w := .ref (ad g r2 i)) hx hb fJx4a65c hown hK hW r i hv1 he1 rfl 1 (by decide) (hts (.fieldLink RJx4a65c 9 "java/util/ArrayList" "elementData" "[Ljava/lang/Object;") (by decide +kernel)) rfl rfl rfl dJx4a65c_elementData_915e3_1 ?_
  refine lv_iload_n hx hb dJx4a65c_elementData_915e3_4 rfl (lv_at hl 1 rfl) ?_
  refine k_aald (K := "java/lang/Object") (t0 := 4) (k := j) (v := some a) hx hb hK hW r2 i hv2 he2 rfl (nI_clamp (by omega)) (vp_in_nI (by omega) (by omega)) (hel _) dJx4a65c_elementData_915e3_5 ?_
  exact k_aret (v := (some (a))) hx hb hr hlocks (⟨rfl, hW⟩) hL dJx4a65c_elementData_915e3_6
set_option maxHeartbeats 4000000 in
set_option maxRecDepth 100000 in
theorem c_Jx4a65c_get_915e3 (X : kX) (l : Launch) {n : Nat → Nat → Nat} {ad L : Nat → Nat → Nat → Nat} {C : Nat → Nat → Nat → Nat → Int32} {fr : Nat → Option Cell} {g : Nat} {D : KD} {r r2 i cnt z : Nat} {f : (Nat → Int32) → Nat → Option Nat} (hv1 : k_v n g r i) (he1 : ∀ c : Nat → Int32, k_e X n ad L g r i c = .inr (3, [.int (c 0), .ref (ad g r2 i), .int (nI cnt)])) (hv2 : k_v n g r2 i) (he2 : ∀ c : Nat → Int32, k_e X n ad L g r2 i c = .inl (X.2.1 4, z, .inr (.inr (.inr (.inr (f c)))))) {j a : Nat} (hj : j < cnt) (hcz : cnt ≤ z) (hz : z < 2 ^ 31) (hel : ∀ c : Nat → Int32, f c j = some a) : k_M X l yJx4a65c_get_915e3 wsJx4a65c_get_915e3 ({ frames := 3, cells := 0, slots := 0, locals := 55 }) [.ref (ad g r i), .int (nI j)] (k_W X n ad L (k_g C g D) fr) (fun v H => v = some (.ref a) ∧ k_W X n ad L (k_g C g D) fr H) 0 0 := by
  refine k_M.of (cc := cJx4a65c_get_915e3) (maxL := 2) (ret := (some (.object "java/lang/Object"))) (by decide) rfl (Nat.le_of_ble_eq_true rfl) ?_
  intro p e s m args below meth c ls hx hb hr hml hown hts hlocks hnm hK hW hl
  have hL : ∀ q ∈ ([] : List Loc), k_B X ≤ q.base := fun _ h => nomatch h
  have hl : lv_has ls 2 [(0, .ref (ad g r i)), (1, .int (nI j))] := hl
  have fJx4a65c : ∀ w ∈ u_ws RJx4a65c TJx4a65c 3, w.before args s = true := fun w h => hts w ((by decide +kernel : ∀ w ∈ u_ws RJx4a65c TJx4a65c 3, w ∈ wsJx4a65c_get_915e3) w h)
  refine lv_iload_n hx hb dJx4a65c_get_915e3_0 rfl (lv_at hl 1 rfl) ?_
  refine lv_aload_n hx hb dJx4a65c_get_915e3_1 rfl (lv_at hl 0 rfl) ?_
  refine k_get (K := RJx4a65c) (T := TJx4a65c) (N := 3) (v := .int (nI cnt)) (w := .int (nI cnt)) hx hb fJx4a65c hown hK hW r i hv1 he1 rfl 2 (by decide) (hts (.fieldLink RJx4a65c 48 "java/util/ArrayList" "size" "I") (by decide +kernel)) rfl rfl rfl dJx4a65c_get_915e3_2 ?_
  refine k_callS (As := [.int (nI j), .int (nI cnt)]) (rest := []) ⟨hx, hb, hml, hown, hts⟩ hK (c_J15_checkIndex_7cf53 X l (k_W X n ad L (k_g C g D) fr) hj (by omega)) (va_cwS 2 hts gJx4a65c_get_915e3_J15_checkIndex_7cf53 rfl rfl rfl (by decide +kernel) ⟨Nat.le_of_ble_eq_true rfl, Nat.le_of_ble_eq_true rfl⟩) hW rfl hl.1 rfl (Nat.le_of_ble_eq_true rfl) dJx4a65c_get_915e3_5 ⟨Nat.le_of_ble_eq_true rfl, Nat.le_of_ble_eq_true rfl⟩ hL (fun v9 H locs hp hL => ?_)
  obtain ⟨rfl, hW⟩ := hp
  refine lv_pop hx hb dJx4a65c_get_915e3_8 rfl ?_
  refine lv_aload_n hx hb dJx4a65c_get_915e3_9 rfl (lv_at hl 0 rfl) ?_
  refine lv_iload_n hx hb dJx4a65c_get_915e3_10 rfl (lv_at hl 1 rfl) ?_
  refine k_callV (As := [.int (nI j)]) (rest := []) ⟨hx, hb, hml, hown, hts⟩ hK (c_Jx4a65c_elementData_915e3 X l hv1 he1 hv2 he2 hj hcz hz hel) (cwV 1 hts gJx4a65c_get_915e3_Jx4a65c_elementData_915e3 rfl rfl rfl (by decide +kernel) ⟨Nat.le_of_ble_eq_true rfl, Nat.le_of_ble_eq_true rfl⟩) (k_recv hK hW r i hv1 he1 rfl) hW rfl hl.1 rfl (Nat.le_of_ble_eq_true rfl) dJx4a65c_get_915e3_11 ⟨Nat.le_of_ble_eq_true rfl, Nat.le_of_ble_eq_true rfl⟩ hL (fun v9 H locs hp hL => ?_)
  obtain ⟨rfl, hW⟩ := hp
  exact k_aret (v := (some (a))) hx hb hr hlocks (⟨rfl, hW⟩) hL dJx4a65c_get_915e3_14
theorem c_size0 (X : kX) (l : Launch) {n : Nat → Nat → Nat} {ad L : Nat → Nat → Nat → Nat} {C : Nat → Nat → Nat → Nat → Int32} {fr : Nat → Option Cell} {g : Nat} {D : KD} {nl nt ng : Nat} (hd : kDk n g nl nt ng) : k_M X l yJx4a65c_size_8abf5 wsJx4a65c_size_8abf5 ({ frames := 1, cells := 0, slots := 0, locals := 12 }) [.ref (ad g 1 0)] (k_W X n ad L (k_g C g D) fr) (fun v H => v = some (.int (nI nl)) ∧ k_W X n ad L (k_g C g D) fr H) 0 0 :=
  c_Jx4a65c_size_8abf5 X l (hd.li (i := 0) (by decide)) (hd.e0 X ad L)
theorem c_get0 (X : kX) (l : Launch) {n : Nat → Nat → Nat} {ad L : Nat → Nat → Nat → Nat} {C : Nat → Nat → Nat → Nat → Int32} {fr : Nat → Option Cell} {g : Nat} {D : KD} {nl nt ng : Nat} (hd : kDk n g nl nt ng) (hc : k_cap n L) {j : Nat} (hj : j < nl) : k_M X l yJx4a65c_get_915e3 wsJx4a65c_get_915e3 ({ frames := 3, cells := 0, slots := 0, locals := 55 }) [.ref (ad g 1 0), .int (nI j)] (k_W X n ad L (k_g C g D) fr) (fun v H => v = some (.ref (ad g 4 j)) ∧ k_W X n ad L (k_g C g D) fr H) 0 0 := by
  have hp : 0 < nl := by omega
  have hq := hc.1 g 0 (hd.w0 hp)
  have hq1 : nl ≤ L g 2 0 := by
    have := hq.1
    rw [show n g (4 + 0) = nl from hd.nl] at this
    exact this
  exact c_Jx4a65c_get_915e3 X l (hd.li (i := 0) (by decide)) (hd.en0 hp X ad L) (hd.w0 hp) (hd.f0 X ad L) hj hq1 (by omega) (fun _ => if_pos hj)
theorem c_size1 (X : kX) (l : Launch) {n : Nat → Nat → Nat} {ad L : Nat → Nat → Nat → Nat} {C : Nat → Nat → Nat → Nat → Int32} {fr : Nat → Option Cell} {g : Nat} {D : KD} {nl nt ng : Nat} (hd : kDk n g nl nt ng) : k_M X l yJx4a65c_size_8abf5 wsJx4a65c_size_8abf5 ({ frames := 1, cells := 0, slots := 0, locals := 12 }) [.ref (ad g 1 1)] (k_W X n ad L (k_g C g D) fr) (fun v H => v = some (.int (nI nt)) ∧ k_W X n ad L (k_g C g D) fr H) 0 0 :=
  c_Jx4a65c_size_8abf5 X l (hd.li (i := 1) (by decide)) (hd.e1 X ad L)
theorem c_get1 (X : kX) (l : Launch) {n : Nat → Nat → Nat} {ad L : Nat → Nat → Nat → Nat} {C : Nat → Nat → Nat → Nat → Int32} {fr : Nat → Option Cell} {g : Nat} {D : KD} {nl nt ng : Nat} (hd : kDk n g nl nt ng) (hc : k_cap n L) {j : Nat} (hj : j < nt) : k_M X l yJx4a65c_get_915e3 wsJx4a65c_get_915e3 ({ frames := 3, cells := 0, slots := 0, locals := 55 }) [.ref (ad g 1 1), .int (nI j)] (k_W X n ad L (k_g C g D) fr) (fun v H => v = some (.ref (ad g 5 j)) ∧ k_W X n ad L (k_g C g D) fr H) 0 0 := by
  have hp : 0 < nt := by omega
  have hq := hc.1 g 1 (hd.w1 hp)
  have hq1 : nt ≤ L g 2 1 := by
    have := hq.1
    rw [show n g (4 + 1) = nt from hd.nt] at this
    exact this
  exact c_Jx4a65c_get_915e3 X l (hd.li (i := 1) (by decide)) (hd.en1 hp X ad L) (hd.w1 hp) (hd.f1 X ad L) hj hq1 (by omega) (fun _ => if_pos hj)
theorem c_size2 (X : kX) (l : Launch) {n : Nat → Nat → Nat} {ad L : Nat → Nat → Nat → Nat} {C : Nat → Nat → Nat → Nat → Int32} {fr : Nat → Option Cell} {g : Nat} {D : KD} {nl nt ng : Nat} (hd : kDk n g nl nt ng) : k_M X l yJx4a65c_size_8abf5 wsJx4a65c_size_8abf5 ({ frames := 1, cells := 0, slots := 0, locals := 12 }) [.ref (ad g 1 2)] (k_W X n ad L (k_g C g D) fr) (fun v H => v = some (.int (nI ng)) ∧ k_W X n ad L (k_g C g D) fr H) 0 0 :=
  c_Jx4a65c_size_8abf5 X l (hd.li (i := 2) (by decide)) (hd.e2 X ad L)
theorem c_get2 (X : kX) (l : Launch) {n : Nat → Nat → Nat} {ad L : Nat → Nat → Nat → Nat} {C : Nat → Nat → Nat → Nat → Int32} {fr : Nat → Option Cell} {g : Nat} {D : KD} {nl nt ng : Nat} (hd : kDk n g nl nt ng) (hc : k_cap n L) {j : Nat} (hj : j < ng) : k_M X l yJx4a65c_get_915e3 wsJx4a65c_get_915e3 ({ frames := 3, cells := 0, slots := 0, locals := 55 }) [.ref (ad g 1 2), .int (nI j)] (k_W X n ad L (k_g C g D) fr) (fun v H => v = some (.ref (ad g 6 j)) ∧ k_W X n ad L (k_g C g D) fr H) 0 0 := by
  have hp : 0 < ng := by omega
  have hq := hc.1 g 2 (hd.w2 hp)
  have hq1 : ng ≤ L g 2 2 := by
    have := hq.1
    rw [show n g (4 + 2) = ng from hd.ng] at this
    exact this
  exact c_Jx4a65c_get_915e3 X l (hd.li (i := 2) (by decide)) (hd.en2 hp X ad L) (hd.w2 hp) (hd.f2 X ad L) hj hq1 (by omega) (fun _ => if_pos hj)
