theorem k_keep (D : KD) (r i k : Nat) (x : Int32) {i2 : Nat} {f : Nat → Int32} (h : ¬ (15 = r ∧ i2 = i)) (e : D 15 i2 = f) : k_d D r i k x 15 i2 = f := (k_d_off D x h).trans e
/-- what the reference's cells always are: counts, whole numbers of lorries, doors -/
def mWF (D : KD) (nl nt ng : Nat) : Prop :=
  (D 14 0 1 = nI nl ∧ nl ≤ 8) ∧ (D 14 0 2 = nI nt ∧ nt ≤ 16) ∧ (D 14 0 3 = nI ng ∧ ng ≤ 4) ∧
  (∀ t, t < nt → vp_in (D 15 12 t) nl ∧ vp_in (D 15 13 t) nl) ∧
  (∀ l, l < nl → D 15 4 l = -1 ∨ vp_in (D 15 4 l) 4) ∧
  (∀ l, l < nl → (D 15 11 l = 121 ∨ D 15 11 l = 100) → D 15 4 l ≠ -1) ∧
  (∀ d, d < 4 → D 15 23 d = -1 ∨ (vp_in (D 15 23 d) nl ∧ D 15 11 (D 15 23 d).toNatClampNeg = 100 ∧ D 15 4 (D 15 23 d).toNatClampNeg = nI d)) ∧
  (∀ l, l < nl → D 15 11 l = 100 → D 15 23 (D 15 4 l).toNatClampNeg = nI l) ∧
  (∀ l, l < nl → D 15 11 l = 101 ∨ D 15 11 l = 121 ∨ D 15 11 l = 100 ∨ D 15 11 l = 108)
theorem mWF.l {D : KD} {nl nt ng : Nat} (h : mWF D nl nt ng) : D 14 0 1 = nI nl := h.1.1
theorem mWF.l8 {D : KD} {nl nt ng : Nat} (h : mWF D nl nt ng) : nl ≤ 8 := h.1.2
theorem mWF.t {D : KD} {nl nt ng : Nat} (h : mWF D nl nt ng) : D 14 0 2 = nI nt := h.2.1.1
theorem mWF.t16 {D : KD} {nl nt ng : Nat} (h : mWF D nl nt ng) : nt ≤ 16 := h.2.1.2
theorem mWF.g {D : KD} {nl nt ng : Nat} (h : mWF D nl nt ng) : D 14 0 3 = nI ng := h.2.2.1.1
theorem mWF.g4 {D : KD} {nl nt ng : Nat} (h : mWF D nl nt ng) : ng ≤ 4 := h.2.2.1.2
theorem vp_in.mono {x : Int32} {a b : Nat} (h : vp_in x a) (hab : a ≤ b) : vp_in x b := fun q => h (q.imp id (fun z => by omega))
theorem mWF.fr {D : KD} {nl nt ng : Nat} (h : mWF D nl nt ng) {t : Nat} (ht : t < nt) : vp_in (D 15 12 t) 8 := (h.2.2.2.1 t ht).1.mono h.l8
theorem mWF.to {D : KD} {nl nt ng : Nat} (h : mWF D nl nt ng) {t : Nat} (ht : t < nt) : vp_in (D 15 13 t) 8 := (h.2.2.2.1 t ht).2.mono h.l8
theorem mWF.frl {D : KD} {nl nt ng : Nat} (h : mWF D nl nt ng) {t : Nat} (ht : t < nt) : vp_in (D 15 12 t) nl := (h.2.2.2.1 t ht).1
theorem mWF.tol {D : KD} {nl nt ng : Nat} (h : mWF D nl nt ng) {t : Nat} (ht : t < nt) : vp_in (D 15 13 t) nl := (h.2.2.2.1 t ht).2
theorem mWF.dr {D : KD} {nl nt ng : Nat} (h : mWF D nl nt ng) {l : Nat} (hl : l < nl) (h1 : D 15 4 l ≠ -1) : vp_in (D 15 4 l) 4 := (h.2.2.2.2.1 l hl).resolve_left h1
theorem mWF.put15 {D : KD} {nl nt ng : Nat} (h : mWF D nl nt ng) {j k : Nat} {x : Int32} (hj : j ≠ 4 ∧ j ≠ 11 ∧ j ≠ 12 ∧ j ≠ 13 ∧ j ≠ 23) : mWF (k_d D 15 j k x) nl nt ng := by
  have e4 : k_d D 15 j k x 15 4 = D 15 4 := k_d_off D x (fun z => hj.1 z.2.symm)
  have e11 : k_d D 15 j k x 15 11 = D 15 11 := k_d_off D x (fun z => hj.2.1 z.2.symm)
  have e12 : k_d D 15 j k x 15 12 = D 15 12 := k_d_off D x (fun z => hj.2.2.1 z.2.symm)
  have e13 : k_d D 15 j k x 15 13 = D 15 13 := k_d_off D x (fun z => hj.2.2.2.1 z.2.symm)
  have e23 : k_d D 15 j k x 15 23 = D 15 23 := k_d_off D x (fun z => hj.2.2.2.2 z.2.symm)
  have e14 : k_d D 15 j k x 14 0 = D 14 0 := k_d_off D x (fun z => absurd z.1 (by decide))
  unfold mWF at h ⊢
  rw [e4, e11, e12, e13, e23, e14]
  exact h
theorem mWF.put14 {D : KD} {nl nt ng : Nat} (h : mWF D nl nt ng) {i k : Nat} {x : Int32} (hk : k ≠ 1 ∧ k ≠ 2 ∧ k ≠ 3) : mWF (k_d D 14 i k x) nl nt ng := by
  have e (j : Nat) : k_d D 14 i k x 15 j = D 15 j := k_d_off D x (fun z => absurd z.1 (by decide))
  have e1 : k_d D 14 i k x 14 0 1 = D 14 0 1 := if_neg (fun z => hk.1 z.2.2.symm)
  have e2 : k_d D 14 i k x 14 0 2 = D 14 0 2 := if_neg (fun z => hk.2.1 z.2.2.symm)
  have e3 : k_d D 14 i k x 14 0 3 = D 14 0 3 := if_neg (fun z => hk.2.2 z.2.2.symm)
  unfold mWF at h ⊢
  rw [e, e, e, e, e, e1, e2, e3]
  exact h
theorem vp_in_toI {x : Int32} {N : Nat} (hN : N < 2 ^ 31) (h1 : ¬ x < 0) (h2 : ¬ x > nI N - 1) (hN0 : 0 < N) : vp_in x N := by
  obtain ⟨j, hj, rfl⟩ := nI_of h1
  have h3 : ¬ nI (N - 1) < nI j := by
    have e : nI N - 1 = nI (N - 1) := by
      have := nI_pred (N - 1)
      rw [show N - 1 + 1 = N by omega] at this
      exact this
    rw [← e]
    exact h2
  have := mt (nI_ltI (a := N - 1) (b := j) (by omega) hj).mpr h3
  exact vp_in_nI (by omega) hN
theorem vp_in.lt {x : Int32} {n : Nat} (h : vp_in x n) : x.toNatClampNeg < n := Nat.not_le.mp fun q => h (Or.inr q)
theorem vp_in.eq {x : Int32} {n : Nat} (h : vp_in x n) (hn : n < 2 ^ 31) : x = nI x.toNatClampNeg := by
  obtain ⟨j, hj, rfl⟩ := vp_in_of h hn
  rw [nI_clamp (by omega)]
theorem mWF.sd {D : KD} {nl nt ng : Nat} (h : mWF D nl nt ng) {l : Nat} (hl : l < nl) (hs : D 15 11 l = 121 ∨ D 15 11 l = 100) : D 15 4 l ≠ -1 := h.2.2.2.2.2.1 l hl hs
theorem mWF.sdr {D : KD} {nl nt ng : Nat} (h : mWF D nl nt ng) {l : Nat} (hl : l < nl) (hs : D 15 11 l = 121 ∨ D 15 11 l = 100) : vp_in (D 15 4 l) 4 := h.dr hl (h.sd hl hs)
theorem mWF.ind {D : KD} {nl nt ng : Nat} (h : mWF D nl nt ng) {d : Nat} (hd : d < 4) (h1 : D 15 23 d ≠ -1) : vp_in (D 15 23 d) nl ∧ D 15 11 (D 15 23 d).toNatClampNeg = 100 ∧ D 15 4 (D 15 23 d).toNatClampNeg = nI d := (h.2.2.2.2.2.2.1 d hd).resolve_left h1
theorem it_ind {α : Type} {f : Nat → α → α} {P : α → Prop} {a : α} {n : Nat} (h0 : P a) (hs : ∀ k, k < n → ∀ z, P z → P (f k z)) : P (it f n a) := by
  induction n with
  | zero => exact h0
  | succ n ih => exact hs n (by omega) _ (ih (fun k hk => hs k (by omega)))
theorem it_indk {α : Type} {f : Nat → α → α} {P : Nat → α → Prop} {a : α} {n : Nat} (h0 : P 0 a) (hs : ∀ k, k < n → ∀ z, P k z → P (k + 1) (f k z)) : P n (it f n a) := by
  induction n with
  | zero => exact h0
  | succ n ih => exact hs n (by omega) _ (ih (fun k hk => hs k (by omega)))
theorem k_d_at (D : KD) (r i k : Nat) (x : Int32) : k_d D r i k x r i k = x := by simp [k_d]
theorem k_d_ne (D : KD) {r i k k2 : Nat} (x : Int32) (h : k2 ≠ k) : k_d D r i k x r i k2 = D r i k2 := by simp [k_d, h]
theorem nI_addE {a b : Int32} {x y : Nat} (h1 : a = nI x) (h2 : b = nI y) : a + b = nI (x + y) := by rw [h1, h2, nI_add]
theorem nI_mulE {a b : Int32} {x y : Nat} (h1 : a = nI x) (h2 : b = nI y) : a * b = nI (x * y) := by rw [h1, h2, pk_mul]
theorem nI_clE {a : Int32} {x : Nat} (h : a = nI x) (hx : x < 2 ^ 31) : a.toNatClampNeg = x := by rw [h, nI_clamp hx]
theorem vp_in_E {a : Int32} {x N : Nat} (h : a = nI x) (hx : x < N) (hN : N < 2 ^ 31) : vp_in a N := by rw [h]; exact vp_in_nI hx hN
theorem mWF.st {D : KD} {nl nt ng : Nat} (h : mWF D nl nt ng) {l : Nat} (hl : l < nl) : D 15 11 l = 101 ∨ D 15 11 l = 121 ∨ D 15 11 l = 100 ∨ D 15 11 l = 108 := h.2.2.2.2.2.2.2.2 l hl
theorem mWF.nch {D : KD} {nl nt ng : Nat} (h : mWF D nl nt ng) {l : Nat} (hl : l < nl) : narrow .char (.int (D 15 11 l)) = .int (D 15 11 l) := by
  rcases h.st hl with q | q | q | q <;> rw [q] <;> decide
def s_X7_isIn (x : Int32) (lo : Int32) (hi : Int32) : Int32 := (if x < lo then 0 else (if x > hi then 0 else 1))
set_option maxHeartbeats 4000000 in
set_option maxRecDepth 100000 in
theorem c_X7_isIn (X : kX) (l : Launch) (P0 : Heap → Prop) (x lo hi : Int32) : k_M X l yX7_isIn wsX7_isIn ({ frames := 1, cells := 0, slots := 0, locals := 12 }) [.int x, .int lo, .int hi] (P0) (fun v H => v = some (.int (s_X7_isIn x lo hi)) ∧ P0 H) 0 0 := by
  refine k_M.of (cc := cX7_isIn) (maxL := 3) (ret := (some .boolean)) (by decide) rfl (Nat.le_of_ble_eq_true rfl) ?_
  intro p e s m args below meth c ls hx hb hr hml hown hts hlocks hnm hK hW hl
  have hL : ∀ q ∈ ([] : List Loc), k_B X ≤ q.base := fun _ h => nomatch h
  have hl : lv_has ls 3 [(0, .int x), (1, .int lo), (2, .int hi)] := hl
  refine lv_iload_n hx hb dX7_isIn_0 rfl (lv_at hl 0 rfl) ?_
  refine lv_iload_n hx hb dX7_isIn_1 rfl (lv_at hl 1 rfl) ?_
  refine lv_icmp_lt (tgt := 14) hx hb dX7_isIn_2 (by decide) (fun c1 => ?_) (fun c1 => ?_)
  ·
    refine lv_iconst (v := 0) hx hb dX7_isIn_14 (by decide) ?_
    have e9 : (s_X7_isIn x lo hi) = 0 := by unfold s_X7_isIn; first | done | (simp only [if_pos c1]; done) | rfl
    exact k_zret hx hb hr (by decide) hlocks (⟨by rw [e9], hW⟩) hL dX7_isIn_15
  ·
    refine lv_iload_n hx hb dX7_isIn_5 rfl (lv_at hl 0 rfl) ?_
    refine lv_iload_n hx hb dX7_isIn_6 rfl (lv_at hl 2 rfl) ?_
    refine lv_icmp_gt (tgt := 14) hx hb dX7_isIn_7 (by decide) (fun c2 => ?_) (fun c2 => ?_)
    ·
      refine lv_iconst (v := 0) hx hb dX7_isIn_14 (by decide) ?_
      have e9 : (s_X7_isIn x lo hi) = 0 := by unfold s_X7_isIn; first | done | (simp only [if_neg c1, if_pos c2]; done) | rfl
      exact k_zret hx hb hr (by decide) hlocks (⟨by rw [e9], hW⟩) hL dX7_isIn_15
    ·
      refine lv_iconst (v := 1) hx hb dX7_isIn_10 (by decide) ?_
      refine lv_goto (tgt := 15) hx hb dX7_isIn_11 (by decide) ?_
      have e9 : (s_X7_isIn x lo hi) = 1 := by unfold s_X7_isIn; first | done | (simp only [if_neg c1, if_neg c2]; done) | rfl
      exact k_zret hx hb hr (by decide) hlocks (⟨by rw [e9], hW⟩) hL dX7_isIn_15
def s_X7_thrown (D : KD) : Int32 := D 14 0 0
set_option maxHeartbeats 4000000 in
set_option maxRecDepth 100000 in
theorem c_X7_thrown (X : kX) (l : Launch) {n : Nat → Nat → Nat} {ad L : Nat → Nat → Nat → Nat} {C : Nat → Nat → Nat → Nat → Int32} {fr : Nat → Option Cell} {g : Nat} (hm : k_mod n g) (D : KD)  : k_M X l yX7_thrown wsX7_thrown ({ frames := 1, cells := 0, slots := 0, locals := 12 }) [.ref (ad g 14 0)] (k_W X n ad L (k_g C g D) fr) (fun v H => v = some (.int (s_X7_thrown D)) ∧ k_W X n ad L (k_g C g D) fr H) 0 0 := by
  refine k_M.of (cc := cX7_thrown) (maxL := 1) (ret := (some .int)) (by decide) rfl (Nat.le_of_ble_eq_true rfl) ?_
  intro p e s m args below meth c ls hx hb hr hml hown hts hlocks hnm hK hW hl
  have hL : ∀ q ∈ ([] : List Loc), k_B X ≤ q.base := fun _ h => nomatch h
  have hl : lv_has ls 1 [(0, .ref (ad g 14 0))] := hl
  have fX7 : ∀ w ∈ u_ws RX7 TX7 34, w.before args s = true := fun w h => hts w ((by decide +kernel : ∀ w ∈ u_ws RX7 TX7 34, w ∈ wsX7_thrown) w h)
  refine lv_aload_n hx hb dX7_thrown_0 rfl (lv_at hl 0 rfl) ?_
  refine k_get (K := RX7) (T := TX7) (N := 34) (v := .int (D 14 0 0)) (w := .int (D 14 0 0)) hx hb fX7 hown hK hW 14 0 hm.o (fun _ => rfl) rfl 0 (by decide) (hts (.fieldLink RX7 93 "CrossdockeryModel" "thrown" "I") (by decide +kernel)) rfl rfl rfl dX7_thrown_1 ?_
  have e9 : (s_X7_thrown D) = D 14 0 0 := by unfold s_X7_thrown; first | done | rfl
  exact k_iret hx hb hr hlocks (⟨by rw [e9], hW⟩) hL dX7_thrown_4
def s_X7_fail (D : KD) (q : Int32) : KD × Int32 := (k_d D 14 0 0 q, 0)
set_option maxHeartbeats 4000000 in
set_option maxRecDepth 100000 in
theorem c_X7_fail (X : kX) (l : Launch) {n : Nat → Nat → Nat} {ad L : Nat → Nat → Nat → Nat} {C : Nat → Nat → Nat → Nat → Int32} {fr : Nat → Option Cell} {g : Nat} (hm : k_mod n g) (D : KD) (q : Int32) : k_M X l yX7_fail wsX7_fail ({ frames := 1, cells := 0, slots := 0, locals := 12 }) [.ref (ad g 14 0), .int q] (k_W X n ad L (k_g C g D) fr) (fun v H => v = some (.int ((s_X7_fail D q).2)) ∧ k_W X n ad L (k_g C g ((s_X7_fail D q).1)) fr H) 0 0 := by
  refine k_M.of (cc := cX7_fail) (maxL := 2) (ret := (some .int)) (by decide) rfl (Nat.le_of_ble_eq_true rfl) ?_
  intro p e s m args below meth c ls hx hb hr hml hown hts hlocks hnm hK hW hl
  have hL : ∀ q ∈ ([] : List Loc), k_B X ≤ q.base := fun _ h => nomatch h
  have hl : lv_has ls 2 [(0, .ref (ad g 14 0)), (1, .int q)] := hl
  have fX7 : ∀ w ∈ u_ws RX7 TX7 34, w.before args s = true := fun w h => hts w ((by decide +kernel : ∀ w ∈ u_ws RX7 TX7 34, w ∈ wsX7_fail) w h)
  refine lv_aload_n hx hb dX7_fail_0 rfl (lv_at hl 0 rfl) ?_
  refine lv_iload_n hx hb dX7_fail_1 rfl (lv_at hl 1 rfl) ?_
  refine k_put (K := RX7) (T := TX7) (N := 34) (x := q) hx hb fX7 tyX7 tyX7_ok nmX7 hown hK hW hL 14 0 hm.o (fun _ => rfl) rfl 0 (by decide) (hts (.fieldLink RX7 93 "CrossdockeryModel" "thrown" "I") (by decide +kernel)) rfl rfl rfl rfl (fun _ => Nat.le_of_ble_eq_true rfl) (fun _ _ => rfl) dX7_fail_2 (fun H locs hW hL => ?_)
  refine lv_iconst (v := 0) hx hb dX7_fail_5 (by decide) ?_
  have e9 : (s_X7_fail D q) = (k_d D 14 0 0 q, 0) := by unfold s_X7_fail; first | done | rfl
  exact k_iret hx hb hr hlocks (⟨by rw [e9], by rw [e9]; exact hW⟩) hL dX7_fail_6
def j_X7_noLorry_20 (D : KD) (l0 : Int32) : Int32 := (if (s_X7_isIn l0 0 ((D 14 0 1) - 1)) = 0 then 1 else 0)
def s_X7_noLorry (D : KD) (l0 : Int32) : KD × Int32 := (if (j_X7_noLorry_20 D l0) = 0 then (k_d D 14 0 0 (j_X7_noLorry_20 D l0), 0) else (k_d D 14 0 0 (j_X7_noLorry_20 D l0), 1))
set_option maxHeartbeats 4000000 in
set_option maxRecDepth 100000 in
theorem c_X7_noLorry (X : kX) (l : Launch) {n : Nat → Nat → Nat} {ad L : Nat → Nat → Nat → Nat} {C : Nat → Nat → Nat → Nat → Int32} {fr : Nat → Option Cell} {g : Nat} (hm : k_mod n g) (D : KD) (l0 : Int32) : k_M X l yX7_noLorry wsX7_noLorry ({ frames := 2, cells := 0, slots := 0, locals := 34 }) [.ref (ad g 14 0), .int l0] (k_W X n ad L (k_g C g D) fr) (fun v H => v = some (.int ((s_X7_noLorry D l0).2)) ∧ k_W X n ad L (k_g C g ((s_X7_noLorry D l0).1)) fr H) 0 0 := by
  refine k_M.of (cc := cX7_noLorry) (maxL := 2) (ret := (some .boolean)) (by decide) rfl (Nat.le_of_ble_eq_true rfl) ?_
  intro p e s m args below meth c ls hx hb hr hml hown hts hlocks hnm hK hW hl
  have hL : ∀ q ∈ ([] : List Loc), k_B X ≤ q.base := fun _ h => nomatch h
  have hl : lv_has ls 2 [(0, .ref (ad g 14 0)), (1, .int l0)] := hl
  have fX7 : ∀ w ∈ u_ws RX7 TX7 34, w.before args s = true := fun w h => hts w ((by decide +kernel : ∀ w ∈ u_ws RX7 TX7 34, w ∈ wsX7_noLorry) w h)
  refine lv_aload_n hx hb dX7_noLorry_0 rfl (lv_at hl 0 rfl) ?_
  refine lv_iload_n hx hb dX7_noLorry_1 rfl (lv_at hl 1 rfl) ?_
  refine lv_iconst (v := 0) hx hb dX7_noLorry_2 (by decide) ?_
  refine lv_aload_n hx hb dX7_noLorry_3 rfl (lv_at hl 0 rfl) ?_
  refine k_get (K := RX7) (T := TX7) (N := 34) (v := .int (D 14 0 1)) (w := .int (D 14 0 1)) hx hb fX7 hown hK hW 14 0 hm.o (fun _ => rfl) rfl 1 (by decide) (hts (.fieldLink RX7 97 "CrossdockeryModel" "lorries" "I") (by decide +kernel)) rfl rfl rfl dX7_noLorry_4 ?_
  refine lv_iconst (v := 1) hx hb dX7_noLorry_7 (by decide) ?_
  refine lv_isub hx hb dX7_noLorry_8 ?_
  refine k_callS (As := [.int l0, .int 0, .int ((D 14 0 1) - 1)]) (rest := [.ref (ad g 14 0)]) ⟨hx, hb, hml, hown, hts⟩ hK (c_X7_isIn X l (k_W X n ad L (k_g C g D) fr) l0 0 ((D 14 0 1) - 1)) (va_cwS 3 hts gX7_noLorry_X7_isIn rfl rfl rfl (by decide +kernel) ⟨Nat.le_of_ble_eq_true rfl, Nat.le_of_ble_eq_true rfl⟩) hW rfl hl.1 rfl (Nat.le_of_ble_eq_true rfl) dX7_noLorry_9 ⟨Nat.le_of_ble_eq_true rfl, Nat.le_of_ble_eq_true rfl⟩ hL (fun v9 H locs hp hL => ?_)
  obtain ⟨rfl, hW⟩ := hp
  refine k_join (pc' := 20) (fun H locs ls st => k_W X n ad L (k_g C g D) fr H ∧ (∀ q ∈ locs, k_B X ≤ q.base) ∧ lv_has ls 2 [(0, .ref (ad g 14 0)), (1, .int l0)] ∧ st = [.int (j_X7_noLorry_20 D l0), .ref (ad g 14 0)]) (fun H locs ls st hJ => ?_) (fun join20 => ?_)
  ·
    obtain ⟨hW, hL, hl, rfl⟩ := hJ
    refine k_put (K := RX7) (T := TX7) (N := 34) (x := (j_X7_noLorry_20 D l0)) hx hb fX7 tyX7 tyX7_ok nmX7 hown hK hW hL 14 0 hm.o (fun _ => rfl) rfl 0 (by decide) (hts (.fieldLink RX7 93 "CrossdockeryModel" "thrown" "I") (by decide +kernel)) rfl rfl rfl rfl (fun _ => Nat.le_of_ble_eq_true rfl) (fun _ _ => rfl) dX7_noLorry_20 (fun H locs hW hL => ?_)
    refine lv_aload_n hx hb dX7_noLorry_23 rfl (lv_at hl 0 rfl) ?_
    refine k_get (K := RX7) (T := TX7) (N := 34) (v := .int ((k_d D 14 0 0 (j_X7_noLorry_20 D l0)) 14 0 0)) (w := .int (j_X7_noLorry_20 D l0)) hx hb fX7 hown hK hW 14 0 hm.o (fun _ => rfl) rfl 0 (by decide) (hts (.fieldLink RX7 93 "CrossdockeryModel" "thrown" "I") (by decide +kernel)) rfl rfl (congrArg Value.int (k_ds)) dX7_noLorry_24 ?_
    refine lv_if_eq (tgt := 34) hx hb dX7_noLorry_27 (by decide) (fun c2 => ?_) (fun c2 => ?_)
    ·
      refine lv_iconst (v := 0) hx hb dX7_noLorry_34 (by decide) ?_
      have e9 : (s_X7_noLorry D l0) = (k_d D 14 0 0 (j_X7_noLorry_20 D l0), 0) := by unfold s_X7_noLorry; first | done | (simp only [if_pos c2]; done) | rfl
      exact k_zret hx hb hr (by decide) hlocks (⟨by rw [e9], by rw [e9]; exact hW⟩) hL dX7_noLorry_35
    ·
      refine lv_iconst (v := 1) hx hb dX7_noLorry_30 (by decide) ?_
      refine lv_goto (tgt := 35) hx hb dX7_noLorry_31 (by decide) ?_
      have e9 : (s_X7_noLorry D l0) = (k_d D 14 0 0 (j_X7_noLorry_20 D l0), 1) := by unfold s_X7_noLorry; first | done | (simp only [if_neg c2]; done) | rfl
      exact k_zret hx hb hr (by decide) hlocks (⟨by rw [e9], by rw [e9]; exact hW⟩) hL dX7_noLorry_35
  ·
    refine lv_if_eq (tgt := 19) hx hb dX7_noLorry_12 (by decide) (fun c1 => ?_) (fun c1 => ?_)
    ·
      refine lv_iconst (v := 1) hx hb dX7_noLorry_19 (by decide) ?_
      have e9 : (j_X7_noLorry_20 D l0) = 1 := by unfold j_X7_noLorry_20; first | done | (simp only [if_pos c1]; done) | rfl
      exact join20 _ _ _ _ (by rw [e9]; exact ⟨hW, hL, lv_sub hl [0, 1] rfl, rfl⟩)
    ·
      refine lv_iconst (v := 0) hx hb dX7_noLorry_15 (by decide) ?_
      refine lv_goto (tgt := 20) hx hb dX7_noLorry_16 (by decide) ?_
      have e9 : (j_X7_noLorry_20 D l0) = 0 := by unfold j_X7_noLorry_20; first | done | (simp only [if_neg c1]; done) | rfl
      exact join20 _ _ _ _ (by rw [e9]; exact ⟨hW, hL, lv_sub hl [0, 1] rfl, rfl⟩)
def j_X7_noDoor_15 (D : KD) (d : Int32) : Int32 := (if (s_X7_isIn d 0 3) = 0 then 1 else 0)
def s_X7_noDoor (D : KD) (d : Int32) : KD × Int32 := (if (j_X7_noDoor_15 D d) = 0 then (k_d D 14 0 0 (j_X7_noDoor_15 D d), 0) else (k_d D 14 0 0 (j_X7_noDoor_15 D d), 1))
set_option maxHeartbeats 4000000 in
set_option maxRecDepth 100000 in
theorem c_X7_noDoor (X : kX) (l : Launch) {n : Nat → Nat → Nat} {ad L : Nat → Nat → Nat → Nat} {C : Nat → Nat → Nat → Nat → Int32} {fr : Nat → Option Cell} {g : Nat} (hm : k_mod n g) (D : KD) (d : Int32) : k_M X l yX7_noDoor wsX7_noDoor ({ frames := 2, cells := 0, slots := 0, locals := 34 }) [.ref (ad g 14 0), .int d] (k_W X n ad L (k_g C g D) fr) (fun v H => v = some (.int ((s_X7_noDoor D d).2)) ∧ k_W X n ad L (k_g C g ((s_X7_noDoor D d).1)) fr H) 0 0 := by
  refine k_M.of (cc := cX7_noDoor) (maxL := 2) (ret := (some .boolean)) (by decide) rfl (Nat.le_of_ble_eq_true rfl) ?_
  intro p e s m args below meth c ls hx hb hr hml hown hts hlocks hnm hK hW hl
  have hL : ∀ q ∈ ([] : List Loc), k_B X ≤ q.base := fun _ h => nomatch h
  have hl : lv_has ls 2 [(0, .ref (ad g 14 0)), (1, .int d)] := hl
  have fX7 : ∀ w ∈ u_ws RX7 TX7 34, w.before args s = true := fun w h => hts w ((by decide +kernel : ∀ w ∈ u_ws RX7 TX7 34, w ∈ wsX7_noDoor) w h)
  refine lv_aload_n hx hb dX7_noDoor_0 rfl (lv_at hl 0 rfl) ?_
  refine lv_iload_n hx hb dX7_noDoor_1 rfl (lv_at hl 1 rfl) ?_
  refine lv_iconst (v := 0) hx hb dX7_noDoor_2 (by decide) ?_
  refine lv_iconst (v := 3) hx hb dX7_noDoor_3 (by decide) ?_
  refine k_callS (As := [.int d, .int 0, .int 3]) (rest := [.ref (ad g 14 0)]) ⟨hx, hb, hml, hown, hts⟩ hK (c_X7_isIn X l (k_W X n ad L (k_g C g D) fr) d 0 3) (va_cwS 3 hts gX7_noDoor_X7_isIn rfl rfl rfl (by decide +kernel) ⟨Nat.le_of_ble_eq_true rfl, Nat.le_of_ble_eq_true rfl⟩) hW rfl hl.1 rfl (Nat.le_of_ble_eq_true rfl) dX7_noDoor_4 ⟨Nat.le_of_ble_eq_true rfl, Nat.le_of_ble_eq_true rfl⟩ hL (fun v9 H locs hp hL => ?_)
  obtain ⟨rfl, hW⟩ := hp
  refine k_join (pc' := 15) (fun H locs ls st => k_W X n ad L (k_g C g D) fr H ∧ (∀ q ∈ locs, k_B X ≤ q.base) ∧ lv_has ls 2 [(0, .ref (ad g 14 0)), (1, .int d)] ∧ st = [.int (j_X7_noDoor_15 D d), .ref (ad g 14 0)]) (fun H locs ls st hJ => ?_) (fun join15 => ?_)
  ·
    obtain ⟨hW, hL, hl, rfl⟩ := hJ
    refine k_put (K := RX7) (T := TX7) (N := 34) (x := (j_X7_noDoor_15 D d)) hx hb fX7 tyX7 tyX7_ok nmX7 hown hK hW hL 14 0 hm.o (fun _ => rfl) rfl 0 (by decide) (hts (.fieldLink RX7 93 "CrossdockeryModel" "thrown" "I") (by decide +kernel)) rfl rfl rfl rfl (fun _ => Nat.le_of_ble_eq_true rfl) (fun _ _ => rfl) dX7_noDoor_15 (fun H locs hW hL => ?_)
    refine lv_aload_n hx hb dX7_noDoor_18 rfl (lv_at hl 0 rfl) ?_
    refine k_get (K := RX7) (T := TX7) (N := 34) (v := .int ((k_d D 14 0 0 (j_X7_noDoor_15 D d)) 14 0 0)) (w := .int (j_X7_noDoor_15 D d)) hx hb fX7 hown hK hW 14 0 hm.o (fun _ => rfl) rfl 0 (by decide) (hts (.fieldLink RX7 93 "CrossdockeryModel" "thrown" "I") (by decide +kernel)) rfl rfl (congrArg Value.int (k_ds)) dX7_noDoor_19 ?_
    refine lv_if_eq (tgt := 29) hx hb dX7_noDoor_22 (by decide) (fun c2 => ?_) (fun c2 => ?_)
    ·
      refine lv_iconst (v := 0) hx hb dX7_noDoor_29 (by decide) ?_
      have e9 : (s_X7_noDoor D d) = (k_d D 14 0 0 (j_X7_noDoor_15 D d), 0) := by unfold s_X7_noDoor; first | done | (simp only [if_pos c2]; done) | rfl
      exact k_zret hx hb hr (by decide) hlocks (⟨by rw [e9], by rw [e9]; exact hW⟩) hL dX7_noDoor_30
    ·
      refine lv_iconst (v := 1) hx hb dX7_noDoor_25 (by decide) ?_
      refine lv_goto (tgt := 30) hx hb dX7_noDoor_26 (by decide) ?_
      have e9 : (s_X7_noDoor D d) = (k_d D 14 0 0 (j_X7_noDoor_15 D d), 1) := by unfold s_X7_noDoor; first | done | (simp only [if_neg c2]; done) | rfl
      exact k_zret hx hb hr (by decide) hlocks (⟨by rw [e9], by rw [e9]; exact hW⟩) hL dX7_noDoor_30
  ·
    refine lv_if_eq (tgt := 14) hx hb dX7_noDoor_7 (by decide) (fun c1 => ?_) (fun c1 => ?_)
    ·
      refine lv_iconst (v := 1) hx hb dX7_noDoor_14 (by decide) ?_
      have e9 : (j_X7_noDoor_15 D d) = 1 := by unfold j_X7_noDoor_15; first | done | (simp only [if_pos c1]; done) | rfl
      exact join15 _ _ _ _ (by rw [e9]; exact ⟨hW, hL, lv_sub hl [0, 1] rfl, rfl⟩)
    ·
      refine lv_iconst (v := 0) hx hb dX7_noDoor_10 (by decide) ?_
      refine lv_goto (tgt := 15) hx hb dX7_noDoor_11 (by decide) ?_
      have e9 : (j_X7_noDoor_15 D d) = 0 := by unfold j_X7_noDoor_15; first | done | (simp only [if_neg c1]; done) | rfl
      exact join15 _ _ _ _ (by rw [e9]; exact ⟨hW, hL, lv_sub hl [0, 1] rfl, rfl⟩)
def j_X7_noTransfer_20 (D : KD) (t : Int32) : Int32 := (if (s_X7_isIn t 0 ((D 14 0 2) - 1)) = 0 then 1 else 0)
def s_X7_noTransfer (D : KD) (t : Int32) : KD × Int32 := (if (j_X7_noTransfer_20 D t) = 0 then (k_d D 14 0 0 (j_X7_noTransfer_20 D t), 0) else (k_d D 14 0 0 (j_X7_noTransfer_20 D t), 1))
set_option maxHeartbeats 4000000 in
set_option maxRecDepth 100000 in
theorem c_X7_noTransfer (X : kX) (l : Launch) {n : Nat → Nat → Nat} {ad L : Nat → Nat → Nat → Nat} {C : Nat → Nat → Nat → Nat → Int32} {fr : Nat → Option Cell} {g : Nat} (hm : k_mod n g) (D : KD) (t : Int32) : k_M X l yX7_noTransfer wsX7_noTransfer ({ frames := 2, cells := 0, slots := 0, locals := 34 }) [.ref (ad g 14 0), .int t] (k_W X n ad L (k_g C g D) fr) (fun v H => v = some (.int ((s_X7_noTransfer D t).2)) ∧ k_W X n ad L (k_g C g ((s_X7_noTransfer D t).1)) fr H) 0 0 := by
  refine k_M.of (cc := cX7_noTransfer) (maxL := 2) (ret := (some .boolean)) (by decide) rfl (Nat.le_of_ble_eq_true rfl) ?_
  intro p e s m args below meth c ls hx hb hr hml hown hts hlocks hnm hK hW hl
  have hL : ∀ q ∈ ([] : List Loc), k_B X ≤ q.base := fun _ h => nomatch h
  have hl : lv_has ls 2 [(0, .ref (ad g 14 0)), (1, .int t)] := hl
  have fX7 : ∀ w ∈ u_ws RX7 TX7 34, w.before args s = true := fun w h => hts w ((by decide +kernel : ∀ w ∈ u_ws RX7 TX7 34, w ∈ wsX7_noTransfer) w h)
  refine lv_aload_n hx hb dX7_noTransfer_0 rfl (lv_at hl 0 rfl) ?_
  refine lv_iload_n hx hb dX7_noTransfer_1 rfl (lv_at hl 1 rfl) ?_
  refine lv_iconst (v := 0) hx hb dX7_noTransfer_2 (by decide) ?_
  refine lv_aload_n hx hb dX7_noTransfer_3 rfl (lv_at hl 0 rfl) ?_
  refine k_get (K := RX7) (T := TX7) (N := 34) (v := .int (D 14 0 2)) (w := .int (D 14 0 2)) hx hb fX7 hown hK hW 14 0 hm.o (fun _ => rfl) rfl 2 (by decide) (hts (.fieldLink RX7 115 "CrossdockeryModel" "transfers" "I") (by decide +kernel)) rfl rfl rfl dX7_noTransfer_4 ?_
  refine lv_iconst (v := 1) hx hb dX7_noTransfer_7 (by decide) ?_
  refine lv_isub hx hb dX7_noTransfer_8 ?_
  refine k_callS (As := [.int t, .int 0, .int ((D 14 0 2) - 1)]) (rest := [.ref (ad g 14 0)]) ⟨hx, hb, hml, hown, hts⟩ hK (c_X7_isIn X l (k_W X n ad L (k_g C g D) fr) t 0 ((D 14 0 2) - 1)) (va_cwS 3 hts gX7_noTransfer_X7_isIn rfl rfl rfl (by decide +kernel) ⟨Nat.le_of_ble_eq_true rfl, Nat.le_of_ble_eq_true rfl⟩) hW rfl hl.1 rfl (Nat.le_of_ble_eq_true rfl) dX7_noTransfer_9 ⟨Nat.le_of_ble_eq_true rfl, Nat.le_of_ble_eq_true rfl⟩ hL (fun v9 H locs hp hL => ?_)
  obtain ⟨rfl, hW⟩ := hp
  refine k_join (pc' := 20) (fun H locs ls st => k_W X n ad L (k_g C g D) fr H ∧ (∀ q ∈ locs, k_B X ≤ q.base) ∧ lv_has ls 2 [(0, .ref (ad g 14 0)), (1, .int t)] ∧ st = [.int (j_X7_noTransfer_20 D t), .ref (ad g 14 0)]) (fun H locs ls st hJ => ?_) (fun join20 => ?_)
  ·
    obtain ⟨hW, hL, hl, rfl⟩ := hJ
    refine k_put (K := RX7) (T := TX7) (N := 34) (x := (j_X7_noTransfer_20 D t)) hx hb fX7 tyX7 tyX7_ok nmX7 hown hK hW hL 14 0 hm.o (fun _ => rfl) rfl 0 (by decide) (hts (.fieldLink RX7 93 "CrossdockeryModel" "thrown" "I") (by decide +kernel)) rfl rfl rfl rfl (fun _ => Nat.le_of_ble_eq_true rfl) (fun _ _ => rfl) dX7_noTransfer_20 (fun H locs hW hL => ?_)
    refine lv_aload_n hx hb dX7_noTransfer_23 rfl (lv_at hl 0 rfl) ?_
    refine k_get (K := RX7) (T := TX7) (N := 34) (v := .int ((k_d D 14 0 0 (j_X7_noTransfer_20 D t)) 14 0 0)) (w := .int (j_X7_noTransfer_20 D t)) hx hb fX7 hown hK hW 14 0 hm.o (fun _ => rfl) rfl 0 (by decide) (hts (.fieldLink RX7 93 "CrossdockeryModel" "thrown" "I") (by decide +kernel)) rfl rfl (congrArg Value.int (k_ds)) dX7_noTransfer_24 ?_
    refine lv_if_eq (tgt := 34) hx hb dX7_noTransfer_27 (by decide) (fun c2 => ?_) (fun c2 => ?_)
    ·
      refine lv_iconst (v := 0) hx hb dX7_noTransfer_34 (by decide) ?_
      have e9 : (s_X7_noTransfer D t) = (k_d D 14 0 0 (j_X7_noTransfer_20 D t), 0) := by unfold s_X7_noTransfer; first | done | (simp only [if_pos c2]; done) | rfl
      exact k_zret hx hb hr (by decide) hlocks (⟨by rw [e9], by rw [e9]; exact hW⟩) hL dX7_noTransfer_35
    ·
      refine lv_iconst (v := 1) hx hb dX7_noTransfer_30 (by decide) ?_
      refine lv_goto (tgt := 35) hx hb dX7_noTransfer_31 (by decide) ?_
      have e9 : (s_X7_noTransfer D t) = (k_d D 14 0 0 (j_X7_noTransfer_20 D t), 1) := by unfold s_X7_noTransfer; first | done | (simp only [if_neg c2]; done) | rfl
      exact k_zret hx hb hr (by decide) hlocks (⟨by rw [e9], by rw [e9]; exact hW⟩) hL dX7_noTransfer_35
  ·
    refine lv_if_eq (tgt := 19) hx hb dX7_noTransfer_12 (by decide) (fun c1 => ?_) (fun c1 => ?_)
    ·
      refine lv_iconst (v := 1) hx hb dX7_noTransfer_19 (by decide) ?_
      have e9 : (j_X7_noTransfer_20 D t) = 1 := by unfold j_X7_noTransfer_20; first | done | (simp only [if_pos c1]; done) | rfl
      exact join20 _ _ _ _ (by rw [e9]; exact ⟨hW, hL, lv_sub hl [0, 1] rfl, rfl⟩)
    ·
      refine lv_iconst (v := 0) hx hb dX7_noTransfer_15 (by decide) ?_
      refine lv_goto (tgt := 20) hx hb dX7_noTransfer_16 (by decide) ?_
      have e9 : (j_X7_noTransfer_20 D t) = 0 := by unfold j_X7_noTransfer_20; first | done | (simp only [if_neg c1]; done) | rfl
      exact join20 _ _ _ _ (by rw [e9]; exact ⟨hW, hL, lv_sub hl [0, 1] rfl, rfl⟩)
def s_X7_isGone (D : KD) (l0 : Int32) : Int32 := (if (D 15 11 (l0.toNatClampNeg)) = 100 then 1 else (if (D 15 11 (l0.toNatClampNeg)) = 108 then 1 else 0))
set_option maxHeartbeats 4000000 in
set_option maxRecDepth 100000 in
theorem c_X7_isGone (X : kX) (l : Launch) {n : Nat → Nat → Nat} {ad L : Nat → Nat → Nat → Nat} {C : Nat → Nat → Nat → Nat → Int32} {fr : Nat → Option Cell} {g : Nat} (hm : k_mod n g) (D : KD) (l0 : Int32) (hv_l0 : vp_in l0 8) : k_M X l yX7_isGone wsX7_isGone ({ frames := 1, cells := 0, slots := 0, locals := 12 }) [.ref (ad g 14 0), .int l0] (k_W X n ad L (k_g C g D) fr) (fun v H => v = some (.int (s_X7_isGone D l0)) ∧ k_W X n ad L (k_g C g D) fr H) 0 0 := by
  refine k_M.of (cc := cX7_isGone) (maxL := 2) (ret := (some .boolean)) (by decide) rfl (Nat.le_of_ble_eq_true rfl) ?_
  intro p e s m args below meth c ls hx hb hr hml hown hts hlocks hnm hK hW hl
  have hL : ∀ q ∈ ([] : List Loc), k_B X ≤ q.base := fun _ h => nomatch h
  have hl : lv_has ls 2 [(0, .ref (ad g 14 0)), (1, .int l0)] := hl
  have fX7 : ∀ w ∈ u_ws RX7 TX7 34, w.before args s = true := fun w h => hts w ((by decide +kernel : ∀ w ∈ u_ws RX7 TX7 34, w ∈ wsX7_isGone) w h)
  refine lv_aload_n hx hb dX7_isGone_0 rfl (lv_at hl 0 rfl) ?_
  refine k_get (K := RX7) (T := TX7) (N := 34) (v := .ref (ad g 15 11)) (w := .ref (ad g 15 11)) hx hb fX7 hown hK hW 14 0 hm.o (fun _ => rfl) rfl 18 (by decide) (hts (.fieldLink RX7 44 "CrossdockeryModel" "state" "[C") (by decide +kernel)) rfl rfl rfl dX7_isGone_1 ?_
  refine lv_iload_n hx hb dX7_isGone_4 rfl (lv_at hl 1 rfl) ?_
  refine k_cald (z := 8) (k := (l0.toNatClampNeg)) hx hb hK hW 15 11 (hm.a (i := 11) (by decide)) (fun _ => rfl) rfl hv_l0 (v := (D 15 11 (l0.toNatClampNeg))) rfl dX7_isGone_5 ?_
  refine lv_bipush (v := 100) hx hb dX7_isGone_6 (by decide) ?_
  refine lv_icmp_eq (tgt := 22) hx hb dX7_isGone_8 (by decide) (fun c1 => ?_) (fun c1 => ?_)
  ·
    refine lv_iconst (v := 1) hx hb dX7_isGone_22 (by decide) ?_
    refine lv_goto (tgt := 27) hx hb dX7_isGone_23 (by decide) ?_
    have e9 : (s_X7_isGone D l0) = 1 := by unfold s_X7_isGone; first | done | (simp only [if_pos c1]; done) | rfl
    exact k_zret hx hb hr (by decide) hlocks (⟨by rw [e9], hW⟩) hL dX7_isGone_27
  ·
    refine lv_aload_n hx hb dX7_isGone_11 rfl (lv_at hl 0 rfl) ?_
    refine k_get (K := RX7) (T := TX7) (N := 34) (v := .ref (ad g 15 11)) (w := .ref (ad g 15 11)) hx hb fX7 hown hK hW 14 0 hm.o (fun _ => rfl) rfl 18 (by decide) (hts (.fieldLink RX7 44 "CrossdockeryModel" "state" "[C") (by decide +kernel)) rfl rfl rfl dX7_isGone_12 ?_
    refine lv_iload_n hx hb dX7_isGone_15 rfl (lv_at hl 1 rfl) ?_
    refine k_cald (z := 8) (k := (l0.toNatClampNeg)) hx hb hK hW 15 11 (hm.a (i := 11) (by decide)) (fun _ => rfl) rfl hv_l0 (v := (D 15 11 (l0.toNatClampNeg))) rfl dX7_isGone_16 ?_
    refine lv_bipush (v := 108) hx hb dX7_isGone_17 (by decide) ?_
    refine lv_icmp_ne (tgt := 26) hx hb dX7_isGone_19 (by decide) (fun c2 => ?_) (fun c2 => ?_)
    ·
      refine lv_iconst (v := 0) hx hb dX7_isGone_26 (by decide) ?_
      have e9 : (s_X7_isGone D l0) = 0 := by unfold s_X7_isGone; first | done | (simp only [if_neg c1, if_neg c2]; done) | rfl
      exact k_zret hx hb hr (by decide) hlocks (⟨by rw [e9], hW⟩) hL dX7_isGone_27
    ·
      refine lv_iconst (v := 1) hx hb dX7_isGone_22 (by decide) ?_
      refine lv_goto (tgt := 27) hx hb dX7_isGone_23 (by decide) ?_
      have e9 : (s_X7_isGone D l0) = 1 := by unfold s_X7_isGone; first | done | (simp only [if_neg c1, if_pos c2]; done) | rfl
      exact k_zret hx hb hr (by decide) hlocks (⟨by rw [e9], hW⟩) hL dX7_isGone_27
def j_X7_missing_36 (D : KD) (nl : Nat) (nt : Nat) (ng : Nat) (l0 : Int32) (k4 : Nat) (z4 : Int32) : Int32 := (if (D 15 0 (l0.toNatClampNeg)) = 0 then (D 15 13 k4) else (D 15 12 k4))
def j_X7_missing_71 (D : KD) (nl : Nat) (nt : Nat) (ng : Nat) (l0 : Int32) (k4 : Nat) (z4 : Int32) : Int32 := (if (D 15 0 (l0.toNatClampNeg)) = 0 then (D 15 17 k4) else (D 15 15 k4))
def f_X7_missing_4 (D : KD) (nl : Nat) (nt : Nat) (ng : Nat) (l0 : Int32) (k4 : Nat) (z4 : Int32) : Int32 := (if (j_X7_missing_36 D nl nt ng l0 k4 z4) = l0 then (z4 + ((D 15 14 k4) - (j_X7_missing_71 D nl nt ng l0 k4 z4))) else z4)
def l_X7_missing_4 (D : KD) (nl : Nat) (nt : Nat) (ng : Nat) (l0 : Int32) : Int32 := it (f_X7_missing_4 D nl nt ng l0) nt 0
def s_X7_missing (D : KD) (nl : Nat) (nt : Nat) (ng : Nat) (l0 : Int32) : Int32 := (l_X7_missing_4 D nl nt ng l0)
set_option maxHeartbeats 4000000 in
set_option maxRecDepth 100000 in
theorem c_X7_missing (X : kX) (l : Launch) {n : Nat → Nat → Nat} {ad L : Nat → Nat → Nat → Nat} {C : Nat → Nat → Nat → Nat → Int32} {fr : Nat → Option Cell} {g : Nat} (hm : k_mod n g) (D : KD) (l0 : Int32) {nl nt ng : Nat} (hwf : mWF D nl nt ng) (hv_l0 : vp_in l0 8) : k_M X l yX7_missing wsX7_missing ({ frames := 1, cells := 0, slots := 0, locals := 12 }) [.ref (ad g 14 0), .int l0] (k_W X n ad L (k_g C g D) fr) (fun v H => v = some (.int (s_X7_missing D nl nt ng l0)) ∧ k_W X n ad L (k_g C g D) fr H) 0 0 := by
  refine k_M.of (cc := cX7_missing) (maxL := 4) (ret := (some .int)) (by decide) rfl (Nat.le_of_ble_eq_true rfl) ?_
  intro p e s m args below meth c ls hx hb hr hml hown hts hlocks hnm hK hW hl
  have hL : ∀ q ∈ ([] : List Loc), k_B X ≤ q.base := fun _ h => nomatch h
  have hl : lv_has ls 4 [(0, .ref (ad g 14 0)), (1, .int l0)] := hl
  have fX7 : ∀ w ∈ u_ws RX7 TX7 34, w.before args s = true := fun w h => hts w ((by decide +kernel : ∀ w ∈ u_ws RX7 TX7 34, w ∈ wsX7_missing) w h)
  have hl8 := hwf.l8
  have ht16 := hwf.t16
  have hg4 := hwf.g4
  refine lv_iconst (v := 0) hx hb dX7_missing_0 (by decide) ?_
  refine lv_istore_n (lv' := [(2, .int 0), (0, .ref (ad g 14 0)), (1, .int l0)]) hx hb dX7_missing_1 rfl hl (by decide) rfl (fun ls hl => ?_)
  refine lv_iconst (v := 0) hx hb dX7_missing_2 (by decide) ?_
  refine lv_istore_n (lv' := [(3, .int 0), (2, .int 0), (0, .ref (ad g 14 0)), (1, .int l0)]) hx hb dX7_missing_3 rfl hl (by decide) rfl (fun ls hl => ?_)
  refine k_for (nt) (fun k4 H locs ls => ∃ z4 : Int32, z4 = it (f_X7_missing_4 D nl nt ng l0) k4 0 ∧ k_W X n ad L (k_g C g D) fr H ∧ (∀ q ∈ locs, k_B X ≤ q.base) ∧ lv_has ls 4 [(3, .int (nI k4)), (2, .int z4), (0, .ref (ad g 14 0)), (1, .int l0)]) 0 ⟨0, rfl, hW, hL, lv_sub hl [0, 1, 2, 3] rfl⟩ (Nat.zero_le _) (fun k4 hk4 ih4 H locs ls hI => ?_)
  obtain ⟨z4, hz4, hW, hL, hl⟩ := hI
  refine lv_iload_n hx hb dX7_missing_4 rfl (lv_at hl 0 rfl) ?_
  refine lv_aload_n hx hb dX7_missing_5 rfl (lv_at hl 2 rfl) ?_
  refine k_get (K := RX7) (T := TX7) (N := 34) (v := .int (D 14 0 2)) (w := .int (D 14 0 2)) hx hb fX7 hown hK hW 14 0 hm.o (fun _ => rfl) rfl 2 (by decide) (hts (.fieldLink RX7 115 "CrossdockeryModel" "transfers" "I") (by decide +kernel)) rfl rfl rfl dX7_missing_6 ?_
  refine lv_icmp_ge (tgt := 80) hx hb dX7_missing_9 (by decide) (fun c1 => ?_) (fun c1 => ?_)
  ·
    rw [hwf.t] at c1
    have hge4 := k_nI_ge (by omega) (by omega) c1
    obtain rfl : nt = k4 := by omega
    replace hz4 : z4 = (l_X7_missing_4 D nl nt ng l0) := hz4
    subst hz4
    have hl : lv_has ls 4 [(3, .int (nI nt)), (2, .int (l_X7_missing_4 D nl nt ng l0)), (0, .ref (ad g 14 0)), (1, .int l0)] := hl
    refine lv_iload_n hx hb dX7_missing_80 rfl (lv_at hl 1 rfl) ?_
    have e9 : (s_X7_missing D nl nt ng l0) = (l_X7_missing_4 D nl nt ng l0) := by unfold s_X7_missing; first | done | rfl
    exact k_iret hx hb hr hlocks (⟨by rw [e9], hW⟩) hL dX7_missing_81
  ·
    have hlt4 : k4 < nt := k_nI_nge (by omega) (by omega) (by rw [hwf.t] at c1; exact c1)
    refine lv_aload_n hx hb dX7_missing_12 rfl (lv_at hl 2 rfl) ?_
    refine k_get (K := RX7) (T := TX7) (N := 34) (v := .ref (ad g 15 0)) (w := .ref (ad g 15 0)) hx hb fX7 hown hK hW 14 0 hm.o (fun _ => rfl) rfl 7 (by decide) (hts (.fieldLink RX7 7 "CrossdockeryModel" "isBringing" "[Z") (by decide +kernel)) rfl rfl rfl dX7_missing_13 ?_
    refine lv_iload_n hx hb dX7_missing_16 rfl (lv_at hl 3 rfl) ?_
    refine k_zald (z := 8) (k := (l0.toNatClampNeg)) hx hb hK hW 15 0 (hm.a (i := 0) (by decide)) (fun _ => rfl) rfl hv_l0 (v := (D 15 0 (l0.toNatClampNeg))) rfl dX7_missing_17 ?_
    refine k_join (pc' := 36) (fun H locs ls st => k_W X n ad L (k_g C g D) fr H ∧ (∀ q ∈ locs, k_B X ≤ q.base) ∧ lv_has ls 4 [(3, .int (nI k4)), (2, .int z4), (0, .ref (ad g 14 0)), (1, .int l0)] ∧ st = [.int (j_X7_missing_36 D nl nt ng l0 k4 z4)]) (fun H locs ls st hJ => ?_) (fun join36 => ?_)
    ·
      obtain ⟨hW, hL, hl, rfl⟩ := hJ
      refine lv_iload_n hx hb dX7_missing_36 rfl (lv_at hl 3 rfl) ?_
      refine lv_icmp_ne (tgt := 74) hx hb dX7_missing_37 (by decide) (fun c3 => ?_) (fun c3 => ?_)
      ·
        refine lv_iinc (v := (nI (k4 + 1))) (k := 0) (lv' := [(3, .int (nI (k4 + 1))), (2, .int z4), (0, .ref (ad g 14 0)), (1, .int l0)]) hx hb dX7_missing_74 hl rfl (nI_1 _) (by decide) rfl (fun ls hl => ?_)
        refine lv_goto (tgt := 4) hx hb dX7_missing_77 (by decide) ?_
        have e9 : (f_X7_missing_4 D nl nt ng l0) k4 z4 = z4 := by unfold f_X7_missing_4; first | done | (simp only [if_neg c3]; done) | rfl
        exact ih4 _ _ _ hlt4 ⟨z4, by rw [it_s, ← hz4, e9], hW, hL, lv_sub hl [0, 1, 2, 3] rfl⟩
      ·
        refine lv_iload_n hx hb dX7_missing_40 rfl (lv_at hl 1 rfl) ?_
        refine lv_aload_n hx hb dX7_missing_41 rfl (lv_at hl 2 rfl) ?_
        refine k_get (K := RX7) (T := TX7) (N := 34) (v := .ref (ad g 15 14)) (w := .ref (ad g 15 14)) hx hb fX7 hown hK hW 14 0 hm.o (fun _ => rfl) rfl 21 (by decide) (hts (.fieldLink RX7 54 "CrossdockeryModel" "units" "[I") (by decide +kernel)) rfl rfl rfl dX7_missing_42 ?_
        refine lv_iload_n hx hb dX7_missing_45 rfl (lv_at hl 0 rfl) ?_
        refine k_iald (z := 16) (k := k4) hx hb hK hW 15 14 (hm.a (i := 14) (by decide)) (fun _ => rfl) (nI_clamp (by omega)) (vp_in_nI (by omega) (by decide)) (v := (D 15 14 k4)) rfl dX7_missing_46 ?_
        refine lv_aload_n hx hb dX7_missing_47 rfl (lv_at hl 2 rfl) ?_
        refine k_get (K := RX7) (T := TX7) (N := 34) (v := .ref (ad g 15 0)) (w := .ref (ad g 15 0)) hx hb fX7 hown hK hW 14 0 hm.o (fun _ => rfl) rfl 7 (by decide) (hts (.fieldLink RX7 7 "CrossdockeryModel" "isBringing" "[Z") (by decide +kernel)) rfl rfl rfl dX7_missing_48 ?_
        refine lv_iload_n hx hb dX7_missing_51 rfl (lv_at hl 3 rfl) ?_
        refine k_zald (z := 8) (k := (l0.toNatClampNeg)) hx hb hK hW 15 0 (hm.a (i := 0) (by decide)) (fun _ => rfl) rfl hv_l0 (v := (D 15 0 (l0.toNatClampNeg))) rfl dX7_missing_52 ?_
        refine k_join (pc' := 71) (fun H locs ls st => k_W X n ad L (k_g C g D) fr H ∧ (∀ q ∈ locs, k_B X ≤ q.base) ∧ lv_has ls 4 [(3, .int (nI k4)), (2, .int z4), (0, .ref (ad g 14 0)), (1, .int l0)] ∧ st = [.int (j_X7_missing_71 D nl nt ng l0 k4 z4), .int (D 15 14 k4), .int z4]) (fun H locs ls st hJ => ?_) (fun join71 => ?_)
        ·
          obtain ⟨hW, hL, hl, rfl⟩ := hJ
          refine lv_isub hx hb dX7_missing_71 ?_
          refine lv_iadd hx hb dX7_missing_72 ?_
          refine lv_istore_n (lv' := [(2, .int (z4 + ((D 15 14 k4) - (j_X7_missing_71 D nl nt ng l0 k4 z4)))), (3, .int (nI k4)), (0, .ref (ad g 14 0)), (1, .int l0)]) hx hb dX7_missing_73 rfl hl (by decide) rfl (fun ls hl => ?_)
          refine lv_iinc (v := (nI (k4 + 1))) (k := 1) (lv' := [(3, .int (nI (k4 + 1))), (2, .int (z4 + ((D 15 14 k4) - (j_X7_missing_71 D nl nt ng l0 k4 z4)))), (0, .ref (ad g 14 0)), (1, .int l0)]) hx hb dX7_missing_74 hl rfl (nI_1 _) (by decide) rfl (fun ls hl => ?_)
          refine lv_goto (tgt := 4) hx hb dX7_missing_77 (by decide) ?_
          have e9 : (f_X7_missing_4 D nl nt ng l0) k4 z4 = (z4 + ((D 15 14 k4) - (j_X7_missing_71 D nl nt ng l0 k4 z4))) := by unfold f_X7_missing_4; first | done | (simp only [if_pos c3]; done) | rfl
          exact ih4 _ _ _ hlt4 ⟨(z4 + ((D 15 14 k4) - (j_X7_missing_71 D nl nt ng l0 k4 z4))), by rw [it_s, ← hz4, e9], hW, hL, lv_sub hl [0, 1, 2, 3] rfl⟩
        ·
          refine lv_if_eq (tgt := 65) hx hb dX7_missing_53 (by decide) (fun c4 => ?_) (fun c4 => ?_)
          ·
            refine lv_aload_n hx hb dX7_missing_65 rfl (lv_at hl 2 rfl) ?_
            refine k_get (K := RX7) (T := TX7) (N := 34) (v := .ref (ad g 15 17)) (w := .ref (ad g 15 17)) hx hb fX7 hown hK hW 14 0 hm.o (fun _ => rfl) rfl 24 (by decide) (hts (.fieldLink RX7 63 "CrossdockeryModel" "loaded" "[I") (by decide +kernel)) rfl rfl rfl dX7_missing_66 ?_
            refine lv_iload_n hx hb dX7_missing_69 rfl (lv_at hl 0 rfl) ?_
            refine k_iald (z := 16) (k := k4) hx hb hK hW 15 17 (hm.a (i := 17) (by decide)) (fun _ => rfl) (nI_clamp (by omega)) (vp_in_nI (by omega) (by decide)) (v := (D 15 17 k4)) rfl dX7_missing_70 ?_
            have e9 : (j_X7_missing_71 D nl nt ng l0 k4 z4) = (D 15 17 k4) := by unfold j_X7_missing_71; first | done | (simp only [if_pos c4]; done) | rfl
            exact join71 _ _ _ _ (by rw [e9]; exact ⟨hW, hL, lv_sub hl [0, 1, 2, 3] rfl, rfl⟩)
          ·
            refine lv_aload_n hx hb dX7_missing_56 rfl (lv_at hl 2 rfl) ?_
            refine k_get (K := RX7) (T := TX7) (N := 34) (v := .ref (ad g 15 15)) (w := .ref (ad g 15 15)) hx hb fX7 hown hK hW 14 0 hm.o (fun _ => rfl) rfl 22 (by decide) (hts (.fieldLink RX7 57 "CrossdockeryModel" "unloaded" "[I") (by decide +kernel)) rfl rfl rfl dX7_missing_57 ?_
            refine lv_iload_n hx hb dX7_missing_60 rfl (lv_at hl 0 rfl) ?_
            refine k_iald (z := 16) (k := k4) hx hb hK hW 15 15 (hm.a (i := 15) (by decide)) (fun _ => rfl) (nI_clamp (by omega)) (vp_in_nI (by omega) (by decide)) (v := (D 15 15 k4)) rfl dX7_missing_61 ?_
            refine lv_goto (tgt := 71) hx hb dX7_missing_62 (by decide) ?_
            have e9 : (j_X7_missing_71 D nl nt ng l0 k4 z4) = (D 15 15 k4) := by unfold j_X7_missing_71; first | done | (simp only [if_neg c4]; done) | rfl
            exact join71 _ _ _ _ (by rw [e9]; exact ⟨hW, hL, lv_sub hl [0, 1, 2, 3] rfl, rfl⟩)
    ·
      refine lv_if_eq (tgt := 30) hx hb dX7_missing_18 (by decide) (fun c2 => ?_) (fun c2 => ?_)
      ·
        refine lv_aload_n hx hb dX7_missing_30 rfl (lv_at hl 2 rfl) ?_
        refine k_get (K := RX7) (T := TX7) (N := 34) (v := .ref (ad g 15 13)) (w := .ref (ad g 15 13)) hx hb fX7 hown hK hW 14 0 hm.o (fun _ => rfl) rfl 20 (by decide) (hts (.fieldLink RX7 51 "CrossdockeryModel" "to" "[I") (by decide +kernel)) rfl rfl rfl dX7_missing_31 ?_
        refine lv_iload_n hx hb dX7_missing_34 rfl (lv_at hl 0 rfl) ?_
        refine k_iald (z := 16) (k := k4) hx hb hK hW 15 13 (hm.a (i := 13) (by decide)) (fun _ => rfl) (nI_clamp (by omega)) (vp_in_nI (by omega) (by decide)) (v := (D 15 13 k4)) rfl dX7_missing_35 ?_
        have e9 : (j_X7_missing_36 D nl nt ng l0 k4 z4) = (D 15 13 k4) := by unfold j_X7_missing_36; first | done | (simp only [if_pos c2]; done) | rfl
        exact join36 _ _ _ _ (by rw [e9]; exact ⟨hW, hL, lv_sub hl [0, 1, 2, 3] rfl, rfl⟩)
      ·
        refine lv_aload_n hx hb dX7_missing_21 rfl (lv_at hl 2 rfl) ?_
        refine k_get (K := RX7) (T := TX7) (N := 34) (v := .ref (ad g 15 12)) (w := .ref (ad g 15 12)) hx hb fX7 hown hK hW 14 0 hm.o (fun _ => rfl) rfl 19 (by decide) (hts (.fieldLink RX7 48 "CrossdockeryModel" "from" "[I") (by decide +kernel)) rfl rfl rfl dX7_missing_22 ?_
        refine lv_iload_n hx hb dX7_missing_25 rfl (lv_at hl 0 rfl) ?_
        refine k_iald (z := 16) (k := k4) hx hb hK hW 15 12 (hm.a (i := 12) (by decide)) (fun _ => rfl) (nI_clamp (by omega)) (vp_in_nI (by omega) (by decide)) (v := (D 15 12 k4)) rfl dX7_missing_26 ?_
        refine lv_goto (tgt := 36) hx hb dX7_missing_27 (by decide) ?_
        have e9 : (j_X7_missing_36 D nl nt ng l0 k4 z4) = (D 15 12 k4) := by unfold j_X7_missing_36; first | done | (simp only [if_neg c2]; done) | rfl
        exact join36 _ _ _ _ (by rw [e9]; exact ⟨hW, hL, lv_sub hl [0, 1, 2, 3] rfl, rfl⟩)
def j_X7_powerOf_57 (D : KD) (nl : Nat) (nt : Nat) (ng : Nat) (d : Int32) (k4 : Nat) (z4 : Int32) : Int32 := (if (D 15 22 k4) = d then (if (s_X7_isIn (D 14 0 4) (D 15 20 k4) ((D 15 21 k4) - 1)) = 0 then 0 else (D 15 19 k4)) else 0)
def f_X7_powerOf_4 (D : KD) (nl : Nat) (nt : Nat) (ng : Nat) (d : Int32) (k4 : Nat) (z4 : Int32) : Int32 := (z4 + (j_X7_powerOf_57 D nl nt ng d k4 z4))
def l_X7_powerOf_4 (D : KD) (nl : Nat) (nt : Nat) (ng : Nat) (d : Int32) : Int32 := it (f_X7_powerOf_4 D nl nt ng d) ng 0
def s_X7_powerOf (D : KD) (nl : Nat) (nt : Nat) (ng : Nat) (d : Int32) : Int32 := (l_X7_powerOf_4 D nl nt ng d)
set_option maxHeartbeats 4000000 in
set_option maxRecDepth 100000 in
theorem c_X7_powerOf (X : kX) (l : Launch) {n : Nat → Nat → Nat} {ad L : Nat → Nat → Nat → Nat} {C : Nat → Nat → Nat → Nat → Int32} {fr : Nat → Option Cell} {g : Nat} (hm : k_mod n g) (D : KD) (d : Int32) {nl nt ng : Nat} (hwf : mWF D nl nt ng) : k_M X l yX7_powerOf wsX7_powerOf ({ frames := 2, cells := 0, slots := 0, locals := 34 }) [.ref (ad g 14 0), .int d] (k_W X n ad L (k_g C g D) fr) (fun v H => v = some (.int (s_X7_powerOf D nl nt ng d)) ∧ k_W X n ad L (k_g C g D) fr H) 0 0 := by
  refine k_M.of (cc := cX7_powerOf) (maxL := 4) (ret := (some .int)) (by decide) rfl (Nat.le_of_ble_eq_true rfl) ?_
  intro p e s m args below meth c ls hx hb hr hml hown hts hlocks hnm hK hW hl
  have hL : ∀ q ∈ ([] : List Loc), k_B X ≤ q.base := fun _ h => nomatch h
  have hl : lv_has ls 4 [(0, .ref (ad g 14 0)), (1, .int d)] := hl
  have fX7 : ∀ w ∈ u_ws RX7 TX7 34, w.before args s = true := fun w h => hts w ((by decide +kernel : ∀ w ∈ u_ws RX7 TX7 34, w ∈ wsX7_powerOf) w h)
  have hl8 := hwf.l8
  have ht16 := hwf.t16
  have hg4 := hwf.g4
  refine lv_iconst (v := 0) hx hb dX7_powerOf_0 (by decide) ?_
  refine lv_istore_n (lv' := [(2, .int 0), (0, .ref (ad g 14 0)), (1, .int d)]) hx hb dX7_powerOf_1 rfl hl (by decide) rfl (fun ls hl => ?_)
  refine lv_iconst (v := 0) hx hb dX7_powerOf_2 (by decide) ?_
  refine lv_istore_n (lv' := [(3, .int 0), (2, .int 0), (0, .ref (ad g 14 0)), (1, .int d)]) hx hb dX7_powerOf_3 rfl hl (by decide) rfl (fun ls hl => ?_)
  refine k_for (ng) (fun k4 H locs ls => ∃ z4 : Int32, z4 = it (f_X7_powerOf_4 D nl nt ng d) k4 0 ∧ k_W X n ad L (k_g C g D) fr H ∧ (∀ q ∈ locs, k_B X ≤ q.base) ∧ lv_has ls 4 [(3, .int (nI k4)), (2, .int z4), (0, .ref (ad g 14 0)), (1, .int d)]) 0 ⟨0, rfl, hW, hL, lv_sub hl [0, 1, 2, 3] rfl⟩ (Nat.zero_le _) (fun k4 hk4 ih4 H locs ls hI => ?_)
  obtain ⟨z4, hz4, hW, hL, hl⟩ := hI
  refine lv_iload_n hx hb dX7_powerOf_4 rfl (lv_at hl 0 rfl) ?_
  refine lv_aload_n hx hb dX7_powerOf_5 rfl (lv_at hl 2 rfl) ?_
  refine k_get (K := RX7) (T := TX7) (N := 34) (v := .int (D 14 0 3)) (w := .int (D 14 0 3)) hx hb fX7 hown hK hW 14 0 hm.o (fun _ => rfl) rfl 3 (by decide) (hts (.fieldLink RX7 131 "CrossdockeryModel" "gangs" "I") (by decide +kernel)) rfl rfl rfl dX7_powerOf_6 ?_
  refine lv_icmp_ge (tgt := 65) hx hb dX7_powerOf_9 (by decide) (fun c1 => ?_) (fun c1 => ?_)
  ·
    rw [hwf.g] at c1
    have hge4 := k_nI_ge (by omega) (by omega) c1
    obtain rfl : ng = k4 := by omega
    replace hz4 : z4 = (l_X7_powerOf_4 D nl nt ng d) := hz4
    subst hz4
    have hl : lv_has ls 4 [(3, .int (nI ng)), (2, .int (l_X7_powerOf_4 D nl nt ng d)), (0, .ref (ad g 14 0)), (1, .int d)] := hl
    refine lv_iload_n hx hb dX7_powerOf_65 rfl (lv_at hl 1 rfl) ?_
    have e9 : (s_X7_powerOf D nl nt ng d) = (l_X7_powerOf_4 D nl nt ng d) := by unfold s_X7_powerOf; first | done | rfl
    exact k_iret hx hb hr hlocks (⟨by rw [e9], hW⟩) hL dX7_powerOf_66
  ·
    have hlt4 : k4 < ng := k_nI_nge (by omega) (by omega) (by rw [hwf.g] at c1; exact c1)
    refine lv_iload_n hx hb dX7_powerOf_12 rfl (lv_at hl 1 rfl) ?_
    refine lv_aload_n hx hb dX7_powerOf_13 rfl (lv_at hl 2 rfl) ?_
    refine k_get (K := RX7) (T := TX7) (N := 34) (v := .ref (ad g 15 22)) (w := .ref (ad g 15 22)) hx hb fX7 hown hK hW 14 0 hm.o (fun _ => rfl) rfl 29 (by decide) (hts (.fieldLink RX7 78 "CrossdockeryModel" "at" "[I") (by decide +kernel)) rfl rfl rfl dX7_powerOf_14 ?_
    refine lv_iload_n hx hb dX7_powerOf_17 rfl (lv_at hl 0 rfl) ?_
    refine k_iald (z := 4) (k := k4) hx hb hK hW 15 22 (hm.a (i := 22) (by decide)) (fun _ => rfl) (nI_clamp (by omega)) (vp_in_nI (by omega) (by decide)) (v := (D 15 22 k4)) rfl dX7_powerOf_18 ?_
    refine lv_iload_n hx hb dX7_powerOf_19 rfl (lv_at hl 3 rfl) ?_
    refine k_join (pc' := 57) (fun H locs ls st => k_W X n ad L (k_g C g D) fr H ∧ (∀ q ∈ locs, k_B X ≤ q.base) ∧ lv_has ls 4 [(3, .int (nI k4)), (2, .int z4), (0, .ref (ad g 14 0)), (1, .int d)] ∧ st = [.int (j_X7_powerOf_57 D nl nt ng d k4 z4), .int z4]) (fun H locs ls st hJ => ?_) (fun join57 => ?_)
    ·
      obtain ⟨hW, hL, hl, rfl⟩ := hJ
      refine lv_iadd hx hb dX7_powerOf_57 ?_
      refine lv_istore_n (lv' := [(2, .int (z4 + (j_X7_powerOf_57 D nl nt ng d k4 z4))), (3, .int (nI k4)), (0, .ref (ad g 14 0)), (1, .int d)]) hx hb dX7_powerOf_58 rfl hl (by decide) rfl (fun ls hl => ?_)
      refine lv_iinc (v := (nI (k4 + 1))) (k := 1) (lv' := [(3, .int (nI (k4 + 1))), (2, .int (z4 + (j_X7_powerOf_57 D nl nt ng d k4 z4))), (0, .ref (ad g 14 0)), (1, .int d)]) hx hb dX7_powerOf_59 hl rfl (nI_1 _) (by decide) rfl (fun ls hl => ?_)
      refine lv_goto (tgt := 4) hx hb dX7_powerOf_62 (by decide) ?_
      have e9 : (f_X7_powerOf_4 D nl nt ng d) k4 z4 = (z4 + (j_X7_powerOf_57 D nl nt ng d k4 z4)) := by unfold f_X7_powerOf_4; first | done | rfl
      exact ih4 _ _ _ hlt4 ⟨(z4 + (j_X7_powerOf_57 D nl nt ng d k4 z4)), by rw [it_s, ← hz4, e9], hW, hL, lv_sub hl [0, 1, 2, 3] rfl⟩
    ·
      refine lv_icmp_ne (tgt := 56) hx hb dX7_powerOf_20 (by decide) (fun c2 => ?_) (fun c2 => ?_)
      ·
        refine lv_iconst (v := 0) hx hb dX7_powerOf_56 (by decide) ?_
        have e9 : (j_X7_powerOf_57 D nl nt ng d k4 z4) = 0 := by unfold j_X7_powerOf_57; first | done | (simp only [if_neg c2]; done) | rfl
        exact join57 _ _ _ _ (by rw [e9]; exact ⟨hW, hL, lv_sub hl [0, 1, 2, 3] rfl, rfl⟩)
      ·
        refine lv_aload_n hx hb dX7_powerOf_23 rfl (lv_at hl 2 rfl) ?_
        refine k_get (K := RX7) (T := TX7) (N := 34) (v := .int (D 14 0 4)) (w := .int (D 14 0 4)) hx hb fX7 hown hK hW 14 0 hm.o (fun _ => rfl) rfl 4 (by decide) (hts (.fieldLink RX7 121 "CrossdockeryModel" "now" "I") (by decide +kernel)) rfl rfl rfl dX7_powerOf_24 ?_
        refine lv_aload_n hx hb dX7_powerOf_27 rfl (lv_at hl 2 rfl) ?_
        refine k_get (K := RX7) (T := TX7) (N := 34) (v := .ref (ad g 15 20)) (w := .ref (ad g 15 20)) hx hb fX7 hown hK hW 14 0 hm.o (fun _ => rfl) rfl 27 (by decide) (hts (.fieldLink RX7 72 "CrossdockeryModel" "first" "[I") (by decide +kernel)) rfl rfl rfl dX7_powerOf_28 ?_
        refine lv_iload_n hx hb dX7_powerOf_31 rfl (lv_at hl 0 rfl) ?_
        refine k_iald (z := 4) (k := k4) hx hb hK hW 15 20 (hm.a (i := 20) (by decide)) (fun _ => rfl) (nI_clamp (by omega)) (vp_in_nI (by omega) (by decide)) (v := (D 15 20 k4)) rfl dX7_powerOf_32 ?_
        refine lv_aload_n hx hb dX7_powerOf_33 rfl (lv_at hl 2 rfl) ?_
        refine k_get (K := RX7) (T := TX7) (N := 34) (v := .ref (ad g 15 21)) (w := .ref (ad g 15 21)) hx hb fX7 hown hK hW 14 0 hm.o (fun _ => rfl) rfl 28 (by decide) (hts (.fieldLink RX7 75 "CrossdockeryModel" "end" "[I") (by decide +kernel)) rfl rfl rfl dX7_powerOf_34 ?_
        refine lv_iload_n hx hb dX7_powerOf_37 rfl (lv_at hl 0 rfl) ?_
        refine k_iald (z := 4) (k := k4) hx hb hK hW 15 21 (hm.a (i := 21) (by decide)) (fun _ => rfl) (nI_clamp (by omega)) (vp_in_nI (by omega) (by decide)) (v := (D 15 21 k4)) rfl dX7_powerOf_38 ?_
        refine lv_iconst (v := 1) hx hb dX7_powerOf_39 (by decide) ?_
        refine lv_isub hx hb dX7_powerOf_40 ?_
        refine k_callS (As := [.int (D 14 0 4), .int (D 15 20 k4), .int ((D 15 21 k4) - 1)]) (rest := [.int z4]) ⟨hx, hb, hml, hown, hts⟩ hK (c_X7_isIn X l (k_W X n ad L (k_g C g D) fr) (D 14 0 4) (D 15 20 k4) ((D 15 21 k4) - 1)) (va_cwS 3 hts gX7_powerOf_X7_isIn rfl rfl rfl (by decide +kernel) ⟨Nat.le_of_ble_eq_true rfl, Nat.le_of_ble_eq_true rfl⟩) hW rfl hl.1 rfl (Nat.le_of_ble_eq_true rfl) dX7_powerOf_41 ⟨Nat.le_of_ble_eq_true rfl, Nat.le_of_ble_eq_true rfl⟩ hL (fun v9 H locs hp hL => ?_)
        obtain ⟨rfl, hW⟩ := hp
        refine lv_if_eq (tgt := 56) hx hb dX7_powerOf_44 (by decide) (fun c3 => ?_) (fun c3 => ?_)
        ·
          refine lv_iconst (v := 0) hx hb dX7_powerOf_56 (by decide) ?_
          have e9 : (j_X7_powerOf_57 D nl nt ng d k4 z4) = 0 := by unfold j_X7_powerOf_57; first | done | (simp only [if_pos c2, if_pos c3]; done) | rfl
          exact join57 _ _ _ _ (by rw [e9]; exact ⟨hW, hL, lv_sub hl [0, 1, 2, 3] rfl, rfl⟩)
        ·
          refine lv_aload_n hx hb dX7_powerOf_47 rfl (lv_at hl 2 rfl) ?_
          refine k_get (K := RX7) (T := TX7) (N := 34) (v := .ref (ad g 15 19)) (w := .ref (ad g 15 19)) hx hb fX7 hown hK hW 14 0 hm.o (fun _ => rfl) rfl 26 (by decide) (hts (.fieldLink RX7 69 "CrossdockeryModel" "speed" "[I") (by decide +kernel)) rfl rfl rfl dX7_powerOf_48 ?_
          refine lv_iload_n hx hb dX7_powerOf_51 rfl (lv_at hl 0 rfl) ?_
          refine k_iald (z := 4) (k := k4) hx hb hK hW 15 19 (hm.a (i := 19) (by decide)) (fun _ => rfl) (nI_clamp (by omega)) (vp_in_nI (by omega) (by decide)) (v := (D 15 19 k4)) rfl dX7_powerOf_52 ?_
          refine lv_goto (tgt := 57) hx hb dX7_powerOf_53 (by decide) ?_
          have e9 : (j_X7_powerOf_57 D nl nt ng d k4 z4) = (D 15 19 k4) := by unfold j_X7_powerOf_57; first | done | (simp only [if_pos c2, if_neg c3]; done) | rfl
          exact join57 _ _ _ _ (by rw [e9]; exact ⟨hW, hL, lv_sub hl [0, 1, 2, 3] rfl, rfl⟩)
def s_X7_isBefore (D : KD) (a : Int32) (b : Int32) : Int32 := (if (D 15 5 (a.toNatClampNeg)) < (D 15 5 (b.toNatClampNeg)) then 1 else (if (D 15 5 (a.toNatClampNeg)) = (D 15 5 (b.toNatClampNeg)) then (if a ≥ b then 0 else 1) else 0))
set_option maxHeartbeats 4000000 in
set_option maxRecDepth 100000 in
theorem c_X7_isBefore (X : kX) (l : Launch) {n : Nat → Nat → Nat} {ad L : Nat → Nat → Nat → Nat} {C : Nat → Nat → Nat → Nat → Int32} {fr : Nat → Option Cell} {g : Nat} (hm : k_mod n g) (D : KD) (a : Int32) (b : Int32) (hv_a : vp_in a 8) (hv_b : vp_in b 8) : k_M X l yX7_isBefore wsX7_isBefore ({ frames := 1, cells := 0, slots := 0, locals := 12 }) [.ref (ad g 14 0), .int a, .int b] (k_W X n ad L (k_g C g D) fr) (fun v H => v = some (.int (s_X7_isBefore D a b)) ∧ k_W X n ad L (k_g C g D) fr H) 0 0 := by
  refine k_M.of (cc := cX7_isBefore) (maxL := 3) (ret := (some .boolean)) (by decide) rfl (Nat.le_of_ble_eq_true rfl) ?_
  intro p e s m args below meth c ls hx hb hr hml hown hts hlocks hnm hK hW hl
  have hL : ∀ q ∈ ([] : List Loc), k_B X ≤ q.base := fun _ h => nomatch h
  have hl : lv_has ls 3 [(0, .ref (ad g 14 0)), (1, .int a), (2, .int b)] := hl
  have fX7 : ∀ w ∈ u_ws RX7 TX7 34, w.before args s = true := fun w h => hts w ((by decide +kernel : ∀ w ∈ u_ws RX7 TX7 34, w ∈ wsX7_isBefore) w h)
  refine lv_aload_n hx hb dX7_isBefore_0 rfl (lv_at hl 0 rfl) ?_
  refine k_get (K := RX7) (T := TX7) (N := 34) (v := .ref (ad g 15 5)) (w := .ref (ad g 15 5)) hx hb fX7 hown hK hW 14 0 hm.o (fun _ => rfl) rfl 12 (by decide) (hts (.fieldLink RX7 26 "CrossdockeryModel" "arrived" "[I") (by decide +kernel)) rfl rfl rfl dX7_isBefore_1 ?_
  refine lv_iload_n hx hb dX7_isBefore_4 rfl (lv_at hl 1 rfl) ?_
  refine k_iald (z := 8) (k := (a.toNatClampNeg)) hx hb hK hW 15 5 (hm.a (i := 5) (by decide)) (fun _ => rfl) rfl hv_a (v := (D 15 5 (a.toNatClampNeg))) rfl dX7_isBefore_5 ?_
  refine lv_aload_n hx hb dX7_isBefore_6 rfl (lv_at hl 0 rfl) ?_
  refine k_get (K := RX7) (T := TX7) (N := 34) (v := .ref (ad g 15 5)) (w := .ref (ad g 15 5)) hx hb fX7 hown hK hW 14 0 hm.o (fun _ => rfl) rfl 12 (by decide) (hts (.fieldLink RX7 26 "CrossdockeryModel" "arrived" "[I") (by decide +kernel)) rfl rfl rfl dX7_isBefore_7 ?_
  refine lv_iload_n hx hb dX7_isBefore_10 rfl (lv_at hl 2 rfl) ?_
  refine k_iald (z := 8) (k := (b.toNatClampNeg)) hx hb hK hW 15 5 (hm.a (i := 5) (by decide)) (fun _ => rfl) rfl hv_b (v := (D 15 5 (b.toNatClampNeg))) rfl dX7_isBefore_11 ?_
  refine lv_icmp_lt (tgt := 35) hx hb dX7_isBefore_12 (by decide) (fun c1 => ?_) (fun c1 => ?_)
  ·
    refine lv_iconst (v := 1) hx hb dX7_isBefore_35 (by decide) ?_
    refine lv_goto (tgt := 40) hx hb dX7_isBefore_36 (by decide) ?_
    have e9 : (s_X7_isBefore D a b) = 1 := by unfold s_X7_isBefore; first | done | (simp only [if_pos c1]; done) | rfl
    exact k_zret hx hb hr (by decide) hlocks (⟨by rw [e9], hW⟩) hL dX7_isBefore_40
  ·
    refine lv_aload_n hx hb dX7_isBefore_15 rfl (lv_at hl 0 rfl) ?_
    refine k_get (K := RX7) (T := TX7) (N := 34) (v := .ref (ad g 15 5)) (w := .ref (ad g 15 5)) hx hb fX7 hown hK hW 14 0 hm.o (fun _ => rfl) rfl 12 (by decide) (hts (.fieldLink RX7 26 "CrossdockeryModel" "arrived" "[I") (by decide +kernel)) rfl rfl rfl dX7_isBefore_16 ?_
    refine lv_iload_n hx hb dX7_isBefore_19 rfl (lv_at hl 1 rfl) ?_
    refine k_iald (z := 8) (k := (a.toNatClampNeg)) hx hb hK hW 15 5 (hm.a (i := 5) (by decide)) (fun _ => rfl) rfl hv_a (v := (D 15 5 (a.toNatClampNeg))) rfl dX7_isBefore_20 ?_
    refine lv_aload_n hx hb dX7_isBefore_21 rfl (lv_at hl 0 rfl) ?_
    refine k_get (K := RX7) (T := TX7) (N := 34) (v := .ref (ad g 15 5)) (w := .ref (ad g 15 5)) hx hb fX7 hown hK hW 14 0 hm.o (fun _ => rfl) rfl 12 (by decide) (hts (.fieldLink RX7 26 "CrossdockeryModel" "arrived" "[I") (by decide +kernel)) rfl rfl rfl dX7_isBefore_22 ?_
    refine lv_iload_n hx hb dX7_isBefore_25 rfl (lv_at hl 2 rfl) ?_
    refine k_iald (z := 8) (k := (b.toNatClampNeg)) hx hb hK hW 15 5 (hm.a (i := 5) (by decide)) (fun _ => rfl) rfl hv_b (v := (D 15 5 (b.toNatClampNeg))) rfl dX7_isBefore_26 ?_
    refine lv_icmp_ne (tgt := 39) hx hb dX7_isBefore_27 (by decide) (fun c2 => ?_) (fun c2 => ?_)
    ·
      refine lv_iconst (v := 0) hx hb dX7_isBefore_39 (by decide) ?_
      have e9 : (s_X7_isBefore D a b) = 0 := by unfold s_X7_isBefore; first | done | (simp only [if_neg c1, if_neg c2]; done) | rfl
      exact k_zret hx hb hr (by decide) hlocks (⟨by rw [e9], hW⟩) hL dX7_isBefore_40
    ·
      refine lv_iload_n hx hb dX7_isBefore_30 rfl (lv_at hl 1 rfl) ?_
      refine lv_iload_n hx hb dX7_isBefore_31 rfl (lv_at hl 2 rfl) ?_
      refine lv_icmp_ge (tgt := 39) hx hb dX7_isBefore_32 (by decide) (fun c3 => ?_) (fun c3 => ?_)
      ·
        refine lv_iconst (v := 0) hx hb dX7_isBefore_39 (by decide) ?_
        have e9 : (s_X7_isBefore D a b) = 0 := by unfold s_X7_isBefore; first | done | (simp only [if_neg c1, if_pos c2, if_pos c3]; done) | rfl
        exact k_zret hx hb hr (by decide) hlocks (⟨by rw [e9], hW⟩) hL dX7_isBefore_40
      ·
        refine lv_iconst (v := 1) hx hb dX7_isBefore_35 (by decide) ?_
        refine lv_goto (tgt := 40) hx hb dX7_isBefore_36 (by decide) ?_
        have e9 : (s_X7_isBefore D a b) = 1 := by unfold s_X7_isBefore; first | done | (simp only [if_neg c1, if_pos c2, if_neg c3]; done) | rfl
        exact k_zret hx hb hr (by decide) hlocks (⟨by rw [e9], hW⟩) hL dX7_isBefore_40
def j_X7_queued_95 (D : KD) (nl : Nat) (nt : Nat) (ng : Nat) (d : Int32) (pl : Int32) (k2 : Nat) (k40 : Nat) (z40 : Int32) : Int32 := (if (D 15 11 k40) = 121 then (if (D 15 4 k40) = d then (if (nI k40) = (nI k2) then 0 else (if (s_X7_isBefore D (nI k40) (nI k2)) = 0 then 0 else 1)) else 0) else 0)
def f_X7_queued_40 (D : KD) (nl : Nat) (nt : Nat) (ng : Nat) (d : Int32) (pl : Int32) (k2 : Nat) (k40 : Nat) (z40 : Int32) : Int32 := (z40 + (j_X7_queued_95 D nl nt ng d pl k2 k40 z40))
def l_X7_queued_40 (D : KD) (nl : Nat) (nt : Nat) (ng : Nat) (d : Int32) (pl : Int32) (k2 : Nat) : Int32 := it (f_X7_queued_40 D nl nt ng d pl k2) nl 0
def r_X7_queued_2 (D : KD) (nl : Nat) (nt : Nat) (ng : Nat) (d : Int32) (pl : Int32) : Nat → Nat → Int32
  | 0, k2 => (-1)
  | f2 + 1, k2 => (if (D 15 11 k2) = 121 then (if (D 15 4 k2) = d then (if (l_X7_queued_40 D nl nt ng d pl k2) = pl then nI k2 else r_X7_queued_2 D nl nt ng d pl f2 (k2 + 1) ) else r_X7_queued_2 D nl nt ng d pl f2 (k2 + 1) ) else r_X7_queued_2 D nl nt ng d pl f2 (k2 + 1) )
theorem r_X7_queued_2_0 (D : KD) (nl : Nat) (nt : Nat) (ng : Nat) (d : Int32) (pl : Int32) (k2 : Nat)  : r_X7_queued_2 D nl nt ng d pl 0 k2  = (-1) := rfl
theorem r_X7_queued_2_s (D : KD) (nl : Nat) (nt : Nat) (ng : Nat) (d : Int32) (pl : Int32) (f2 k2 : Nat)  : r_X7_queued_2 D nl nt ng d pl (f2 + 1) k2  = (if (D 15 11 k2) = 121 then (if (D 15 4 k2) = d then (if (l_X7_queued_40 D nl nt ng d pl k2) = pl then nI k2 else r_X7_queued_2 D nl nt ng d pl f2 (k2 + 1) ) else r_X7_queued_2 D nl nt ng d pl f2 (k2 + 1) ) else r_X7_queued_2 D nl nt ng d pl f2 (k2 + 1) ) := rfl
def s_X7_queued (D : KD) (nl : Nat) (nt : Nat) (ng : Nat) (d : Int32) (pl : Int32) : Int32 := r_X7_queued_2 D nl nt ng d pl (nl - 0) 0 
set_option maxHeartbeats 4000000 in
set_option maxRecDepth 100000 in
theorem c_X7_queued (X : kX) (l : Launch) {n : Nat → Nat → Nat} {ad L : Nat → Nat → Nat → Nat} {C : Nat → Nat → Nat → Nat → Int32} {fr : Nat → Option Cell} {g : Nat} (hm : k_mod n g) (D : KD) (d : Int32) (pl : Int32) {nl nt ng : Nat} (hwf : mWF D nl nt ng) : k_M X l yX7_queued wsX7_queued ({ frames := 2, cells := 0, slots := 0, locals := 34 }) [.ref (ad g 14 0), .int d, .int pl] (k_W X n ad L (k_g C g D) fr) (fun v H => v = some (.int (s_X7_queued D nl nt ng d pl)) ∧ k_W X n ad L (k_g C g D) fr H) 0 0 := by
  refine k_M.of (cc := cX7_queued) (maxL := 6) (ret := (some .int)) (by decide) rfl (Nat.le_of_ble_eq_true rfl) ?_
  intro p e s m args below meth c ls hx hb hr hml hown hts hlocks hnm hK hW hl
  have hL : ∀ q ∈ ([] : List Loc), k_B X ≤ q.base := fun _ h => nomatch h
  have hl : lv_has ls 6 [(0, .ref (ad g 14 0)), (1, .int d), (2, .int pl)] := hl
  have fX7 : ∀ w ∈ u_ws RX7 TX7 34, w.before args s = true := fun w h => hts w ((by decide +kernel : ∀ w ∈ u_ws RX7 TX7 34, w ∈ wsX7_queued) w h)
  have hl8 := hwf.l8
  have ht16 := hwf.t16
  have hg4 := hwf.g4
  refine lv_iconst (v := 0) hx hb dX7_queued_0 (by decide) ?_
  refine lv_istore_n (lv' := [(3, .int 0), (0, .ref (ad g 14 0)), (1, .int d), (2, .int pl)]) hx hb dX7_queued_1 rfl hl (by decide) rfl (fun ls hl => ?_)
  refine k_for (nl) (fun k2 H locs ls => ∃ z2 : Unit, (s_X7_queued D nl nt ng d pl) = (r_X7_queued_2 D nl nt ng d pl) (nl - k2) k2  ∧ k_W X n ad L (k_g C g D) fr H ∧ (∀ q ∈ locs, k_B X ≤ q.base) ∧ lv_has ls 6 [(3, .int (nI k2)), (0, .ref (ad g 14 0)), (1, .int d), (2, .int pl)]) 0 ⟨(), by unfold s_X7_queued; first | done | rfl, hW, hL, lv_sub hl [0, 1, 2, 3] rfl⟩ (Nat.zero_le _) (fun k2 hk2 ih2 H locs ls hI => ?_)
  obtain ⟨z2, hz2, hW, hL, hl⟩ := hI
  refine lv_iload_n hx hb dX7_queued_2 rfl (lv_at hl 0 rfl) ?_
  refine lv_aload_n hx hb dX7_queued_3 rfl (lv_at hl 1 rfl) ?_
  refine k_get (K := RX7) (T := TX7) (N := 34) (v := .int (D 14 0 1)) (w := .int (D 14 0 1)) hx hb fX7 hown hK hW 14 0 hm.o (fun _ => rfl) rfl 1 (by decide) (hts (.fieldLink RX7 97 "CrossdockeryModel" "lorries" "I") (by decide +kernel)) rfl rfl rfl dX7_queued_4 ?_
  refine lv_icmp_ge (tgt := 118) hx hb dX7_queued_7 (by decide) (fun c1 => ?_) (fun c1 => ?_)
  ·
    rw [hwf.l] at c1
    have hge2 := k_nI_ge (by omega) (by omega) c1
    obtain rfl : nl = k2 := by omega
    rw [show nl - nl = 0 by omega] at hz2
    refine lv_iconst (v := (-1)) hx hb dX7_queued_118 (by decide) ?_
    have e9 : (s_X7_queued D nl nt ng d pl) = (-1) := by rw [hz2, r_X7_queued_2_0]; first | done | rfl
    exact k_iret hx hb hr hlocks (⟨by rw [e9], hW⟩) hL dX7_queued_119
  ·
    have hlt2 : k2 < nl := k_nI_nge (by omega) (by omega) (by rw [hwf.l] at c1; exact c1)
    obtain ⟨f2, hf2⟩ : ∃ f, nl - k2 = f + 1 := ⟨nl - k2 - 1, by omega⟩
    refine lv_aload_n hx hb dX7_queued_10 rfl (lv_at hl 1 rfl) ?_
    refine k_get (K := RX7) (T := TX7) (N := 34) (v := .ref (ad g 15 11)) (w := .ref (ad g 15 11)) hx hb fX7 hown hK hW 14 0 hm.o (fun _ => rfl) rfl 18 (by decide) (hts (.fieldLink RX7 44 "CrossdockeryModel" "state" "[C") (by decide +kernel)) rfl rfl rfl dX7_queued_11 ?_
    refine lv_iload_n hx hb dX7_queued_14 rfl (lv_at hl 0 rfl) ?_
    refine k_cald (z := 8) (k := k2) hx hb hK hW 15 11 (hm.a (i := 11) (by decide)) (fun _ => rfl) (nI_clamp (by omega)) (vp_in_nI (by omega) (by decide)) (v := (D 15 11 k2)) rfl dX7_queued_15 ?_
    refine lv_bipush (v := 121) hx hb dX7_queued_16 (by decide) ?_
    refine lv_icmp_ne (tgt := 112) hx hb dX7_queued_18 (by decide) (fun c2 => ?_) (fun c2 => ?_)
    ·
      refine lv_iinc (v := (nI (k2 + 1))) (k := 0) (lv' := [(3, .int (nI (k2 + 1))), (0, .ref (ad g 14 0)), (1, .int d), (2, .int pl)]) hx hb dX7_queued_112 hl rfl (nI_1 _) (by decide) rfl (fun ls hl => ?_)
      refine lv_goto (tgt := 2) hx hb dX7_queued_115 (by decide) ?_
      have e9 : (s_X7_queued D nl nt ng d pl) = (r_X7_queued_2 D nl nt ng d pl) f2 (k2 + 1)  := by rw [hz2, hf2, r_X7_queued_2_s]; first | done | (simp only [if_neg c2]; done) | rfl
      exact ih2 _ _ _ hlt2 ⟨(), by rw [e9, show nl - (k2 + 1) = f2 by omega], hW, hL, lv_sub hl [0, 1, 2, 3] rfl⟩
    ·
      refine lv_aload_n hx hb dX7_queued_21 rfl (lv_at hl 1 rfl) ?_
      refine k_get (K := RX7) (T := TX7) (N := 34) (v := .ref (ad g 15 4)) (w := .ref (ad g 15 4)) hx hb fX7 hown hK hW 14 0 hm.o (fun _ => rfl) rfl 11 (by decide) (hts (.fieldLink RX7 23 "CrossdockeryModel" "door" "[I") (by decide +kernel)) rfl rfl rfl dX7_queued_22 ?_
      refine lv_iload_n hx hb dX7_queued_25 rfl (lv_at hl 0 rfl) ?_
      refine k_iald (z := 8) (k := k2) hx hb hK hW 15 4 (hm.a (i := 4) (by decide)) (fun _ => rfl) (nI_clamp (by omega)) (vp_in_nI (by omega) (by decide)) (v := (D 15 4 k2)) rfl dX7_queued_26 ?_
      refine lv_iload_n hx hb dX7_queued_27 rfl (lv_at hl 2 rfl) ?_
      refine lv_icmp_eq (tgt := 34) hx hb dX7_queued_28 (by decide) (fun c3 => ?_) (fun c3 => ?_)
      ·
        refine lv_iconst (v := 0) hx hb dX7_queued_34 (by decide) ?_
        refine lv_istore (lv' := [(4, .int 0), (3, .int (nI k2)), (0, .ref (ad g 14 0)), (1, .int d), (2, .int pl)]) hx hb dX7_queued_35 hl (by decide) rfl (fun ls hl => ?_)
        refine lv_iconst (v := 0) hx hb dX7_queued_37 (by decide) ?_
        refine lv_istore (lv' := [(5, .int 0), (4, .int 0), (3, .int (nI k2)), (0, .ref (ad g 14 0)), (1, .int d), (2, .int pl)]) hx hb dX7_queued_38 hl (by decide) rfl (fun ls hl => ?_)
        refine k_for (nl) (fun k40 H locs ls => ∃ z40 : Int32, z40 = it (f_X7_queued_40 D nl nt ng d pl k2) k40 0 ∧ k_W X n ad L (k_g C g D) fr H ∧ (∀ q ∈ locs, k_B X ≤ q.base) ∧ lv_has ls 6 [(5, .int (nI k40)), (4, .int z40), (3, .int (nI k2)), (0, .ref (ad g 14 0)), (1, .int d), (2, .int pl)]) 0 ⟨0, rfl, hW, hL, lv_sub hl [0, 1, 2, 3, 4, 5] rfl⟩ (Nat.zero_le _) (fun k40 hk40 ih40 H locs ls hI => ?_)
        obtain ⟨z40, hz40, hW, hL, hl⟩ := hI
        refine lv_iload hx hb dX7_queued_40 (lv_at hl 0 rfl) ?_
        refine lv_aload_n hx hb dX7_queued_42 rfl (lv_at hl 3 rfl) ?_
        refine k_get (K := RX7) (T := TX7) (N := 34) (v := .int (D 14 0 1)) (w := .int (D 14 0 1)) hx hb fX7 hown hK hW 14 0 hm.o (fun _ => rfl) rfl 1 (by decide) (hts (.fieldLink RX7 97 "CrossdockeryModel" "lorries" "I") (by decide +kernel)) rfl rfl rfl dX7_queued_43 ?_
        refine lv_icmp_ge (tgt := 104) hx hb dX7_queued_46 (by decide) (fun c4 => ?_) (fun c4 => ?_)
        ·
          rw [hwf.l] at c4
          have hge40 := k_nI_ge (by omega) (by omega) c4
          obtain rfl : nl = k40 := by omega
          replace hz40 : z40 = (l_X7_queued_40 D nl nt ng d pl k2) := hz40
          subst hz40
          have hl : lv_has ls 6 [(5, .int (nI nl)), (4, .int (l_X7_queued_40 D nl nt ng d pl k2)), (3, .int (nI k2)), (0, .ref (ad g 14 0)), (1, .int d), (2, .int pl)] := hl
          refine lv_iload hx hb dX7_queued_104 (lv_at hl 1 rfl) ?_
          refine lv_iload_n hx hb dX7_queued_106 rfl (lv_at hl 5 rfl) ?_
          refine lv_icmp_ne (tgt := 112) hx hb dX7_queued_107 (by decide) (fun c9 => ?_) (fun c9 => ?_)
          ·
            refine lv_iinc (v := (nI (k2 + 1))) (k := 2) (lv' := [(3, .int (nI (k2 + 1))), (5, .int (nI nl)), (4, .int (l_X7_queued_40 D nl nt ng d pl k2)), (0, .ref (ad g 14 0)), (1, .int d), (2, .int pl)]) hx hb dX7_queued_112 hl rfl (nI_1 _) (by decide) rfl (fun ls hl => ?_)
            refine lv_goto (tgt := 2) hx hb dX7_queued_115 (by decide) ?_
            have e9 : (s_X7_queued D nl nt ng d pl) = (r_X7_queued_2 D nl nt ng d pl) f2 (k2 + 1)  := by rw [hz2, hf2, r_X7_queued_2_s]; first | done | (simp only [if_pos c2, if_pos c3, if_neg c9]; done) | rfl
            exact ih2 _ _ _ hlt2 ⟨(), by rw [e9, show nl - (k2 + 1) = f2 by omega], hW, hL, lv_sub hl [0, 3, 4, 5] rfl⟩
          ·
            refine lv_iload_n hx hb dX7_queued_110 rfl (lv_at hl 2 rfl) ?_
            have e9 : (s_X7_queued D nl nt ng d pl) = nI k2 := by rw [hz2, hf2, r_X7_queued_2_s]; first | done | (simp only [if_pos c2, if_pos c3, if_pos c9]; done) | rfl
            exact k_iret hx hb hr hlocks (⟨by rw [e9], hW⟩) hL dX7_queued_111
        ·
          have hlt40 : k40 < nl := k_nI_nge (by omega) (by omega) (by rw [hwf.l] at c4; exact c4)
          refine lv_iload hx hb dX7_queued_49 (lv_at hl 1 rfl) ?_
          refine lv_aload_n hx hb dX7_queued_51 rfl (lv_at hl 3 rfl) ?_
          refine k_get (K := RX7) (T := TX7) (N := 34) (v := .ref (ad g 15 11)) (w := .ref (ad g 15 11)) hx hb fX7 hown hK hW 14 0 hm.o (fun _ => rfl) rfl 18 (by decide) (hts (.fieldLink RX7 44 "CrossdockeryModel" "state" "[C") (by decide +kernel)) rfl rfl rfl dX7_queued_52 ?_
          refine lv_iload hx hb dX7_queued_55 (lv_at hl 0 rfl) ?_
          refine k_cald (z := 8) (k := k40) hx hb hK hW 15 11 (hm.a (i := 11) (by decide)) (fun _ => rfl) (nI_clamp (by omega)) (vp_in_nI (by omega) (by decide)) (v := (D 15 11 k40)) rfl dX7_queued_57 ?_
          refine lv_bipush (v := 121) hx hb dX7_queued_58 (by decide) ?_
          refine k_join (pc' := 95) (fun H locs ls st => k_W X n ad L (k_g C g D) fr H ∧ (∀ q ∈ locs, k_B X ≤ q.base) ∧ lv_has ls 6 [(5, .int (nI k40)), (4, .int z40), (3, .int (nI k2)), (0, .ref (ad g 14 0)), (1, .int d), (2, .int pl)] ∧ st = [.int (j_X7_queued_95 D nl nt ng d pl k2 k40 z40), .int z40]) (fun H locs ls st hJ => ?_) (fun join95 => ?_)
          ·
            obtain ⟨hW, hL, hl, rfl⟩ := hJ
            refine lv_iadd hx hb dX7_queued_95 ?_
            refine lv_istore (lv' := [(4, .int (z40 + (j_X7_queued_95 D nl nt ng d pl k2 k40 z40))), (5, .int (nI k40)), (3, .int (nI k2)), (0, .ref (ad g 14 0)), (1, .int d), (2, .int pl)]) hx hb dX7_queued_96 hl (by decide) rfl (fun ls hl => ?_)
            refine lv_iinc (v := (nI (k40 + 1))) (k := 1) (lv' := [(5, .int (nI (k40 + 1))), (4, .int (z40 + (j_X7_queued_95 D nl nt ng d pl k2 k40 z40))), (3, .int (nI k2)), (0, .ref (ad g 14 0)), (1, .int d), (2, .int pl)]) hx hb dX7_queued_98 hl rfl (nI_1 _) (by decide) rfl (fun ls hl => ?_)
            refine lv_goto (tgt := 40) hx hb dX7_queued_101 (by decide) ?_
            have e9 : (f_X7_queued_40 D nl nt ng d pl k2) k40 z40 = (z40 + (j_X7_queued_95 D nl nt ng d pl k2 k40 z40)) := by unfold f_X7_queued_40; first | done | rfl
            exact ih40 _ _ _ hlt40 ⟨(z40 + (j_X7_queued_95 D nl nt ng d pl k2 k40 z40)), by rw [it_s, ← hz40, e9], hW, hL, lv_sub hl [0, 1, 2, 3, 4, 5] rfl⟩
          ·
            refine lv_icmp_ne (tgt := 94) hx hb dX7_queued_60 (by decide) (fun c5 => ?_) (fun c5 => ?_)
            ·
              refine lv_iconst (v := 0) hx hb dX7_queued_94 (by decide) ?_
              have e9 : (j_X7_queued_95 D nl nt ng d pl k2 k40 z40) = 0 := by unfold j_X7_queued_95; first | done | (simp only [if_neg c5]; done) | rfl
              exact join95 _ _ _ _ (by rw [e9]; exact ⟨hW, hL, lv_sub hl [0, 1, 2, 3, 4, 5] rfl, rfl⟩)
            ·
              refine lv_aload_n hx hb dX7_queued_63 rfl (lv_at hl 3 rfl) ?_
              refine k_get (K := RX7) (T := TX7) (N := 34) (v := .ref (ad g 15 4)) (w := .ref (ad g 15 4)) hx hb fX7 hown hK hW 14 0 hm.o (fun _ => rfl) rfl 11 (by decide) (hts (.fieldLink RX7 23 "CrossdockeryModel" "door" "[I") (by decide +kernel)) rfl rfl rfl dX7_queued_64 ?_
              refine lv_iload hx hb dX7_queued_67 (lv_at hl 0 rfl) ?_
              refine k_iald (z := 8) (k := k40) hx hb hK hW 15 4 (hm.a (i := 4) (by decide)) (fun _ => rfl) (nI_clamp (by omega)) (vp_in_nI (by omega) (by decide)) (v := (D 15 4 k40)) rfl dX7_queued_69 ?_
              refine lv_iload_n hx hb dX7_queued_70 rfl (lv_at hl 4 rfl) ?_
              refine lv_icmp_ne (tgt := 94) hx hb dX7_queued_71 (by decide) (fun c6 => ?_) (fun c6 => ?_)
              ·
                refine lv_iconst (v := 0) hx hb dX7_queued_94 (by decide) ?_
                have e9 : (j_X7_queued_95 D nl nt ng d pl k2 k40 z40) = 0 := by unfold j_X7_queued_95; first | done | (simp only [if_pos c5, if_neg c6]; done) | rfl
                exact join95 _ _ _ _ (by rw [e9]; exact ⟨hW, hL, lv_sub hl [0, 1, 2, 3, 4, 5] rfl, rfl⟩)
              ·
                refine lv_iload hx hb dX7_queued_74 (lv_at hl 0 rfl) ?_
                refine lv_iload_n hx hb dX7_queued_76 rfl (lv_at hl 2 rfl) ?_
                refine lv_icmp_eq (tgt := 94) hx hb dX7_queued_77 (by decide) (fun c7 => ?_) (fun c7 => ?_)
                ·
                  refine lv_iconst (v := 0) hx hb dX7_queued_94 (by decide) ?_
                  have e9 : (j_X7_queued_95 D nl nt ng d pl k2 k40 z40) = 0 := by unfold j_X7_queued_95; first | done | (simp only [if_pos c5, if_pos c6, if_pos c7]; done) | rfl
                  exact join95 _ _ _ _ (by rw [e9]; exact ⟨hW, hL, lv_sub hl [0, 1, 2, 3, 4, 5] rfl, rfl⟩)
                ·
                  refine lv_aload_n hx hb dX7_queued_80 rfl (lv_at hl 3 rfl) ?_
                  refine lv_iload hx hb dX7_queued_81 (lv_at hl 0 rfl) ?_
                  refine lv_iload_n hx hb dX7_queued_83 rfl (lv_at hl 2 rfl) ?_
                  refine k_callV (As := [.int (nI k40), .int (nI k2)]) (rest := [.int z40]) ⟨hx, hb, hml, hown, hts⟩ hK (c_X7_isBefore X l hm D (nI k40) (nI k2) (vp_in_nI (by omega) (by omega)) (vp_in_nI (by omega) (by omega))) (cwV 2 hts gX7_queued_X7_isBefore rfl rfl rfl (by decide +kernel) ⟨Nat.le_of_ble_eq_true rfl, Nat.le_of_ble_eq_true rfl⟩) (k_recv hK hW 14 0 hm.o (fun _ => rfl) rfl) hW rfl hl.1 rfl (Nat.le_of_ble_eq_true rfl) dX7_queued_84 ⟨Nat.le_of_ble_eq_true rfl, Nat.le_of_ble_eq_true rfl⟩ hL (fun v9 H locs hp hL => ?_)
                  obtain ⟨rfl, hW⟩ := hp
                  refine lv_if_eq (tgt := 94) hx hb dX7_queued_87 (by decide) (fun c8 => ?_) (fun c8 => ?_)
                  ·
                    refine lv_iconst (v := 0) hx hb dX7_queued_94 (by decide) ?_
                    have e9 : (j_X7_queued_95 D nl nt ng d pl k2 k40 z40) = 0 := by unfold j_X7_queued_95; first | done | (simp only [if_pos c5, if_pos c6, if_neg c7, if_pos c8]; done) | rfl
                    exact join95 _ _ _ _ (by rw [e9]; exact ⟨hW, hL, lv_sub hl [0, 1, 2, 3, 4, 5] rfl, rfl⟩)
                  ·
                    refine lv_iconst (v := 1) hx hb dX7_queued_90 (by decide) ?_
                    refine lv_goto (tgt := 95) hx hb dX7_queued_91 (by decide) ?_
                    have e9 : (j_X7_queued_95 D nl nt ng d pl k2 k40 z40) = 1 := by unfold j_X7_queued_95; first | done | (simp only [if_pos c5, if_pos c6, if_neg c7, if_neg c8]; done) | rfl
                    exact join95 _ _ _ _ (by rw [e9]; exact ⟨hW, hL, lv_sub hl [0, 1, 2, 3, 4, 5] rfl, rfl⟩)
      ·
        refine lv_goto (tgt := 112) hx hb dX7_queued_31 (by decide) ?_
        refine lv_iinc (v := (nI (k2 + 1))) (k := 0) (lv' := [(3, .int (nI (k2 + 1))), (0, .ref (ad g 14 0)), (1, .int d), (2, .int pl)]) hx hb dX7_queued_112 hl rfl (nI_1 _) (by decide) rfl (fun ls hl => ?_)
        refine lv_goto (tgt := 2) hx hb dX7_queued_115 (by decide) ?_
        have e9 : (s_X7_queued D nl nt ng d pl) = (r_X7_queued_2 D nl nt ng d pl) f2 (k2 + 1)  := by rw [hz2, hf2, r_X7_queued_2_s]; first | done | (simp only [if_pos c2, if_neg c3]; done) | rfl
        exact ih2 _ _ _ hlt2 ⟨(), by rw [e9, show nl - (k2 + 1) = f2 by omega], hW, hL, lv_sub hl [0, 1, 2, 3] rfl⟩
theorem mWF.drn {D : KD} {nl nt ng : Nat} (h : mWF D nl nt ng) {x : Int32} (hx : vp_in x nl) : D 15 4 x.toNatClampNeg = -1 ∨ vp_in (D 15 4 x.toNatClampNeg) 4 := h.2.2.2.2.1 _ (Nat.not_le.mp fun q => hx (Or.inr q))
theorem mFar4 : ∀ i, i < 4 → ∀ j, j < 4 → ∃ f, f < 4 ∧ (if nI i - nI j ≥ 0 then nI i - nI j else -(nI i - nI j)) = nI f := by decide
theorem mFar_in {a b : Int32} (ha : vp_in a 4) (hb : b = -1 ∨ vp_in b 4) : ∃ f, f < 4 ∧ (if (if b = -1 then 0 else a - b) ≥ 0 then (if b = -1 then 0 else a - b) else -(if b = -1 then 0 else a - b)) = nI f := by
  by_cases hb1 : b = -1
  · subst hb1
    exact ⟨0, by decide, by simp only [if_pos]; rfl⟩
  · obtain ⟨i, hi, rfl⟩ := vp_in_of ha (by decide)
    obtain ⟨j, hj, rfl⟩ := vp_in_of (hb.resolve_left hb1) (by decide)
    rw [if_neg hb1]
    exact mFar4 i hi j hj
theorem mSoon_in {k : Nat} (hk : k < 16) {x : Int32} (h : ∃ f, f < 4 ∧ x = nI f) : vp_in (4 * (nI k) + x) 64 := by
  obtain ⟨f, hf, rfl⟩ := h
  have e : (4 : Int32) * nI k + nI f = nI (4 * k + f) := by
    rw [show (4 : Int32) = nI 4 from rfl, pk_mul, nI_add]
  rw [e]
  exact vp_in_nI (by omega) (by decide)

def j_X7_unload_87 (D : KD) (nl : Nat) (nt : Nat) (ng : Nat) (l0 : Int32) (pw : Int32) (k5 : Nat) (z5 : KD × Int32) : Int32 := (if z5.2 ≥ ((z5.1 15 14 k5) - (z5.1 15 15 k5)) then ((z5.1 15 14 k5) - (z5.1 15 15 k5)) else z5.2)
def j_X7_unload_128 (D : KD) (nl : Nat) (nt : Nat) (ng : Nat) (l0 : Int32) (pw : Int32) (k5 : Nat) (z5 : KD × Int32) : Int32 := (if (z5.1 15 4 ((z5.1 15 13 k5).toNatClampNeg)) = (-1) then 0 else ((z5.1 15 4 (l0.toNatClampNeg)) - (z5.1 15 4 ((z5.1 15 13 k5).toNatClampNeg))))
def j_X7_unload_163 (D : KD) (nl : Nat) (nt : Nat) (ng : Nat) (l0 : Int32) (pw : Int32) (k5 : Nat) (z5 : KD × Int32) : Int32 := (if (j_X7_unload_128 D nl nt ng l0 pw k5 z5) ≥ 0 then (j_X7_unload_128 D nl nt ng l0 pw k5 z5) else (-(j_X7_unload_128 D nl nt ng l0 pw k5 z5)))
def f_X7_unload_5 (D : KD) (nl : Nat) (nt : Nat) (ng : Nat) (l0 : Int32) (pw : Int32) (k5 : Nat) (z5 : KD × Int32) : KD × Int32 := (if (z5.1 15 12 k5) = l0 then (if (z5.1 15 15 k5) = (z5.1 15 14 k5) then (z5.1, z5.2) else (if z5.2 = 0 then (z5.1, z5.2) else ((k_d (k_d (k_d z5.1 15 15 k5 ((z5.1 15 15 k5) + (j_X7_unload_87 D nl nt ng l0 pw k5 z5))) 15 18 (((4 * (nI k5)) + (j_X7_unload_163 D nl nt ng l0 pw k5 z5)).toNatClampNeg) ((z5.1 15 18 (((4 * (nI k5)) + (j_X7_unload_163 D nl nt ng l0 pw k5 z5)).toNatClampNeg)) + (j_X7_unload_87 D nl nt ng l0 pw k5 z5))) 15 1 (l0.toNatClampNeg) 1), (z5.2 - (j_X7_unload_87 D nl nt ng l0 pw k5 z5))))) else (z5.1, z5.2))
def l_X7_unload_5 (D : KD) (nl : Nat) (nt : Nat) (ng : Nat) (l0 : Int32) (pw : Int32) : KD × Int32 := it (f_X7_unload_5 D nl nt ng l0 pw) nt (D, pw)
def s_X7_unload (D : KD) (nl : Nat) (nt : Nat) (ng : Nat) (l0 : Int32) (pw : Int32) : KD := (l_X7_unload_5 D nl nt ng l0 pw).1
set_option maxHeartbeats 4000000 in
set_option maxRecDepth 100000 in
theorem c_X7_unload (X : kX) (l : Launch) {n : Nat → Nat → Nat} {ad L : Nat → Nat → Nat → Nat} {C : Nat → Nat → Nat → Nat → Int32} {fr : Nat → Option Cell} {g : Nat} (hm : k_mod n g) (D : KD) (l0 : Int32) (pw : Int32) {nl nt ng : Nat} (hwf : mWF D nl nt ng) (hv_l0 : vp_in l0 8) (hdl : vp_in (D 15 4 l0.toNatClampNeg) 4) : k_M X l yX7_unload wsX7_unload ({ frames := 1, cells := 0, slots := 0, locals := 12 }) [.ref (ad g 14 0), .int l0, .int pw] (k_W X n ad L (k_g C g D) fr) (fun v H => v = none ∧ k_W X n ad L (k_g C g (s_X7_unload D nl nt ng l0 pw)) fr H) 0 0 := by
  refine k_M.of (cc := cX7_unload) (maxL := 7) (ret := none) (by decide) rfl (Nat.le_of_ble_eq_true rfl) ?_
  intro p e s m args below meth c ls hx hb hr hml hown hts hlocks hnm hK hW hl
  have hL : ∀ q ∈ ([] : List Loc), k_B X ≤ q.base := fun _ h => nomatch h
  have hl : lv_has ls 7 [(0, .ref (ad g 14 0)), (1, .int l0), (2, .int pw)] := hl
  have fX7 : ∀ w ∈ u_ws RX7 TX7 34, w.before args s = true := fun w h => hts w ((by decide +kernel : ∀ w ∈ u_ws RX7 TX7 34, w ∈ wsX7_unload) w h)
  have hl8 := hwf.l8
  have ht16 := hwf.t16
  have hg4 := hwf.g4
  refine lv_iload_n hx hb dX7_unload_0 rfl (lv_at hl 2 rfl) ?_
  refine lv_istore_n (lv' := [(3, .int pw), (0, .ref (ad g 14 0)), (1, .int l0), (2, .int pw)]) hx hb dX7_unload_1 rfl hl (by decide) rfl (fun ls hl => ?_)
  refine lv_iconst (v := 0) hx hb dX7_unload_2 (by decide) ?_
  refine lv_istore (lv' := [(4, .int 0), (3, .int pw), (0, .ref (ad g 14 0)), (1, .int l0), (2, .int pw)]) hx hb dX7_unload_3 hl (by decide) rfl (fun ls hl => ?_)
  refine k_for (nt) (fun k5 H locs ls => ∃ z5 : KD × Int32, z5 = it (f_X7_unload_5 D nl nt ng l0 pw) k5 (D, pw) ∧ k_W X n ad L (k_g C g z5.1) fr H ∧ (∀ q ∈ locs, k_B X ≤ q.base) ∧ lv_has ls 7 [(4, .int (nI k5)), (3, .int z5.2), (0, .ref (ad g 14 0)), (1, .int l0), (2, .int pw)] ∧ mWF z5.1 nl nt ng ∧ z5.1 15 4 = D 15 4) 0 ⟨(D, pw), rfl, hW, hL, lv_sub hl [0, 1, 2, 3, 4] rfl, hwf, rfl⟩ (Nat.zero_le _) (fun k5 hk5 ih5 H locs ls hI => ?_)
  obtain ⟨z5, hz5, hW, hL, hl, hE5, hK5_4⟩ := hI
  refine lv_iload hx hb dX7_unload_5 (lv_at hl 0 rfl) ?_
  refine lv_aload_n hx hb dX7_unload_7 rfl (lv_at hl 2 rfl) ?_
  refine k_get (K := RX7) (T := TX7) (N := 34) (v := .int (z5.1 14 0 2)) (w := .int (z5.1 14 0 2)) hx hb fX7 hown hK hW 14 0 hm.o (fun _ => rfl) rfl 2 (by decide) (hts (.fieldLink RX7 115 "CrossdockeryModel" "transfers" "I") (by decide +kernel)) rfl rfl rfl dX7_unload_8 ?_
  refine lv_icmp_ge (tgt := 188) hx hb dX7_unload_11 (by decide) (fun c1 => ?_) (fun c1 => ?_)
  ·
    rw [hE5.t] at c1
    have hge5 := k_nI_ge (by omega) (by omega) c1
    obtain rfl : nt = k5 := by omega
    replace hz5 : z5 = (l_X7_unload_5 D nl nt ng l0 pw) := hz5
    subst hz5
    have hl : lv_has ls 7 [(4, .int (nI nt)), (3, .int ((l_X7_unload_5 D nl nt ng l0 pw).2)), (0, .ref (ad g 14 0)), (1, .int l0), (2, .int pw)] := hl
    have e9 : (s_X7_unload D nl nt ng l0 pw) = (l_X7_unload_5 D nl nt ng l0 pw).1 := by unfold s_X7_unload; first | done | rfl
    exact k_vret hx hb hr hlocks (⟨rfl, by rw [e9]; exact hW⟩) hL dX7_unload_188
  ·
    have hlt5 : k5 < nt := k_nI_nge (by omega) (by omega) (by rw [hE5.t] at c1; exact c1)
    refine lv_aload_n hx hb dX7_unload_14 rfl (lv_at hl 2 rfl) ?_
    refine k_get (K := RX7) (T := TX7) (N := 34) (v := .ref (ad g 15 12)) (w := .ref (ad g 15 12)) hx hb fX7 hown hK hW 14 0 hm.o (fun _ => rfl) rfl 19 (by decide) (hts (.fieldLink RX7 48 "CrossdockeryModel" "from" "[I") (by decide +kernel)) rfl rfl rfl dX7_unload_15 ?_
    refine lv_iload hx hb dX7_unload_18 (lv_at hl 0 rfl) ?_
    refine k_iald (z := 16) (k := k5) hx hb hK hW 15 12 (hm.a (i := 12) (by decide)) (fun _ => rfl) (nI_clamp (by omega)) (vp_in_nI (by omega) (by decide)) (v := (z5.1 15 12 k5)) rfl dX7_unload_20 ?_
    refine lv_iload_n hx hb dX7_unload_21 rfl (lv_at hl 3 rfl) ?_
    refine lv_icmp_ne (tgt := 182) hx hb dX7_unload_22 (by decide) (fun c2 => ?_) (fun c2 => ?_)
    ·
      refine lv_iinc (v := (nI (k5 + 1))) (k := 0) (lv' := [(4, .int (nI (k5 + 1))), (3, .int z5.2), (0, .ref (ad g 14 0)), (1, .int l0), (2, .int pw)]) hx hb dX7_unload_182 hl rfl (nI_1 _) (by decide) rfl (fun ls hl => ?_)
      refine lv_goto (tgt := 5) hx hb dX7_unload_185 (by decide) ?_
      have e9 : (f_X7_unload_5 D nl nt ng l0 pw) k5 z5 = (z5.1, z5.2) := by unfold f_X7_unload_5; first | done | (simp only [if_neg c2]; done) | rfl
      exact ih5 _ _ _ hlt5 ⟨(z5.1, z5.2), by rw [it_s, ← hz5, e9], hW, hL, lv_sub hl [0, 1, 2, 3, 4] rfl, hE5, hK5_4⟩
    ·
      refine lv_aload_n hx hb dX7_unload_25 rfl (lv_at hl 2 rfl) ?_
      refine k_get (K := RX7) (T := TX7) (N := 34) (v := .ref (ad g 15 15)) (w := .ref (ad g 15 15)) hx hb fX7 hown hK hW 14 0 hm.o (fun _ => rfl) rfl 22 (by decide) (hts (.fieldLink RX7 57 "CrossdockeryModel" "unloaded" "[I") (by decide +kernel)) rfl rfl rfl dX7_unload_26 ?_
      refine lv_iload hx hb dX7_unload_29 (lv_at hl 0 rfl) ?_
      refine k_iald (z := 16) (k := k5) hx hb hK hW 15 15 (hm.a (i := 15) (by decide)) (fun _ => rfl) (nI_clamp (by omega)) (vp_in_nI (by omega) (by decide)) (v := (z5.1 15 15 k5)) rfl dX7_unload_31 ?_
      refine lv_aload_n hx hb dX7_unload_32 rfl (lv_at hl 2 rfl) ?_
      refine k_get (K := RX7) (T := TX7) (N := 34) (v := .ref (ad g 15 14)) (w := .ref (ad g 15 14)) hx hb fX7 hown hK hW 14 0 hm.o (fun _ => rfl) rfl 21 (by decide) (hts (.fieldLink RX7 54 "CrossdockeryModel" "units" "[I") (by decide +kernel)) rfl rfl rfl dX7_unload_33 ?_
      refine lv_iload hx hb dX7_unload_36 (lv_at hl 0 rfl) ?_
      refine k_iald (z := 16) (k := k5) hx hb hK hW 15 14 (hm.a (i := 14) (by decide)) (fun _ => rfl) (nI_clamp (by omega)) (vp_in_nI (by omega) (by decide)) (v := (z5.1 15 14 k5)) rfl dX7_unload_38 ?_
      refine lv_icmp_eq (tgt := 182) hx hb dX7_unload_39 (by decide) (fun c3 => ?_) (fun c3 => ?_)
      ·
        refine lv_iinc (v := (nI (k5 + 1))) (k := 0) (lv' := [(4, .int (nI (k5 + 1))), (3, .int z5.2), (0, .ref (ad g 14 0)), (1, .int l0), (2, .int pw)]) hx hb dX7_unload_182 hl rfl (nI_1 _) (by decide) rfl (fun ls hl => ?_)
        refine lv_goto (tgt := 5) hx hb dX7_unload_185 (by decide) ?_
        have e9 : (f_X7_unload_5 D nl nt ng l0 pw) k5 z5 = (z5.1, z5.2) := by unfold f_X7_unload_5; first | done | (simp only [if_pos c2, if_pos c3]; done) | rfl
        exact ih5 _ _ _ hlt5 ⟨(z5.1, z5.2), by rw [it_s, ← hz5, e9], hW, hL, lv_sub hl [0, 1, 2, 3, 4] rfl, hE5, hK5_4⟩
      ·
        refine lv_iload_n hx hb dX7_unload_42 rfl (lv_at hl 1 rfl) ?_
        refine lv_if_ne (tgt := 49) hx hb dX7_unload_43 (by decide) (fun c4 => ?_) (fun c4 => ?_)
        ·
          refine lv_iload_n hx hb dX7_unload_49 rfl (lv_at hl 1 rfl) ?_
          refine lv_aload_n hx hb dX7_unload_50 rfl (lv_at hl 2 rfl) ?_
          refine k_get (K := RX7) (T := TX7) (N := 34) (v := .ref (ad g 15 14)) (w := .ref (ad g 15 14)) hx hb fX7 hown hK hW 14 0 hm.o (fun _ => rfl) rfl 21 (by decide) (hts (.fieldLink RX7 54 "CrossdockeryModel" "units" "[I") (by decide +kernel)) rfl rfl rfl dX7_unload_51 ?_
          refine lv_iload hx hb dX7_unload_54 (lv_at hl 0 rfl) ?_
          refine k_iald (z := 16) (k := k5) hx hb hK hW 15 14 (hm.a (i := 14) (by decide)) (fun _ => rfl) (nI_clamp (by omega)) (vp_in_nI (by omega) (by decide)) (v := (z5.1 15 14 k5)) rfl dX7_unload_56 ?_
          refine lv_aload_n hx hb dX7_unload_57 rfl (lv_at hl 2 rfl) ?_
          refine k_get (K := RX7) (T := TX7) (N := 34) (v := .ref (ad g 15 15)) (w := .ref (ad g 15 15)) hx hb fX7 hown hK hW 14 0 hm.o (fun _ => rfl) rfl 22 (by decide) (hts (.fieldLink RX7 57 "CrossdockeryModel" "unloaded" "[I") (by decide +kernel)) rfl rfl rfl dX7_unload_58 ?_
          refine lv_iload hx hb dX7_unload_61 (lv_at hl 0 rfl) ?_
          refine k_iald (z := 16) (k := k5) hx hb hK hW 15 15 (hm.a (i := 15) (by decide)) (fun _ => rfl) (nI_clamp (by omega)) (vp_in_nI (by omega) (by decide)) (v := (z5.1 15 15 k5)) rfl dX7_unload_63 ?_
          refine lv_isub hx hb dX7_unload_64 ?_
          refine k_join (pc' := 87) (fun H locs ls st => k_W X n ad L (k_g C g z5.1) fr H ∧ (∀ q ∈ locs, k_B X ≤ q.base) ∧ lv_has ls 7 [(4, .int (nI k5)), (3, .int z5.2), (0, .ref (ad g 14 0)), (1, .int l0), (2, .int pw)] ∧ st = [.int (j_X7_unload_87 D nl nt ng l0 pw k5 z5)]) (fun H locs ls st hJ => ?_) (fun join87 => ?_)
          ·
            obtain ⟨hW, hL, hl, rfl⟩ := hJ
            refine lv_istore (lv' := [(5, .int (j_X7_unload_87 D nl nt ng l0 pw k5 z5)), (4, .int (nI k5)), (3, .int z5.2), (0, .ref (ad g 14 0)), (1, .int l0), (2, .int pw)]) hx hb dX7_unload_87 hl (by decide) rfl (fun ls hl => ?_)
            refine lv_aload_n hx hb dX7_unload_89 rfl (lv_at hl 3 rfl) ?_
            refine k_get (K := RX7) (T := TX7) (N := 34) (v := .ref (ad g 15 4)) (w := .ref (ad g 15 4)) hx hb fX7 hown hK hW 14 0 hm.o (fun _ => rfl) rfl 11 (by decide) (hts (.fieldLink RX7 23 "CrossdockeryModel" "door" "[I") (by decide +kernel)) rfl rfl rfl dX7_unload_90 ?_
            refine lv_aload_n hx hb dX7_unload_93 rfl (lv_at hl 3 rfl) ?_
            refine k_get (K := RX7) (T := TX7) (N := 34) (v := .ref (ad g 15 13)) (w := .ref (ad g 15 13)) hx hb fX7 hown hK hW 14 0 hm.o (fun _ => rfl) rfl 20 (by decide) (hts (.fieldLink RX7 51 "CrossdockeryModel" "to" "[I") (by decide +kernel)) rfl rfl rfl dX7_unload_94 ?_
            refine lv_iload hx hb dX7_unload_97 (lv_at hl 1 rfl) ?_
            refine k_iald (z := 16) (k := k5) hx hb hK hW 15 13 (hm.a (i := 13) (by decide)) (fun _ => rfl) (nI_clamp (by omega)) (vp_in_nI (by omega) (by decide)) (v := (z5.1 15 13 k5)) rfl dX7_unload_99 ?_
            refine k_iald (z := 8) (k := ((z5.1 15 13 k5).toNatClampNeg)) hx hb hK hW 15 4 (hm.a (i := 4) (by decide)) (fun _ => rfl) rfl (hE5.to (by omega)) (v := (z5.1 15 4 ((z5.1 15 13 k5).toNatClampNeg))) rfl dX7_unload_100 ?_
            refine lv_iconst (v := (-1)) hx hb dX7_unload_101 (by decide) ?_
            refine k_join (pc' := 128) (fun H locs ls st => k_W X n ad L (k_g C g z5.1) fr H ∧ (∀ q ∈ locs, k_B X ≤ q.base) ∧ lv_has ls 7 [(5, .int (j_X7_unload_87 D nl nt ng l0 pw k5 z5)), (4, .int (nI k5)), (3, .int z5.2), (0, .ref (ad g 14 0)), (1, .int l0), (2, .int pw)] ∧ st = [.int (j_X7_unload_128 D nl nt ng l0 pw k5 z5)]) (fun H locs ls st hJ => ?_) (fun join128 => ?_)
            ·
              obtain ⟨hW, hL, hl, rfl⟩ := hJ
              refine lv_istore (lv' := [(6, .int (j_X7_unload_128 D nl nt ng l0 pw k5 z5)), (5, .int (j_X7_unload_87 D nl nt ng l0 pw k5 z5)), (4, .int (nI k5)), (3, .int z5.2), (0, .ref (ad g 14 0)), (1, .int l0), (2, .int pw)]) hx hb dX7_unload_128 hl (by decide) rfl (fun ls hl => ?_)
              refine lv_aload_n hx hb dX7_unload_130 rfl (lv_at hl 4 rfl) ?_
              refine k_get (K := RX7) (T := TX7) (N := 34) (v := .ref (ad g 15 15)) (w := .ref (ad g 15 15)) hx hb fX7 hown hK hW 14 0 hm.o (fun _ => rfl) rfl 22 (by decide) (hts (.fieldLink RX7 57 "CrossdockeryModel" "unloaded" "[I") (by decide +kernel)) rfl rfl rfl dX7_unload_131 ?_
              refine lv_iload hx hb dX7_unload_134 (lv_at hl 2 rfl) ?_
              refine lv_dup2_11 hx hb dX7_unload_136 rfl rfl ?_
              refine k_iald (z := 16) (k := k5) hx hb hK hW 15 15 (hm.a (i := 15) (by decide)) (fun _ => rfl) (nI_clamp (by omega)) (vp_in_nI (by omega) (by decide)) (v := (z5.1 15 15 k5)) rfl dX7_unload_137 ?_
              refine lv_iload hx hb dX7_unload_138 (lv_at hl 1 rfl) ?_
              refine lv_iadd hx hb dX7_unload_140 ?_
              refine k_iast (z := 16) (k := k5) hx hb hK hW hL 15 15 (hm.a (i := 15) (by decide)) (fun _ => rfl) (nI_clamp (by omega)) (vp_in_nI (by omega) (by decide)) dX7_unload_141 (fun H locs hW hL => ?_)
              refine lv_aload_n hx hb dX7_unload_142 rfl (lv_at hl 4 rfl) ?_
              refine k_get (K := RX7) (T := TX7) (N := 34) (v := .ref (ad g 15 18)) (w := .ref (ad g 15 18)) hx hb fX7 hown hK hW 14 0 hm.o (fun _ => rfl) rfl 25 (by decide) (hts (.fieldLink RX7 66 "CrossdockeryModel" "soon" "[I") (by decide +kernel)) rfl rfl rfl dX7_unload_143 ?_
              refine lv_iconst (v := 4) hx hb dX7_unload_146 (by decide) ?_
              refine lv_iload hx hb dX7_unload_147 (lv_at hl 2 rfl) ?_
              refine lv_imul hx hb dX7_unload_149 ?_
              refine lv_iload hx hb dX7_unload_150 (lv_at hl 0 rfl) ?_
              refine k_join (pc' := 163) (fun H locs ls st => k_W X n ad L (k_g C g (k_d z5.1 15 15 k5 ((z5.1 15 15 k5) + (j_X7_unload_87 D nl nt ng l0 pw k5 z5)))) fr H ∧ (∀ q ∈ locs, k_B X ≤ q.base) ∧ lv_has ls 7 [(6, .int (j_X7_unload_128 D nl nt ng l0 pw k5 z5)), (5, .int (j_X7_unload_87 D nl nt ng l0 pw k5 z5)), (4, .int (nI k5)), (3, .int z5.2), (0, .ref (ad g 14 0)), (1, .int l0), (2, .int pw)] ∧ st = [.int (j_X7_unload_163 D nl nt ng l0 pw k5 z5), .int (4 * (nI k5)), .ref (ad g 15 18)]) (fun H locs ls st hJ => ?_) (fun join163 => ?_)
              ·
                obtain ⟨hW, hL, hl, rfl⟩ := hJ
                have hs163 : vp_in (4 * (nI k5) + (j_X7_unload_163 D nl nt ng l0 pw k5 z5)) 64 := mSoon_in (by omega) (mFar_in (by rw [hK5_4]; exact hdl) (mWF.drn hE5 (hE5.tol hlt5)))
                refine lv_iadd hx hb dX7_unload_163 ?_
                refine lv_dup2_11 hx hb dX7_unload_164 rfl rfl ?_
                refine k_iald (z := 64) (k := ((4 * (nI k5)) + (j_X7_unload_163 D nl nt ng l0 pw k5 z5)).toNatClampNeg) hx hb hK hW 15 18 (hm.a (i := 18) (by decide)) (fun _ => rfl) rfl hs163 (v := (z5.1 15 18 (((4 * (nI k5)) + (j_X7_unload_163 D nl nt ng l0 pw k5 z5)).toNatClampNeg))) (k_di rfl) dX7_unload_165 ?_
                refine lv_iload hx hb dX7_unload_166 (lv_at hl 1 rfl) ?_
                refine lv_iadd hx hb dX7_unload_168 ?_
                refine k_iast (z := 64) (k := ((4 * (nI k5)) + (j_X7_unload_163 D nl nt ng l0 pw k5 z5)).toNatClampNeg) hx hb hK hW hL 15 18 (hm.a (i := 18) (by decide)) (fun _ => rfl) rfl hs163 dX7_unload_169 (fun H locs hW hL => ?_)
                refine lv_iload_n hx hb dX7_unload_170 rfl (lv_at hl 3 rfl) ?_
                refine lv_iload hx hb dX7_unload_171 (lv_at hl 1 rfl) ?_
                refine lv_isub hx hb dX7_unload_173 ?_
                refine lv_istore_n (lv' := [(3, .int (z5.2 - (j_X7_unload_87 D nl nt ng l0 pw k5 z5))), (6, .int (j_X7_unload_128 D nl nt ng l0 pw k5 z5)), (5, .int (j_X7_unload_87 D nl nt ng l0 pw k5 z5)), (4, .int (nI k5)), (0, .ref (ad g 14 0)), (1, .int l0), (2, .int pw)]) hx hb dX7_unload_174 rfl hl (by decide) rfl (fun ls hl => ?_)
                refine lv_aload_n hx hb dX7_unload_175 rfl (lv_at hl 4 rfl) ?_
                refine k_get (K := RX7) (T := TX7) (N := 34) (v := .ref (ad g 15 1)) (w := .ref (ad g 15 1)) hx hb fX7 hown hK hW 14 0 hm.o (fun _ => rfl) rfl 8 (by decide) (hts (.fieldLink RX7 13 "CrossdockeryModel" "isHandled" "[Z") (by decide +kernel)) rfl rfl rfl dX7_unload_176 ?_
                refine lv_iload_n hx hb dX7_unload_179 rfl (lv_at hl 5 rfl) ?_
                refine lv_iconst (v := 1) hx hb dX7_unload_180 (by decide) ?_
                refine k_zast (z := 8) (k := (l0.toNatClampNeg)) hx hb hK hW hL 15 1 (hm.a (i := 1) (by decide)) (fun _ => rfl) (by decide) rfl hv_l0 dX7_unload_181 (fun H locs hW hL => ?_)
                refine lv_iinc (v := (nI (k5 + 1))) (k := 3) (lv' := [(4, .int (nI (k5 + 1))), (3, .int (z5.2 - (j_X7_unload_87 D nl nt ng l0 pw k5 z5))), (6, .int (j_X7_unload_128 D nl nt ng l0 pw k5 z5)), (5, .int (j_X7_unload_87 D nl nt ng l0 pw k5 z5)), (0, .ref (ad g 14 0)), (1, .int l0), (2, .int pw)]) hx hb dX7_unload_182 hl rfl (nI_1 _) (by decide) rfl (fun ls hl => ?_)
                refine lv_goto (tgt := 5) hx hb dX7_unload_185 (by decide) ?_
                have e9 : (f_X7_unload_5 D nl nt ng l0 pw) k5 z5 = ((k_d (k_d (k_d z5.1 15 15 k5 ((z5.1 15 15 k5) + (j_X7_unload_87 D nl nt ng l0 pw k5 z5))) 15 18 (((4 * (nI k5)) + (j_X7_unload_163 D nl nt ng l0 pw k5 z5)).toNatClampNeg) ((z5.1 15 18 (((4 * (nI k5)) + (j_X7_unload_163 D nl nt ng l0 pw k5 z5)).toNatClampNeg)) + (j_X7_unload_87 D nl nt ng l0 pw k5 z5))) 15 1 (l0.toNatClampNeg) 1), (z5.2 - (j_X7_unload_87 D nl nt ng l0 pw k5 z5))) := by unfold f_X7_unload_5; first | done | (simp only [if_pos c2, if_neg c3, if_neg c4]; done) | rfl
                exact ih5 _ _ _ hlt5 ⟨((k_d (k_d (k_d z5.1 15 15 k5 ((z5.1 15 15 k5) + (j_X7_unload_87 D nl nt ng l0 pw k5 z5))) 15 18 (((4 * (nI k5)) + (j_X7_unload_163 D nl nt ng l0 pw k5 z5)).toNatClampNeg) ((z5.1 15 18 (((4 * (nI k5)) + (j_X7_unload_163 D nl nt ng l0 pw k5 z5)).toNatClampNeg)) + (j_X7_unload_87 D nl nt ng l0 pw k5 z5))) 15 1 (l0.toNatClampNeg) 1), (z5.2 - (j_X7_unload_87 D nl nt ng l0 pw k5 z5))), by rw [it_s, ← hz5, e9], hW, hL, lv_sub hl [0, 1, 4, 5, 6] rfl, (((hE5.put15 (by decide)).put15 (by decide)).put15 (by decide)), (k_keep (k_d (k_d z5.1 15 15 k5 ((z5.1 15 15 k5) + (j_X7_unload_87 D nl nt ng l0 pw k5 z5))) 15 18 (((4 * (nI k5)) + (j_X7_unload_163 D nl nt ng l0 pw k5 z5)).toNatClampNeg) ((z5.1 15 18 (((4 * (nI k5)) + (j_X7_unload_163 D nl nt ng l0 pw k5 z5)).toNatClampNeg)) + (j_X7_unload_87 D nl nt ng l0 pw k5 z5))) 15 1 (l0.toNatClampNeg) 1 (by decide) (k_keep (k_d z5.1 15 15 k5 ((z5.1 15 15 k5) + (j_X7_unload_87 D nl nt ng l0 pw k5 z5))) 15 18 (((4 * (nI k5)) + (j_X7_unload_163 D nl nt ng l0 pw k5 z5)).toNatClampNeg) ((z5.1 15 18 (((4 * (nI k5)) + (j_X7_unload_163 D nl nt ng l0 pw k5 z5)).toNatClampNeg)) + (j_X7_unload_87 D nl nt ng l0 pw k5 z5)) (by decide) (k_keep z5.1 15 15 k5 ((z5.1 15 15 k5) + (j_X7_unload_87 D nl nt ng l0 pw k5 z5)) (by decide) hK5_4)))⟩
              ·
                refine lv_if_ge (tgt := 161) hx hb dX7_unload_152 (by decide) (fun c7 => ?_) (fun c7 => ?_)
                ·
                  refine lv_iload hx hb dX7_unload_161 (lv_at hl 0 rfl) ?_
                  have e9 : (j_X7_unload_163 D nl nt ng l0 pw k5 z5) = (j_X7_unload_128 D nl nt ng l0 pw k5 z5) := by unfold j_X7_unload_163; first | done | (simp only [if_pos c7]; done) | rfl
                  exact join163 _ _ _ _ (by rw [e9]; exact ⟨hW, hL, lv_sub hl [0, 1, 2, 3, 4, 5, 6] rfl, rfl⟩)
                ·
                  refine lv_iload hx hb dX7_unload_155 (lv_at hl 0 rfl) ?_
                  refine lv_ineg hx hb dX7_unload_157 ?_
                  refine lv_goto (tgt := 163) hx hb dX7_unload_158 (by decide) ?_
                  have e9 : (j_X7_unload_163 D nl nt ng l0 pw k5 z5) = (-(j_X7_unload_128 D nl nt ng l0 pw k5 z5)) := by unfold j_X7_unload_163; first | done | (simp only [if_neg c7]; done) | rfl
                  exact join163 _ _ _ _ (by rw [e9]; exact ⟨hW, hL, lv_sub hl [0, 1, 2, 3, 4, 5, 6] rfl, rfl⟩)
            ·
              refine lv_icmp_ne (tgt := 109) hx hb dX7_unload_102 (by decide) (fun c6 => ?_) (fun c6 => ?_)
              ·
                refine lv_aload_n hx hb dX7_unload_109 rfl (lv_at hl 3 rfl) ?_
                refine k_get (K := RX7) (T := TX7) (N := 34) (v := .ref (ad g 15 4)) (w := .ref (ad g 15 4)) hx hb fX7 hown hK hW 14 0 hm.o (fun _ => rfl) rfl 11 (by decide) (hts (.fieldLink RX7 23 "CrossdockeryModel" "door" "[I") (by decide +kernel)) rfl rfl rfl dX7_unload_110 ?_
                refine lv_iload_n hx hb dX7_unload_113 rfl (lv_at hl 4 rfl) ?_
                refine k_iald (z := 8) (k := (l0.toNatClampNeg)) hx hb hK hW 15 4 (hm.a (i := 4) (by decide)) (fun _ => rfl) rfl hv_l0 (v := (z5.1 15 4 (l0.toNatClampNeg))) rfl dX7_unload_114 ?_
                refine lv_aload_n hx hb dX7_unload_115 rfl (lv_at hl 3 rfl) ?_
                refine k_get (K := RX7) (T := TX7) (N := 34) (v := .ref (ad g 15 4)) (w := .ref (ad g 15 4)) hx hb fX7 hown hK hW 14 0 hm.o (fun _ => rfl) rfl 11 (by decide) (hts (.fieldLink RX7 23 "CrossdockeryModel" "door" "[I") (by decide +kernel)) rfl rfl rfl dX7_unload_116 ?_
                refine lv_aload_n hx hb dX7_unload_119 rfl (lv_at hl 3 rfl) ?_
                refine k_get (K := RX7) (T := TX7) (N := 34) (v := .ref (ad g 15 13)) (w := .ref (ad g 15 13)) hx hb fX7 hown hK hW 14 0 hm.o (fun _ => rfl) rfl 20 (by decide) (hts (.fieldLink RX7 51 "CrossdockeryModel" "to" "[I") (by decide +kernel)) rfl rfl rfl dX7_unload_120 ?_
                refine lv_iload hx hb dX7_unload_123 (lv_at hl 1 rfl) ?_
                refine k_iald (z := 16) (k := k5) hx hb hK hW 15 13 (hm.a (i := 13) (by decide)) (fun _ => rfl) (nI_clamp (by omega)) (vp_in_nI (by omega) (by decide)) (v := (z5.1 15 13 k5)) rfl dX7_unload_125 ?_
                refine k_iald (z := 8) (k := ((z5.1 15 13 k5).toNatClampNeg)) hx hb hK hW 15 4 (hm.a (i := 4) (by decide)) (fun _ => rfl) rfl (hE5.to (by omega)) (v := (z5.1 15 4 ((z5.1 15 13 k5).toNatClampNeg))) rfl dX7_unload_126 ?_
                refine lv_isub hx hb dX7_unload_127 ?_
                have e9 : (j_X7_unload_128 D nl nt ng l0 pw k5 z5) = ((z5.1 15 4 (l0.toNatClampNeg)) - (z5.1 15 4 ((z5.1 15 13 k5).toNatClampNeg))) := by unfold j_X7_unload_128; first | done | (simp only [if_neg c6]; done) | rfl
                exact join128 _ _ _ _ (by rw [e9]; exact ⟨hW, hL, lv_sub hl [0, 1, 2, 3, 4, 5] rfl, rfl⟩)
              ·
                refine lv_iconst (v := 0) hx hb dX7_unload_105 (by decide) ?_
                refine lv_goto (tgt := 128) hx hb dX7_unload_106 (by decide) ?_
                have e9 : (j_X7_unload_128 D nl nt ng l0 pw k5 z5) = 0 := by unfold j_X7_unload_128; first | done | (simp only [if_pos c6]; done) | rfl
                exact join128 _ _ _ _ (by rw [e9]; exact ⟨hW, hL, lv_sub hl [0, 1, 2, 3, 4, 5] rfl, rfl⟩)
          ·
            refine lv_icmp_ge (tgt := 72) hx hb dX7_unload_65 (by decide) (fun c5 => ?_) (fun c5 => ?_)
            ·
              refine lv_aload_n hx hb dX7_unload_72 rfl (lv_at hl 2 rfl) ?_
              refine k_get (K := RX7) (T := TX7) (N := 34) (v := .ref (ad g 15 14)) (w := .ref (ad g 15 14)) hx hb fX7 hown hK hW 14 0 hm.o (fun _ => rfl) rfl 21 (by decide) (hts (.fieldLink RX7 54 "CrossdockeryModel" "units" "[I") (by decide +kernel)) rfl rfl rfl dX7_unload_73 ?_
              refine lv_iload hx hb dX7_unload_76 (lv_at hl 0 rfl) ?_
              refine k_iald (z := 16) (k := k5) hx hb hK hW 15 14 (hm.a (i := 14) (by decide)) (fun _ => rfl) (nI_clamp (by omega)) (vp_in_nI (by omega) (by decide)) (v := (z5.1 15 14 k5)) rfl dX7_unload_78 ?_
              refine lv_aload_n hx hb dX7_unload_79 rfl (lv_at hl 2 rfl) ?_
              refine k_get (K := RX7) (T := TX7) (N := 34) (v := .ref (ad g 15 15)) (w := .ref (ad g 15 15)) hx hb fX7 hown hK hW 14 0 hm.o (fun _ => rfl) rfl 22 (by decide) (hts (.fieldLink RX7 57 "CrossdockeryModel" "unloaded" "[I") (by decide +kernel)) rfl rfl rfl dX7_unload_80 ?_
              refine lv_iload hx hb dX7_unload_83 (lv_at hl 0 rfl) ?_
              refine k_iald (z := 16) (k := k5) hx hb hK hW 15 15 (hm.a (i := 15) (by decide)) (fun _ => rfl) (nI_clamp (by omega)) (vp_in_nI (by omega) (by decide)) (v := (z5.1 15 15 k5)) rfl dX7_unload_85 ?_
              refine lv_isub hx hb dX7_unload_86 ?_
              have e9 : (j_X7_unload_87 D nl nt ng l0 pw k5 z5) = ((z5.1 15 14 k5) - (z5.1 15 15 k5)) := by unfold j_X7_unload_87; first | done | (simp only [if_pos c5]; done) | rfl
              exact join87 _ _ _ _ (by rw [e9]; exact ⟨hW, hL, lv_sub hl [0, 1, 2, 3, 4] rfl, rfl⟩)
            ·
              refine lv_iload_n hx hb dX7_unload_68 rfl (lv_at hl 1 rfl) ?_
              refine lv_goto (tgt := 87) hx hb dX7_unload_69 (by decide) ?_
              have e9 : (j_X7_unload_87 D nl nt ng l0 pw k5 z5) = z5.2 := by unfold j_X7_unload_87; first | done | (simp only [if_neg c5]; done) | rfl
              exact join87 _ _ _ _ (by rw [e9]; exact ⟨hW, hL, lv_sub hl [0, 1, 2, 3, 4] rfl, rfl⟩)
        ·
          refine lv_goto (tgt := 182) hx hb dX7_unload_46 (by decide) ?_
          refine lv_iinc (v := (nI (k5 + 1))) (k := 0) (lv' := [(4, .int (nI (k5 + 1))), (3, .int z5.2), (0, .ref (ad g 14 0)), (1, .int l0), (2, .int pw)]) hx hb dX7_unload_182 hl rfl (nI_1 _) (by decide) rfl (fun ls hl => ?_)
          refine lv_goto (tgt := 5) hx hb dX7_unload_185 (by decide) ?_
          have e9 : (f_X7_unload_5 D nl nt ng l0 pw) k5 z5 = (z5.1, z5.2) := by unfold f_X7_unload_5; first | done | (simp only [if_pos c2, if_neg c3, if_pos c4]; done) | rfl
          exact ih5 _ _ _ hlt5 ⟨(z5.1, z5.2), by rw [it_s, ← hz5, e9], hW, hL, lv_sub hl [0, 1, 2, 3, 4] rfl, hE5, hK5_4⟩
def j_X7_load_64 (D : KD) (nl : Nat) (nt : Nat) (ng : Nat) (l0 : Int32) (pw : Int32) (k5 : Nat) (z5 : KD × Int32) : Int32 := (if z5.2 ≥ (z5.1 15 16 k5) then (z5.1 15 16 k5) else z5.2)
def f_X7_load_5 (D : KD) (nl : Nat) (nt : Nat) (ng : Nat) (l0 : Int32) (pw : Int32) (k5 : Nat) (z5 : KD × Int32) : KD × Int32 := (if (z5.1 15 13 k5) = l0 then (if (z5.1 15 16 k5) = 0 then (z5.1, z5.2) else (if z5.2 = 0 then (z5.1, z5.2) else ((k_d (k_d (k_d z5.1 15 16 k5 ((z5.1 15 16 k5) - (j_X7_load_64 D nl nt ng l0 pw k5 z5))) 15 17 k5 ((z5.1 15 17 k5) + (j_X7_load_64 D nl nt ng l0 pw k5 z5))) 15 1 (l0.toNatClampNeg) 1), (z5.2 - (j_X7_load_64 D nl nt ng l0 pw k5 z5))))) else (z5.1, z5.2))
def l_X7_load_5 (D : KD) (nl : Nat) (nt : Nat) (ng : Nat) (l0 : Int32) (pw : Int32) : KD × Int32 := it (f_X7_load_5 D nl nt ng l0 pw) nt (D, pw)
def s_X7_load (D : KD) (nl : Nat) (nt : Nat) (ng : Nat) (l0 : Int32) (pw : Int32) : KD := (l_X7_load_5 D nl nt ng l0 pw).1
set_option maxHeartbeats 4000000 in
set_option maxRecDepth 100000 in
theorem c_X7_load (X : kX) (l : Launch) {n : Nat → Nat → Nat} {ad L : Nat → Nat → Nat → Nat} {C : Nat → Nat → Nat → Nat → Int32} {fr : Nat → Option Cell} {g : Nat} (hm : k_mod n g) (D : KD) (l0 : Int32) (pw : Int32) {nl nt ng : Nat} (hwf : mWF D nl nt ng) (hv_l0 : vp_in l0 8) : k_M X l yX7_load wsX7_load ({ frames := 1, cells := 0, slots := 0, locals := 12 }) [.ref (ad g 14 0), .int l0, .int pw] (k_W X n ad L (k_g C g D) fr) (fun v H => v = none ∧ k_W X n ad L (k_g C g (s_X7_load D nl nt ng l0 pw)) fr H) 0 0 := by
  refine k_M.of (cc := cX7_load) (maxL := 6) (ret := none) (by decide) rfl (Nat.le_of_ble_eq_true rfl) ?_
  intro p e s m args below meth c ls hx hb hr hml hown hts hlocks hnm hK hW hl
  have hL : ∀ q ∈ ([] : List Loc), k_B X ≤ q.base := fun _ h => nomatch h
  have hl : lv_has ls 6 [(0, .ref (ad g 14 0)), (1, .int l0), (2, .int pw)] := hl
  have fX7 : ∀ w ∈ u_ws RX7 TX7 34, w.before args s = true := fun w h => hts w ((by decide +kernel : ∀ w ∈ u_ws RX7 TX7 34, w ∈ wsX7_load) w h)
  have hl8 := hwf.l8
  have ht16 := hwf.t16
  have hg4 := hwf.g4
  refine lv_iload_n hx hb dX7_load_0 rfl (lv_at hl 2 rfl) ?_
  refine lv_istore_n (lv' := [(3, .int pw), (0, .ref (ad g 14 0)), (1, .int l0), (2, .int pw)]) hx hb dX7_load_1 rfl hl (by decide) rfl (fun ls hl => ?_)
  refine lv_iconst (v := 0) hx hb dX7_load_2 (by decide) ?_
  refine lv_istore (lv' := [(4, .int 0), (3, .int pw), (0, .ref (ad g 14 0)), (1, .int l0), (2, .int pw)]) hx hb dX7_load_3 hl (by decide) rfl (fun ls hl => ?_)
  refine k_for (nt) (fun k5 H locs ls => ∃ z5 : KD × Int32, z5 = it (f_X7_load_5 D nl nt ng l0 pw) k5 (D, pw) ∧ k_W X n ad L (k_g C g z5.1) fr H ∧ (∀ q ∈ locs, k_B X ≤ q.base) ∧ lv_has ls 6 [(4, .int (nI k5)), (3, .int z5.2), (0, .ref (ad g 14 0)), (1, .int l0), (2, .int pw)] ∧ mWF z5.1 nl nt ng) 0 ⟨(D, pw), rfl, hW, hL, lv_sub hl [0, 1, 2, 3, 4] rfl, hwf⟩ (Nat.zero_le _) (fun k5 hk5 ih5 H locs ls hI => ?_)
  obtain ⟨z5, hz5, hW, hL, hl, hE5⟩ := hI
  refine lv_iload hx hb dX7_load_5 (lv_at hl 0 rfl) ?_
  refine lv_aload_n hx hb dX7_load_7 rfl (lv_at hl 2 rfl) ?_
  refine k_get (K := RX7) (T := TX7) (N := 34) (v := .int (z5.1 14 0 2)) (w := .int (z5.1 14 0 2)) hx hb fX7 hown hK hW 14 0 hm.o (fun _ => rfl) rfl 2 (by decide) (hts (.fieldLink RX7 115 "CrossdockeryModel" "transfers" "I") (by decide +kernel)) rfl rfl rfl dX7_load_8 ?_
  refine lv_icmp_ge (tgt := 108) hx hb dX7_load_11 (by decide) (fun c1 => ?_) (fun c1 => ?_)
  ·
    rw [hE5.t] at c1
    have hge5 := k_nI_ge (by omega) (by omega) c1
    obtain rfl : nt = k5 := by omega
    replace hz5 : z5 = (l_X7_load_5 D nl nt ng l0 pw) := hz5
    subst hz5
    have hl : lv_has ls 6 [(4, .int (nI nt)), (3, .int ((l_X7_load_5 D nl nt ng l0 pw).2)), (0, .ref (ad g 14 0)), (1, .int l0), (2, .int pw)] := hl
    have e9 : (s_X7_load D nl nt ng l0 pw) = (l_X7_load_5 D nl nt ng l0 pw).1 := by unfold s_X7_load; first | done | rfl
    exact k_vret hx hb hr hlocks (⟨rfl, by rw [e9]; exact hW⟩) hL dX7_load_108
  ·
    have hlt5 : k5 < nt := k_nI_nge (by omega) (by omega) (by rw [hE5.t] at c1; exact c1)
    refine lv_aload_n hx hb dX7_load_14 rfl (lv_at hl 2 rfl) ?_
    refine k_get (K := RX7) (T := TX7) (N := 34) (v := .ref (ad g 15 13)) (w := .ref (ad g 15 13)) hx hb fX7 hown hK hW 14 0 hm.o (fun _ => rfl) rfl 20 (by decide) (hts (.fieldLink RX7 51 "CrossdockeryModel" "to" "[I") (by decide +kernel)) rfl rfl rfl dX7_load_15 ?_
    refine lv_iload hx hb dX7_load_18 (lv_at hl 0 rfl) ?_
    refine k_iald (z := 16) (k := k5) hx hb hK hW 15 13 (hm.a (i := 13) (by decide)) (fun _ => rfl) (nI_clamp (by omega)) (vp_in_nI (by omega) (by decide)) (v := (z5.1 15 13 k5)) rfl dX7_load_20 ?_
    refine lv_iload_n hx hb dX7_load_21 rfl (lv_at hl 3 rfl) ?_
    refine lv_icmp_ne (tgt := 102) hx hb dX7_load_22 (by decide) (fun c2 => ?_) (fun c2 => ?_)
    ·
      refine lv_iinc (v := (nI (k5 + 1))) (k := 0) (lv' := [(4, .int (nI (k5 + 1))), (3, .int z5.2), (0, .ref (ad g 14 0)), (1, .int l0), (2, .int pw)]) hx hb dX7_load_102 hl rfl (nI_1 _) (by decide) rfl (fun ls hl => ?_)
      refine lv_goto (tgt := 5) hx hb dX7_load_105 (by decide) ?_
      have e9 : (f_X7_load_5 D nl nt ng l0 pw) k5 z5 = (z5.1, z5.2) := by unfold f_X7_load_5; first | done | (simp only [if_neg c2]; done) | rfl
      exact ih5 _ _ _ hlt5 ⟨(z5.1, z5.2), by rw [it_s, ← hz5, e9], hW, hL, lv_sub hl [0, 1, 2, 3, 4] rfl, hE5⟩
    ·
      refine lv_aload_n hx hb dX7_load_25 rfl (lv_at hl 2 rfl) ?_
      refine k_get (K := RX7) (T := TX7) (N := 34) (v := .ref (ad g 15 16)) (w := .ref (ad g 15 16)) hx hb fX7 hown hK hW 14 0 hm.o (fun _ => rfl) rfl 23 (by decide) (hts (.fieldLink RX7 60 "CrossdockeryModel" "ready" "[I") (by decide +kernel)) rfl rfl rfl dX7_load_26 ?_
      refine lv_iload hx hb dX7_load_29 (lv_at hl 0 rfl) ?_
      refine k_iald (z := 16) (k := k5) hx hb hK hW 15 16 (hm.a (i := 16) (by decide)) (fun _ => rfl) (nI_clamp (by omega)) (vp_in_nI (by omega) (by decide)) (v := (z5.1 15 16 k5)) rfl dX7_load_31 ?_
      refine lv_if_eq (tgt := 102) hx hb dX7_load_32 (by decide) (fun c3 => ?_) (fun c3 => ?_)
      ·
        refine lv_iinc (v := (nI (k5 + 1))) (k := 0) (lv' := [(4, .int (nI (k5 + 1))), (3, .int z5.2), (0, .ref (ad g 14 0)), (1, .int l0), (2, .int pw)]) hx hb dX7_load_102 hl rfl (nI_1 _) (by decide) rfl (fun ls hl => ?_)
        refine lv_goto (tgt := 5) hx hb dX7_load_105 (by decide) ?_
        have e9 : (f_X7_load_5 D nl nt ng l0 pw) k5 z5 = (z5.1, z5.2) := by unfold f_X7_load_5; first | done | (simp only [if_pos c2, if_pos c3]; done) | rfl
        exact ih5 _ _ _ hlt5 ⟨(z5.1, z5.2), by rw [it_s, ← hz5, e9], hW, hL, lv_sub hl [0, 1, 2, 3, 4] rfl, hE5⟩
      ·
        refine lv_iload_n hx hb dX7_load_35 rfl (lv_at hl 1 rfl) ?_
        refine lv_if_ne (tgt := 42) hx hb dX7_load_36 (by decide) (fun c4 => ?_) (fun c4 => ?_)
        ·
          refine lv_iload_n hx hb dX7_load_42 rfl (lv_at hl 1 rfl) ?_
          refine lv_aload_n hx hb dX7_load_43 rfl (lv_at hl 2 rfl) ?_
          refine k_get (K := RX7) (T := TX7) (N := 34) (v := .ref (ad g 15 16)) (w := .ref (ad g 15 16)) hx hb fX7 hown hK hW 14 0 hm.o (fun _ => rfl) rfl 23 (by decide) (hts (.fieldLink RX7 60 "CrossdockeryModel" "ready" "[I") (by decide +kernel)) rfl rfl rfl dX7_load_44 ?_
          refine lv_iload hx hb dX7_load_47 (lv_at hl 0 rfl) ?_
          refine k_iald (z := 16) (k := k5) hx hb hK hW 15 16 (hm.a (i := 16) (by decide)) (fun _ => rfl) (nI_clamp (by omega)) (vp_in_nI (by omega) (by decide)) (v := (z5.1 15 16 k5)) rfl dX7_load_49 ?_
          refine k_join (pc' := 64) (fun H locs ls st => k_W X n ad L (k_g C g z5.1) fr H ∧ (∀ q ∈ locs, k_B X ≤ q.base) ∧ lv_has ls 6 [(4, .int (nI k5)), (3, .int z5.2), (0, .ref (ad g 14 0)), (1, .int l0), (2, .int pw)] ∧ st = [.int (j_X7_load_64 D nl nt ng l0 pw k5 z5)]) (fun H locs ls st hJ => ?_) (fun join64 => ?_)
          ·
            obtain ⟨hW, hL, hl, rfl⟩ := hJ
            refine lv_istore (lv' := [(5, .int (j_X7_load_64 D nl nt ng l0 pw k5 z5)), (4, .int (nI k5)), (3, .int z5.2), (0, .ref (ad g 14 0)), (1, .int l0), (2, .int pw)]) hx hb dX7_load_64 hl (by decide) rfl (fun ls hl => ?_)
            refine lv_aload_n hx hb dX7_load_66 rfl (lv_at hl 3 rfl) ?_
            refine k_get (K := RX7) (T := TX7) (N := 34) (v := .ref (ad g 15 16)) (w := .ref (ad g 15 16)) hx hb fX7 hown hK hW 14 0 hm.o (fun _ => rfl) rfl 23 (by decide) (hts (.fieldLink RX7 60 "CrossdockeryModel" "ready" "[I") (by decide +kernel)) rfl rfl rfl dX7_load_67 ?_
            refine lv_iload hx hb dX7_load_70 (lv_at hl 1 rfl) ?_
            refine lv_dup2_11 hx hb dX7_load_72 rfl rfl ?_
            refine k_iald (z := 16) (k := k5) hx hb hK hW 15 16 (hm.a (i := 16) (by decide)) (fun _ => rfl) (nI_clamp (by omega)) (vp_in_nI (by omega) (by decide)) (v := (z5.1 15 16 k5)) rfl dX7_load_73 ?_
            refine lv_iload hx hb dX7_load_74 (lv_at hl 0 rfl) ?_
            refine lv_isub hx hb dX7_load_76 ?_
            refine k_iast (z := 16) (k := k5) hx hb hK hW hL 15 16 (hm.a (i := 16) (by decide)) (fun _ => rfl) (nI_clamp (by omega)) (vp_in_nI (by omega) (by decide)) dX7_load_77 (fun H locs hW hL => ?_)
            refine lv_aload_n hx hb dX7_load_78 rfl (lv_at hl 3 rfl) ?_
            refine k_get (K := RX7) (T := TX7) (N := 34) (v := .ref (ad g 15 17)) (w := .ref (ad g 15 17)) hx hb fX7 hown hK hW 14 0 hm.o (fun _ => rfl) rfl 24 (by decide) (hts (.fieldLink RX7 63 "CrossdockeryModel" "loaded" "[I") (by decide +kernel)) rfl rfl rfl dX7_load_79 ?_
            refine lv_iload hx hb dX7_load_82 (lv_at hl 1 rfl) ?_
            refine lv_dup2_11 hx hb dX7_load_84 rfl rfl ?_
            refine k_iald (z := 16) (k := k5) hx hb hK hW 15 17 (hm.a (i := 17) (by decide)) (fun _ => rfl) (nI_clamp (by omega)) (vp_in_nI (by omega) (by decide)) (v := (z5.1 15 17 k5)) (k_di rfl) dX7_load_85 ?_
            refine lv_iload hx hb dX7_load_86 (lv_at hl 0 rfl) ?_
            refine lv_iadd hx hb dX7_load_88 ?_
            refine k_iast (z := 16) (k := k5) hx hb hK hW hL 15 17 (hm.a (i := 17) (by decide)) (fun _ => rfl) (nI_clamp (by omega)) (vp_in_nI (by omega) (by decide)) dX7_load_89 (fun H locs hW hL => ?_)
            refine lv_iload_n hx hb dX7_load_90 rfl (lv_at hl 2 rfl) ?_
            refine lv_iload hx hb dX7_load_91 (lv_at hl 0 rfl) ?_
            refine lv_isub hx hb dX7_load_93 ?_
            refine lv_istore_n (lv' := [(3, .int (z5.2 - (j_X7_load_64 D nl nt ng l0 pw k5 z5))), (5, .int (j_X7_load_64 D nl nt ng l0 pw k5 z5)), (4, .int (nI k5)), (0, .ref (ad g 14 0)), (1, .int l0), (2, .int pw)]) hx hb dX7_load_94 rfl hl (by decide) rfl (fun ls hl => ?_)
            refine lv_aload_n hx hb dX7_load_95 rfl (lv_at hl 3 rfl) ?_
            refine k_get (K := RX7) (T := TX7) (N := 34) (v := .ref (ad g 15 1)) (w := .ref (ad g 15 1)) hx hb fX7 hown hK hW 14 0 hm.o (fun _ => rfl) rfl 8 (by decide) (hts (.fieldLink RX7 13 "CrossdockeryModel" "isHandled" "[Z") (by decide +kernel)) rfl rfl rfl dX7_load_96 ?_
            refine lv_iload_n hx hb dX7_load_99 rfl (lv_at hl 4 rfl) ?_
            refine lv_iconst (v := 1) hx hb dX7_load_100 (by decide) ?_
            refine k_zast (z := 8) (k := (l0.toNatClampNeg)) hx hb hK hW hL 15 1 (hm.a (i := 1) (by decide)) (fun _ => rfl) (by decide) rfl hv_l0 dX7_load_101 (fun H locs hW hL => ?_)
            refine lv_iinc (v := (nI (k5 + 1))) (k := 2) (lv' := [(4, .int (nI (k5 + 1))), (3, .int (z5.2 - (j_X7_load_64 D nl nt ng l0 pw k5 z5))), (5, .int (j_X7_load_64 D nl nt ng l0 pw k5 z5)), (0, .ref (ad g 14 0)), (1, .int l0), (2, .int pw)]) hx hb dX7_load_102 hl rfl (nI_1 _) (by decide) rfl (fun ls hl => ?_)
            refine lv_goto (tgt := 5) hx hb dX7_load_105 (by decide) ?_
            have e9 : (f_X7_load_5 D nl nt ng l0 pw) k5 z5 = ((k_d (k_d (k_d z5.1 15 16 k5 ((z5.1 15 16 k5) - (j_X7_load_64 D nl nt ng l0 pw k5 z5))) 15 17 k5 ((z5.1 15 17 k5) + (j_X7_load_64 D nl nt ng l0 pw k5 z5))) 15 1 (l0.toNatClampNeg) 1), (z5.2 - (j_X7_load_64 D nl nt ng l0 pw k5 z5))) := by unfold f_X7_load_5; first | done | (simp only [if_pos c2, if_neg c3, if_neg c4]; done) | rfl
            exact ih5 _ _ _ hlt5 ⟨((k_d (k_d (k_d z5.1 15 16 k5 ((z5.1 15 16 k5) - (j_X7_load_64 D nl nt ng l0 pw k5 z5))) 15 17 k5 ((z5.1 15 17 k5) + (j_X7_load_64 D nl nt ng l0 pw k5 z5))) 15 1 (l0.toNatClampNeg) 1), (z5.2 - (j_X7_load_64 D nl nt ng l0 pw k5 z5))), by rw [it_s, ← hz5, e9], hW, hL, lv_sub hl [0, 1, 3, 4, 5] rfl, (((hE5.put15 (by decide)).put15 (by decide)).put15 (by decide))⟩
          ·
            refine lv_icmp_ge (tgt := 57) hx hb dX7_load_50 (by decide) (fun c5 => ?_) (fun c5 => ?_)
            ·
              refine lv_aload_n hx hb dX7_load_57 rfl (lv_at hl 2 rfl) ?_
              refine k_get (K := RX7) (T := TX7) (N := 34) (v := .ref (ad g 15 16)) (w := .ref (ad g 15 16)) hx hb fX7 hown hK hW 14 0 hm.o (fun _ => rfl) rfl 23 (by decide) (hts (.fieldLink RX7 60 "CrossdockeryModel" "ready" "[I") (by decide +kernel)) rfl rfl rfl dX7_load_58 ?_
              refine lv_iload hx hb dX7_load_61 (lv_at hl 0 rfl) ?_
              refine k_iald (z := 16) (k := k5) hx hb hK hW 15 16 (hm.a (i := 16) (by decide)) (fun _ => rfl) (nI_clamp (by omega)) (vp_in_nI (by omega) (by decide)) (v := (z5.1 15 16 k5)) rfl dX7_load_63 ?_
              have e9 : (j_X7_load_64 D nl nt ng l0 pw k5 z5) = (z5.1 15 16 k5) := by unfold j_X7_load_64; first | done | (simp only [if_pos c5]; done) | rfl
              exact join64 _ _ _ _ (by rw [e9]; exact ⟨hW, hL, lv_sub hl [0, 1, 2, 3, 4] rfl, rfl⟩)
            ·
              refine lv_iload_n hx hb dX7_load_53 rfl (lv_at hl 1 rfl) ?_
              refine lv_goto (tgt := 64) hx hb dX7_load_54 (by decide) ?_
              have e9 : (j_X7_load_64 D nl nt ng l0 pw k5 z5) = z5.2 := by unfold j_X7_load_64; first | done | (simp only [if_neg c5]; done) | rfl
              exact join64 _ _ _ _ (by rw [e9]; exact ⟨hW, hL, lv_sub hl [0, 1, 2, 3, 4] rfl, rfl⟩)
        ·
          refine lv_goto (tgt := 102) hx hb dX7_load_39 (by decide) ?_
          refine lv_iinc (v := (nI (k5 + 1))) (k := 0) (lv' := [(4, .int (nI (k5 + 1))), (3, .int z5.2), (0, .ref (ad g 14 0)), (1, .int l0), (2, .int pw)]) hx hb dX7_load_102 hl rfl (nI_1 _) (by decide) rfl (fun ls hl => ?_)
          refine lv_goto (tgt := 5) hx hb dX7_load_105 (by decide) ?_
          have e9 : (f_X7_load_5 D nl nt ng l0 pw) k5 z5 = (z5.1, z5.2) := by unfold f_X7_load_5; first | done | (simp only [if_pos c2, if_neg c3, if_pos c4]; done) | rfl
          exact ih5 _ _ _ hlt5 ⟨(z5.1, z5.2), by rw [it_s, ← hz5, e9], hW, hL, lv_sub hl [0, 1, 2, 3, 4] rfl, hE5⟩
