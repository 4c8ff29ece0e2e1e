theorem k_lt_of_ne {x y : Int32} {a N : Nat} (hx : x = nI a) (hy : y = nI N) (ha : a ≤ N) (h : ¬ x = y) : a < N := by
  rcases Nat.lt_or_ge a N with q | q
  · exact q
  · exact absurd (by rw [hx, hy, Nat.le_antisymm ha q]) h
theorem s_isIn_0 {x lo hi : Int32} (h : ¬ s_X7_isIn x lo hi = 0) : ¬ x < lo ∧ ¬ x > hi := by
  unfold s_X7_isIn at h
  split at h
  · exact absurd rfl h
  · next h1 =>
    split at h
    · exact absurd rfl h
    · next h2 => exact ⟨h1, h2⟩
theorem vp_in_of_isIn {x : Int32} {N : Nat} (hN : N < 2 ^ 31) (h : ¬ s_X7_isIn x 0 (nI N - 1) = 0) : vp_in x N := by
  obtain ⟨h1, h2⟩ := s_isIn_0 h
  rcases Nat.eq_zero_or_pos N with h0 | h0
  · subst h0
    exfalso
    obtain ⟨j, hj, rfl⟩ := nI_of h1
    refine h2 ?_
    have e : nI 0 - 1 = -1 := by decide
    rw [e]
    show (-1 : Int32) < nI j
    rw [Int32.lt_iff_toInt_lt, nI_toInt hj]
    have : (-1 : Int32).toInt = -1 := by decide
    omega
  · exact vp_in_toI hN h1 h2 h0
theorem mNoL_in {D : KD} {nl nt ng : Nat} (h : mWF D nl nt ng) {x : Int32} (hc : j_X7_noLorry_20 D x = 0) : vp_in x nl := by
  have h8 := h.l8
  unfold j_X7_noLorry_20 at hc
  rw [h.l] at hc
  split at hc
  · exact absurd hc (by decide)
  · next q => exact vp_in_of_isIn (by omega) q
theorem mNoT_in {D : KD} {nl nt ng : Nat} (h : mWF D nl nt ng) {x : Int32} (hc : j_X7_noTransfer_20 D x = 0) : vp_in x nt := by
  have h8 := h.t16
  unfold j_X7_noTransfer_20 at hc
  rw [h.t] at hc
  split at hc
  · exact absurd hc (by decide)
  · next q => exact vp_in_of_isIn (by omega) q
theorem mNoD_in {D : KD} {x : Int32} (hc : j_X7_noDoor_15 D x = 0) : vp_in x 4 := by
  unfold j_X7_noDoor_15 at hc
  split at hc
  · exact absurd hc (by decide)
  · next q => exact vp_in_of_isIn (N := 4) (by decide) q
theorem s_noLorry_eq (D : KD) (x : Int32) : s_X7_noLorry D x = (k_d D 14 0 0 (j_X7_noLorry_20 D x), j_X7_noLorry_20 D x) := by
  have h : j_X7_noLorry_20 D x = 0 ∨ j_X7_noLorry_20 D x = 1 := by
    unfold j_X7_noLorry_20
    split
    · exact Or.inr rfl
    · exact Or.inl rfl
  unfold s_X7_noLorry
  rcases h with h | h <;> rw [h] <;> rfl
theorem s_noTransfer_eq (D : KD) (x : Int32) : s_X7_noTransfer D x = (k_d D 14 0 0 (j_X7_noTransfer_20 D x), j_X7_noTransfer_20 D x) := by
  have h : j_X7_noTransfer_20 D x = 0 ∨ j_X7_noTransfer_20 D x = 1 := by
    unfold j_X7_noTransfer_20
    split
    · exact Or.inr rfl
    · exact Or.inl rfl
  unfold s_X7_noTransfer
  rcases h with h | h <;> rw [h] <;> rfl
theorem s_noDoor_eq (D : KD) (x : Int32) : s_X7_noDoor D x = (k_d D 14 0 0 (j_X7_noDoor_15 D x), j_X7_noDoor_15 D x) := by
  have h : j_X7_noDoor_15 D x = 0 ∨ j_X7_noDoor_15 D x = 1 := by
    unfold j_X7_noDoor_15
    split
    · exact Or.inr rfl
    · exact Or.inl rfl
  unfold s_X7_noDoor
  rcases h with h | h <;> rw [h] <;> rfl
theorem c_X7_noLorry2 (X : kX) (l : Launch) {n : Nat → Nat → Nat} {ad L : Nat → Nat → Nat → Nat} {C : Nat → Nat → Nat → Nat → Int32} {fr : Nat → Option Cell} {g : Nat} (hm : k_mod n g) (D : KD) (x : Int32) : k_M X l yX7_noLorry wsX7_noLorry ({ frames := 2, cells := 0, slots := 0, locals := 34 }) [.ref (ad g 14 0), .int x] (k_W X n ad L (k_g C g D) fr) (fun v H => v = some (.int (j_X7_noLorry_20 D x)) ∧ k_W X n ad L (k_g C g (k_d D 14 0 0 (j_X7_noLorry_20 D x))) fr H) 0 0 := by
  have h := c_X7_noLorry X l hm D x (ad := ad) (L := L) (C := C) (fr := fr)
  rw [s_noLorry_eq] at h
  exact h
theorem c_X7_noTransfer2 (X : kX) (l : Launch) {n : Nat → Nat → Nat} {ad L : Nat → Nat → Nat → Nat} {C : Nat → Nat → Nat → Nat → Int32} {fr : Nat → Option Cell} {g : Nat} (hm : k_mod n g) (D : KD) (x : Int32) : k_M X l yX7_noTransfer wsX7_noTransfer ({ frames := 2, cells := 0, slots := 0, locals := 34 }) [.ref (ad g 14 0), .int x] (k_W X n ad L (k_g C g D) fr) (fun v H => v = some (.int (j_X7_noTransfer_20 D x)) ∧ k_W X n ad L (k_g C g (k_d D 14 0 0 (j_X7_noTransfer_20 D x))) fr H) 0 0 := by
  have h := c_X7_noTransfer X l hm D x (ad := ad) (L := L) (C := C) (fr := fr)
  rw [s_noTransfer_eq] at h
  exact h
theorem c_X7_noDoor2 (X : kX) (l : Launch) {n : Nat → Nat → Nat} {ad L : Nat → Nat → Nat → Nat} {C : Nat → Nat → Nat → Nat → Int32} {fr : Nat → Option Cell} {g : Nat} (hm : k_mod n g) (D : KD) (x : Int32) : k_M X l yX7_noDoor wsX7_noDoor ({ frames := 2, cells := 0, slots := 0, locals := 34 }) [.ref (ad g 14 0), .int x] (k_W X n ad L (k_g C g D) fr) (fun v H => v = some (.int (j_X7_noDoor_15 D x)) ∧ k_W X n ad L (k_g C g (k_d D 14 0 0 (j_X7_noDoor_15 D x))) fr H) 0 0 := by
  have h := c_X7_noDoor X l hm D x (ad := ad) (L := L) (C := C) (fr := fr)
  rw [s_noDoor_eq] at h
  exact h
theorem c_X7_fail2 (X : kX) (l : Launch) {n : Nat → Nat → Nat} {ad L : Nat → Nat → Nat → Nat} {C : Nat → Nat → Nat → Nat → Int32} {fr : Nat → Option Cell} {g : Nat} (hm : k_mod n g) (D : KD) (x : Int32) : k_M X l yX7_fail wsX7_fail ({ frames := 1, cells := 0, slots := 0, locals := 12 }) [.ref (ad g 14 0), .int x] (k_W X n ad L (k_g C g D) fr) (fun v H => v = some (.int 0) ∧ k_W X n ad L (k_g C g (k_d D 14 0 0 x)) fr H) 0 0 := c_X7_fail X l hm D x

def s_X7_addLorry (D : KD) (nl : Nat) (nt : Nat) (ng : Nat) (br : Int32) (mi : Int32) (ce : Int32) : KD × Int32 := (if (s_X7_isIn mi 0 1999) = 0 then (k_d D 14 0 0 1, 0) else (if (s_X7_isIn ce 1 99) = 0 then (k_d D 14 0 0 1, 0) else (if (D 14 0 1) = 8 then (k_d D 14 0 0 2, 0) else (k_d (k_d (k_d (k_d (k_d (k_d (k_d (k_d D 14 0 0 0) 15 0 nl br) 15 2 nl mi) 15 3 nl ce) 15 4 nl (-1)) 15 11 nl 101) 15 10 nl (-1)) 14 0 1 ((D 14 0 1) + 1), D 14 0 1))))
set_option maxHeartbeats 4000000 in
set_option maxRecDepth 100000 in
theorem c_X7_addLorry (X : kX) (l : Launch) {n : Nat → Nat → Nat} {ad L : Nat → Nat → Nat → Nat} {C : Nat → Nat → Nat → Nat → Int32} {fr : Nat → Option Cell} {g : Nat} (hm : k_mod n g) (D : KD) (br : Int32) (mi : Int32) (ce : Int32) {nl nt ng : Nat} (hwf : mWF D nl nt ng) (hbr : narrow .boolean (.int br) = .int br) : k_M X l yX7_addLorry wsX7_addLorry ({ frames := 2, cells := 0, slots := 0, locals := 34 }) [.ref (ad g 14 0), .int br, .int mi, .int ce] (k_W X n ad L (k_g C g D) fr) (fun v H => v = some (.int ((s_X7_addLorry D nl nt ng br mi ce).2)) ∧ k_W X n ad L (k_g C g ((s_X7_addLorry D nl nt ng br mi ce).1)) fr H) 0 0 := by
  refine k_M.of (cc := cX7_addLorry) (maxL := 4) (ret := (some .int)) (by decide) rfl (Nat.le_of_ble_eq_true rfl) ?_
  intro p e s m args below meth c ls hx hb hr hml hown hts hlocks hnm hK hW hl
  have hL : ∀ q ∈ ([] : List Loc), k_B X ≤ q.base := fun _ h => nomatch h
  have hl : lv_has ls 4 [(0, .ref (ad g 14 0)), (1, .int br), (2, .int mi), (3, .int ce)] := hl
  have fX7 : ∀ w ∈ u_ws RX7 TX7 34, w.before args s = true := fun w h => hts w ((by decide +kernel : ∀ w ∈ u_ws RX7 TX7 34, w ∈ wsX7_addLorry) w h)
  have hl8 := hwf.l8
  have ht16 := hwf.t16
  have hg4 := hwf.g4
  refine lv_iload_n hx hb dX7_addLorry_0 rfl (lv_at hl 2 rfl) ?_
  refine lv_iconst (v := 0) hx hb dX7_addLorry_1 (by decide) ?_
  refine lv_sipush (v := 1999) hx hb dX7_addLorry_2 (by decide) ?_
  refine k_callS (As := [.int mi, .int 0, .int 1999]) (rest := []) ⟨hx, hb, hml, hown, hts⟩ hK (c_X7_isIn X l (k_W X n ad L (k_g C g D) fr) mi 0 1999) (va_cwS 3 hts gX7_addLorry_X7_isIn rfl rfl rfl (by decide +kernel) ⟨Nat.le_of_ble_eq_true rfl, Nat.le_of_ble_eq_true rfl⟩) hW rfl hl.1 rfl (Nat.le_of_ble_eq_true rfl) dX7_addLorry_5 ⟨Nat.le_of_ble_eq_true rfl, Nat.le_of_ble_eq_true rfl⟩ hL (fun v9 H locs hp hL => ?_)
  obtain ⟨rfl, hW⟩ := hp
  refine lv_if_eq (tgt := 21) hx hb dX7_addLorry_8 (by decide) (fun c1 => ?_) (fun c1 => ?_)
  ·
    refine lv_aload_n hx hb dX7_addLorry_21 rfl (lv_at hl 0 rfl) ?_
    refine lv_iconst (v := 1) hx hb dX7_addLorry_22 (by decide) ?_
    refine k_callV (As := [.int 1]) (rest := []) ⟨hx, hb, hml, hown, hts⟩ hK (c_X7_fail2 X l hm D 1) (cwV 1 hts gX7_addLorry_X7_fail rfl rfl rfl (by decide +kernel) ⟨Nat.le_of_ble_eq_true rfl, Nat.le_of_ble_eq_true rfl⟩) (k_recv hK hW 14 0 hm.o (fun _ => rfl) rfl) hW rfl hl.1 rfl (Nat.le_of_ble_eq_true rfl) dX7_addLorry_23 ⟨Nat.le_of_ble_eq_true rfl, Nat.le_of_ble_eq_true rfl⟩ hL (fun v9 H locs hp hL => ?_)
    obtain ⟨rfl, hW⟩ := hp
    have e9 : (s_X7_addLorry D nl nt ng br mi ce) = (k_d D 14 0 0 1, 0) := by unfold s_X7_addLorry; first | done | (simp only [if_pos c1]; done) | rfl
    exact k_iret hx hb hr hlocks (⟨by rw [e9], by rw [e9]; exact hW⟩) hL dX7_addLorry_26
  ·
    refine lv_iload_n hx hb dX7_addLorry_11 rfl (lv_at hl 3 rfl) ?_
    refine lv_iconst (v := 1) hx hb dX7_addLorry_12 (by decide) ?_
    refine lv_bipush (v := 99) hx hb dX7_addLorry_13 (by decide) ?_
    refine k_callS (As := [.int ce, .int 1, .int 99]) (rest := []) ⟨hx, hb, hml, hown, hts⟩ hK (c_X7_isIn X l (k_W X n ad L (k_g C g D) fr) ce 1 99) (va_cwS 3 hts gX7_addLorry_X7_isIn rfl rfl rfl (by decide +kernel) ⟨Nat.le_of_ble_eq_true rfl, Nat.le_of_ble_eq_true rfl⟩) hW rfl hl.1 rfl (Nat.le_of_ble_eq_true rfl) dX7_addLorry_15 ⟨Nat.le_of_ble_eq_true rfl, Nat.le_of_ble_eq_true rfl⟩ hL (fun v9 H locs hp hL => ?_)
    obtain ⟨rfl, hW⟩ := hp
    refine lv_if_ne (tgt := 27) hx hb dX7_addLorry_18 (by decide) (fun c2 => ?_) (fun c2 => ?_)
    ·
      refine lv_aload_n hx hb dX7_addLorry_27 rfl (lv_at hl 0 rfl) ?_
      refine k_get (K := RX7) (T := TX7) (N := 34) (v := .int (D 14 0 1)) (w := .int (D 14 0 1)) hx hb fX7 hown hK hW 14 0 hm.o (fun _ => rfl) rfl 1 (by decide) (hts (.fieldLink RX7 97 "CrossdockeryModel" "lorries" "I") (by decide +kernel)) rfl rfl rfl dX7_addLorry_28 ?_
      refine lv_bipush (v := 8) hx hb dX7_addLorry_31 (by decide) ?_
      refine lv_icmp_ne (tgt := 42) hx hb dX7_addLorry_33 (by decide) (fun c3 => ?_) (fun c3 => ?_)
      ·
        have hlt_nl : nl < 8 := k_lt_of_ne hwf.l (rfl : (8 : Int32) = nI 8) hl8 c3
        refine lv_aload_n hx hb dX7_addLorry_42 rfl (lv_at hl 0 rfl) ?_
        refine lv_iconst (v := 0) hx hb dX7_addLorry_43 (by decide) ?_
        refine k_put (K := RX7) (T := TX7) (N := 34) (x := 0) hx hb fX7 tyX7 tyX7_ok nmX7 hown hK hW hL 14 0 hm.o (fun _ => rfl) rfl 0 (by decide) (hts (.fieldLink RX7 93 "CrossdockeryModel" "thrown" "I") (by decide +kernel)) rfl rfl rfl rfl (fun _ => Nat.le_of_ble_eq_true rfl) (fun _ _ => rfl) dX7_addLorry_44 (fun H locs hW hL => ?_)
        refine lv_aload_n hx hb dX7_addLorry_47 rfl (lv_at hl 0 rfl) ?_
        refine k_get (K := RX7) (T := TX7) (N := 34) (v := .ref (ad g 15 0)) (w := .ref (ad g 15 0)) hx hb fX7 hown hK hW 14 0 hm.o (fun _ => rfl) rfl 7 (by decide) (hts (.fieldLink RX7 7 "CrossdockeryModel" "isBringing" "[Z") (by decide +kernel)) rfl rfl rfl dX7_addLorry_48 ?_
        refine lv_aload_n hx hb dX7_addLorry_51 rfl (lv_at hl 0 rfl) ?_
        refine k_get (K := RX7) (T := TX7) (N := 34) (v := .int ((k_d D 14 0 0 0) 14 0 1)) (w := .int (D 14 0 1)) hx hb fX7 hown hK hW 14 0 hm.o (fun _ => rfl) rfl 1 (by decide) (hts (.fieldLink RX7 97 "CrossdockeryModel" "lorries" "I") (by decide +kernel)) rfl rfl (congrArg Value.int (k_dk rfl)) dX7_addLorry_52 ?_
        refine lv_iload_n hx hb dX7_addLorry_55 rfl (lv_at hl 1 rfl) ?_
        refine k_zast (z := 8) (k := nl) hx hb hK hW hL 15 0 (hm.a (i := 0) (by decide)) (fun _ => rfl) hbr (by rw [hwf.l]; exact nI_clamp (by omega)) (by rw [hwf.l]; exact vp_in_nI (by omega) (by decide)) dX7_addLorry_56 (fun H locs hW hL => ?_)
        refine lv_aload_n hx hb dX7_addLorry_57 rfl (lv_at hl 0 rfl) ?_
        refine k_get (K := RX7) (T := TX7) (N := 34) (v := .ref (ad g 15 2)) (w := .ref (ad g 15 2)) hx hb fX7 hown hK hW 14 0 hm.o (fun _ => rfl) rfl 9 (by decide) (hts (.fieldLink RX7 16 "CrossdockeryModel" "planned" "[I") (by decide +kernel)) rfl rfl rfl dX7_addLorry_58 ?_
        refine lv_aload_n hx hb dX7_addLorry_61 rfl (lv_at hl 0 rfl) ?_
        refine k_get (K := RX7) (T := TX7) (N := 34) (v := .int ((k_d (k_d D 14 0 0 0) 15 0 nl br) 14 0 1)) (w := .int (D 14 0 1)) hx hb fX7 hown hK hW 14 0 hm.o (fun _ => rfl) rfl 1 (by decide) (hts (.fieldLink RX7 97 "CrossdockeryModel" "lorries" "I") (by decide +kernel)) rfl rfl (congrArg Value.int ((k_dr rfl).trans (k_dk rfl))) dX7_addLorry_62 ?_
        refine lv_iload_n hx hb dX7_addLorry_65 rfl (lv_at hl 2 rfl) ?_
        refine k_iast (z := 8) (k := nl) hx hb hK hW hL 15 2 (hm.a (i := 2) (by decide)) (fun _ => rfl) (by rw [hwf.l]; exact nI_clamp (by omega)) (by rw [hwf.l]; exact vp_in_nI (by omega) (by decide)) dX7_addLorry_66 (fun H locs hW hL => ?_)
        refine lv_aload_n hx hb dX7_addLorry_67 rfl (lv_at hl 0 rfl) ?_
        refine k_get (K := RX7) (T := TX7) (N := 34) (v := .ref (ad g 15 3)) (w := .ref (ad g 15 3)) hx hb fX7 hown hK hW 14 0 hm.o (fun _ => rfl) rfl 10 (by decide) (hts (.fieldLink RX7 20 "CrossdockeryModel" "rate" "[I") (by decide +kernel)) rfl rfl rfl dX7_addLorry_68 ?_
        refine lv_aload_n hx hb dX7_addLorry_71 rfl (lv_at hl 0 rfl) ?_
        refine k_get (K := RX7) (T := TX7) (N := 34) (v := .int ((k_d (k_d (k_d D 14 0 0 0) 15 0 nl br) 15 2 nl mi) 14 0 1)) (w := .int (D 14 0 1)) hx hb fX7 hown hK hW 14 0 hm.o (fun _ => rfl) rfl 1 (by decide) (hts (.fieldLink RX7 97 "CrossdockeryModel" "lorries" "I") (by decide +kernel)) rfl rfl (congrArg Value.int ((k_dr rfl).trans ((k_dr rfl).trans (k_dk rfl)))) dX7_addLorry_72 ?_
        refine lv_iload_n hx hb dX7_addLorry_75 rfl (lv_at hl 3 rfl) ?_
        refine k_iast (z := 8) (k := nl) hx hb hK hW hL 15 3 (hm.a (i := 3) (by decide)) (fun _ => rfl) (by rw [hwf.l]; exact nI_clamp (by omega)) (by rw [hwf.l]; exact vp_in_nI (by omega) (by decide)) dX7_addLorry_76 (fun H locs hW hL => ?_)
        refine lv_aload_n hx hb dX7_addLorry_77 rfl (lv_at hl 0 rfl) ?_
        refine k_get (K := RX7) (T := TX7) (N := 34) (v := .ref (ad g 15 4)) (w := .ref (ad g 15 4)) hx hb fX7 hown hK hW 14 0 hm.o (fun _ => rfl) rfl 11 (by decide) (hts (.fieldLink RX7 23 "CrossdockeryModel" "door" "[I") (by decide +kernel)) rfl rfl rfl dX7_addLorry_78 ?_
        refine lv_aload_n hx hb dX7_addLorry_81 rfl (lv_at hl 0 rfl) ?_
        refine k_get (K := RX7) (T := TX7) (N := 34) (v := .int ((k_d (k_d (k_d (k_d D 14 0 0 0) 15 0 nl br) 15 2 nl mi) 15 3 nl ce) 14 0 1)) (w := .int (D 14 0 1)) hx hb fX7 hown hK hW 14 0 hm.o (fun _ => rfl) rfl 1 (by decide) (hts (.fieldLink RX7 97 "CrossdockeryModel" "lorries" "I") (by decide +kernel)) rfl rfl (congrArg Value.int ((k_dr rfl).trans ((k_dr rfl).trans ((k_dr rfl).trans (k_dk rfl))))) dX7_addLorry_82 ?_
        refine lv_iconst (v := (-1)) hx hb dX7_addLorry_85 (by decide) ?_
        refine k_iast (z := 8) (k := nl) hx hb hK hW hL 15 4 (hm.a (i := 4) (by decide)) (fun _ => rfl) (by rw [hwf.l]; exact nI_clamp (by omega)) (by rw [hwf.l]; exact vp_in_nI (by omega) (by decide)) dX7_addLorry_86 (fun H locs hW hL => ?_)
        refine lv_aload_n hx hb dX7_addLorry_87 rfl (lv_at hl 0 rfl) ?_
        refine k_get (K := RX7) (T := TX7) (N := 34) (v := .ref (ad g 15 11)) (w := .ref (ad g 15 11)) hx hb fX7 hown hK hW 14 0 hm.o (fun _ => rfl) rfl 18 (by decide) (hts (.fieldLink RX7 44 "CrossdockeryModel" "state" "[C") (by decide +kernel)) rfl rfl rfl dX7_addLorry_88 ?_
        refine lv_aload_n hx hb dX7_addLorry_91 rfl (lv_at hl 0 rfl) ?_
        refine k_get (K := RX7) (T := TX7) (N := 34) (v := .int ((k_d (k_d (k_d (k_d (k_d D 14 0 0 0) 15 0 nl br) 15 2 nl mi) 15 3 nl ce) 15 4 nl (-1)) 14 0 1)) (w := .int (D 14 0 1)) hx hb fX7 hown hK hW 14 0 hm.o (fun _ => rfl) rfl 1 (by decide) (hts (.fieldLink RX7 97 "CrossdockeryModel" "lorries" "I") (by decide +kernel)) rfl rfl (congrArg Value.int ((k_dr rfl).trans ((k_dr rfl).trans ((k_dr rfl).trans ((k_dr rfl).trans (k_dk rfl)))))) dX7_addLorry_92 ?_
        refine lv_bipush (v := 101) hx hb dX7_addLorry_95 (by decide) ?_
        refine k_cast (z := 8) (k := nl) hx hb hK hW hL 15 11 (hm.a (i := 11) (by decide)) (fun _ => rfl) (by decide) (by rw [hwf.l]; exact nI_clamp (by omega)) (by rw [hwf.l]; exact vp_in_nI (by omega) (by decide)) dX7_addLorry_97 (fun H locs hW hL => ?_)
        refine lv_aload_n hx hb dX7_addLorry_98 rfl (lv_at hl 0 rfl) ?_
        refine k_get (K := RX7) (T := TX7) (N := 34) (v := .ref (ad g 15 10)) (w := .ref (ad g 15 10)) hx hb fX7 hown hK hW 14 0 hm.o (fun _ => rfl) rfl 17 (by decide) (hts (.fieldLink RX7 41 "CrossdockeryModel" "lastWait" "[I") (by decide +kernel)) rfl rfl rfl dX7_addLorry_99 ?_
        refine lv_aload_n hx hb dX7_addLorry_102 rfl (lv_at hl 0 rfl) ?_
        refine k_get (K := RX7) (T := TX7) (N := 34) (v := .int ((k_d (k_d (k_d (k_d (k_d (k_d D 14 0 0 0) 15 0 nl br) 15 2 nl mi) 15 3 nl ce) 15 4 nl (-1)) 15 11 nl 101) 14 0 1)) (w := .int (D 14 0 1)) hx hb fX7 hown hK hW 14 0 hm.o (fun _ => rfl) rfl 1 (by decide) (hts (.fieldLink RX7 97 "CrossdockeryModel" "lorries" "I") (by decide +kernel)) rfl rfl (congrArg Value.int ((k_dr rfl).trans ((k_dr rfl).trans ((k_dr rfl).trans ((k_dr rfl).trans ((k_dr rfl).trans (k_dk rfl))))))) dX7_addLorry_103 ?_
        refine lv_iconst (v := (-1)) hx hb dX7_addLorry_106 (by decide) ?_
        refine k_iast (z := 8) (k := nl) hx hb hK hW hL 15 10 (hm.a (i := 10) (by decide)) (fun _ => rfl) (by rw [hwf.l]; exact nI_clamp (by omega)) (by rw [hwf.l]; exact vp_in_nI (by omega) (by decide)) dX7_addLorry_107 (fun H locs hW hL => ?_)
        refine lv_aload_n hx hb dX7_addLorry_108 rfl (lv_at hl 0 rfl) ?_
        refine lv_dup hx hb dX7_addLorry_109 rfl ?_
        refine k_get (K := RX7) (T := TX7) (N := 34) (v := .int ((k_d (k_d (k_d (k_d (k_d (k_d (k_d D 14 0 0 0) 15 0 nl br) 15 2 nl mi) 15 3 nl ce) 15 4 nl (-1)) 15 11 nl 101) 15 10 nl (-1)) 14 0 1)) (w := .int (D 14 0 1)) hx hb fX7 hown hK hW 14 0 hm.o (fun _ => rfl) rfl 1 (by decide) (hts (.fieldLink RX7 97 "CrossdockeryModel" "lorries" "I") (by decide +kernel)) rfl rfl (congrArg Value.int ((k_dr rfl).trans ((k_dr rfl).trans ((k_dr rfl).trans ((k_dr rfl).trans ((k_dr rfl).trans ((k_dr rfl).trans (k_dk rfl)))))))) dX7_addLorry_110 ?_
        refine lv_dup_x1 hx hb dX7_addLorry_113 rfl rfl ?_
        refine lv_iconst (v := 1) hx hb dX7_addLorry_114 (by decide) ?_
        refine lv_iadd hx hb dX7_addLorry_115 ?_
        refine k_put (K := RX7) (T := TX7) (N := 34) (x := ((D 14 0 1) + 1)) hx hb fX7 tyX7 tyX7_ok nmX7 hown hK hW hL 14 0 hm.o (fun _ => rfl) rfl 1 (by decide) (hts (.fieldLink RX7 97 "CrossdockeryModel" "lorries" "I") (by decide +kernel)) rfl rfl rfl rfl (fun _ => Nat.le_of_ble_eq_true rfl) (fun _ _ => rfl) dX7_addLorry_116 (fun H locs hW hL => ?_)
        have e9 : (s_X7_addLorry D nl nt ng br mi ce) = (k_d (k_d (k_d (k_d (k_d (k_d (k_d (k_d D 14 0 0 0) 15 0 nl br) 15 2 nl mi) 15 3 nl ce) 15 4 nl (-1)) 15 11 nl 101) 15 10 nl (-1)) 14 0 1 ((D 14 0 1) + 1), D 14 0 1) := by unfold s_X7_addLorry; first | done | (simp only [if_neg c1, if_neg c2, if_neg c3]; done) | rfl
        exact k_iret hx hb hr hlocks (⟨by rw [e9], by rw [e9]; exact hW⟩) hL dX7_addLorry_119
      ·
        refine lv_aload_n hx hb dX7_addLorry_36 rfl (lv_at hl 0 rfl) ?_
        refine lv_iconst (v := 2) hx hb dX7_addLorry_37 (by decide) ?_
        refine k_callV (As := [.int 2]) (rest := []) ⟨hx, hb, hml, hown, hts⟩ hK (c_X7_fail2 X l hm D 2) (cwV 1 hts gX7_addLorry_X7_fail rfl rfl rfl (by decide +kernel) ⟨Nat.le_of_ble_eq_true rfl, Nat.le_of_ble_eq_true rfl⟩) (k_recv hK hW 14 0 hm.o (fun _ => rfl) rfl) hW rfl hl.1 rfl (Nat.le_of_ble_eq_true rfl) dX7_addLorry_38 ⟨Nat.le_of_ble_eq_true rfl, Nat.le_of_ble_eq_true rfl⟩ hL (fun v9 H locs hp hL => ?_)
        obtain ⟨rfl, hW⟩ := hp
        have e9 : (s_X7_addLorry D nl nt ng br mi ce) = (k_d D 14 0 0 2, 0) := by unfold s_X7_addLorry; first | done | (simp only [if_neg c1, if_neg c2, if_pos c3]; done) | rfl
        exact k_iret hx hb hr hlocks (⟨by rw [e9], by rw [e9]; exact hW⟩) hL dX7_addLorry_41
    ·
      refine lv_aload_n hx hb dX7_addLorry_21 rfl (lv_at hl 0 rfl) ?_
      refine lv_iconst (v := 1) hx hb dX7_addLorry_22 (by decide) ?_
      refine k_callV (As := [.int 1]) (rest := []) ⟨hx, hb, hml, hown, hts⟩ hK (c_X7_fail2 X l hm D 1) (cwV 1 hts gX7_addLorry_X7_fail rfl rfl rfl (by decide +kernel) ⟨Nat.le_of_ble_eq_true rfl, Nat.le_of_ble_eq_true rfl⟩) (k_recv hK hW 14 0 hm.o (fun _ => rfl) rfl) hW rfl hl.1 rfl (Nat.le_of_ble_eq_true rfl) dX7_addLorry_23 ⟨Nat.le_of_ble_eq_true rfl, Nat.le_of_ble_eq_true rfl⟩ hL (fun v9 H locs hp hL => ?_)
      obtain ⟨rfl, hW⟩ := hp
      have e9 : (s_X7_addLorry D nl nt ng br mi ce) = (k_d D 14 0 0 1, 0) := by unfold s_X7_addLorry; first | done | (simp only [if_neg c1, if_pos c2]; done) | rfl
      exact k_iret hx hb hr hlocks (⟨by rw [e9], by rw [e9]; exact hW⟩) hL dX7_addLorry_26
def s_X7_addTransfer (D : KD) (nl : Nat) (nt : Nat) (ng : Nat) (a : Int32) (b : Int32) (mn : Int32) : KD × Int32 := (if (j_X7_noLorry_20 D a) = 0 then (if (j_X7_noLorry_20 (k_d D 14 0 0 (j_X7_noLorry_20 D a)) b) = 0 then (if (D 15 0 (a.toNatClampNeg)) = 0 then (k_d (k_d (k_d D 14 0 0 (j_X7_noLorry_20 D a)) 14 0 0 (j_X7_noLorry_20 (k_d D 14 0 0 (j_X7_noLorry_20 D a)) b)) 14 0 0 2, 0) else (if (D 15 0 (b.toNatClampNeg)) = 0 then (if (s_X7_isIn mn 1 99) = 0 then (k_d (k_d (k_d D 14 0 0 (j_X7_noLorry_20 D a)) 14 0 0 (j_X7_noLorry_20 (k_d D 14 0 0 (j_X7_noLorry_20 D a)) b)) 14 0 0 2, 0) else (if (s_X7_isGone (k_d (k_d D 14 0 0 (j_X7_noLorry_20 D a)) 14 0 0 (j_X7_noLorry_20 (k_d D 14 0 0 (j_X7_noLorry_20 D a)) b)) a) = 0 then (if (s_X7_isGone (k_d (k_d D 14 0 0 (j_X7_noLorry_20 D a)) 14 0 0 (j_X7_noLorry_20 (k_d D 14 0 0 (j_X7_noLorry_20 D a)) b)) b) = 0 then (if (D 14 0 2) = 16 then (k_d (k_d (k_d D 14 0 0 (j_X7_noLorry_20 D a)) 14 0 0 (j_X7_noLorry_20 (k_d D 14 0 0 (j_X7_noLorry_20 D a)) b)) 14 0 0 3, 0) else (k_d (k_d (k_d (k_d (k_d (k_d D 14 0 0 (j_X7_noLorry_20 D a)) 14 0 0 (j_X7_noLorry_20 (k_d D 14 0 0 (j_X7_noLorry_20 D a)) b)) 15 12 nt a) 15 13 nt b) 15 14 nt mn) 14 0 2 ((D 14 0 2) + 1), D 14 0 2)) else (k_d (k_d (k_d D 14 0 0 (j_X7_noLorry_20 D a)) 14 0 0 (j_X7_noLorry_20 (k_d D 14 0 0 (j_X7_noLorry_20 D a)) b)) 14 0 0 3, 0)) else (k_d (k_d (k_d D 14 0 0 (j_X7_noLorry_20 D a)) 14 0 0 (j_X7_noLorry_20 (k_d D 14 0 0 (j_X7_noLorry_20 D a)) b)) 14 0 0 3, 0))) else (k_d (k_d (k_d D 14 0 0 (j_X7_noLorry_20 D a)) 14 0 0 (j_X7_noLorry_20 (k_d D 14 0 0 (j_X7_noLorry_20 D a)) b)) 14 0 0 2, 0))) else (k_d (k_d D 14 0 0 (j_X7_noLorry_20 D a)) 14 0 0 (j_X7_noLorry_20 (k_d D 14 0 0 (j_X7_noLorry_20 D a)) b), 0)) else (k_d D 14 0 0 (j_X7_noLorry_20 D a), 0))
set_option maxHeartbeats 4000000 in
set_option maxRecDepth 100000 in
theorem c_X7_addTransfer (X : kX) (l : Launch) {n : Nat → Nat → Nat} {ad L : Nat → Nat → Nat → Nat} {C : Nat → Nat → Nat → Nat → Int32} {fr : Nat → Option Cell} {g : Nat} (hm : k_mod n g) (D : KD) (a : Int32) (b : Int32) (mn : Int32) {nl nt ng : Nat} (hwf : mWF D nl nt ng) : k_M X l yX7_addTransfer wsX7_addTransfer ({ frames := 3, cells := 0, slots := 0, locals := 55 }) [.ref (ad g 14 0), .int a, .int b, .int mn] (k_W X n ad L (k_g C g D) fr) (fun v H => v = some (.int ((s_X7_addTransfer D nl nt ng a b mn).2)) ∧ k_W X n ad L (k_g C g ((s_X7_addTransfer D nl nt ng a b mn).1)) fr H) 0 0 := by
  refine k_M.of (cc := cX7_addTransfer) (maxL := 4) (ret := (some .int)) (by decide) rfl (Nat.le_of_ble_eq_true rfl) ?_
  intro p e s m args below meth c ls hx hb hr hml hown hts hlocks hnm hK hW hl
  have hL : ∀ q ∈ ([] : List Loc), k_B X ≤ q.base := fun _ h => nomatch h
  have hl : lv_has ls 4 [(0, .ref (ad g 14 0)), (1, .int a), (2, .int b), (3, .int mn)] := hl
  have fX7 : ∀ w ∈ u_ws RX7 TX7 34, w.before args s = true := fun w h => hts w ((by decide +kernel : ∀ w ∈ u_ws RX7 TX7 34, w ∈ wsX7_addTransfer) w h)
  have hl8 := hwf.l8
  have ht16 := hwf.t16
  have hg4 := hwf.g4
  refine lv_aload_n hx hb dX7_addTransfer_0 rfl (lv_at hl 0 rfl) ?_
  refine lv_iload_n hx hb dX7_addTransfer_1 rfl (lv_at hl 1 rfl) ?_
  refine k_callV (As := [.int a]) (rest := []) ⟨hx, hb, hml, hown, hts⟩ hK (c_X7_noLorry2 X l hm D a) (cwV 1 hts gX7_addTransfer_X7_noLorry rfl rfl rfl (by decide +kernel) ⟨Nat.le_of_ble_eq_true rfl, Nat.le_of_ble_eq_true rfl⟩) (k_recv hK hW 14 0 hm.o (fun _ => rfl) rfl) hW rfl hl.1 rfl (Nat.le_of_ble_eq_true rfl) dX7_addTransfer_2 ⟨Nat.le_of_ble_eq_true rfl, Nat.le_of_ble_eq_true rfl⟩ hL (fun v9 H locs hp hL => ?_)
  obtain ⟨rfl, hW⟩ := hp
  refine lv_if_ne (tgt := 16) hx hb dX7_addTransfer_5 (by decide) (fun c1 => ?_) (fun c1 => ?_)
  ·
    refine lv_iconst (v := 0) hx hb dX7_addTransfer_16 (by decide) ?_
    have e9 : (s_X7_addTransfer D nl nt ng a b mn) = (k_d D 14 0 0 (j_X7_noLorry_20 D a), 0) := by unfold s_X7_addTransfer; first | done | (simp only [if_neg c1]; done) | rfl
    exact k_iret hx hb hr hlocks (⟨by rw [e9], by rw [e9]; exact hW⟩) hL dX7_addTransfer_17
  ·
    have hin_a := mNoL_in hwf c1
    refine lv_aload_n hx hb dX7_addTransfer_8 rfl (lv_at hl 0 rfl) ?_
    refine lv_iload_n hx hb dX7_addTransfer_9 rfl (lv_at hl 2 rfl) ?_
    refine k_callV (As := [.int b]) (rest := []) ⟨hx, hb, hml, hown, hts⟩ hK (c_X7_noLorry2 X l hm (k_d D 14 0 0 (j_X7_noLorry_20 D a)) b) (cwV 1 hts gX7_addTransfer_X7_noLorry rfl rfl rfl (by decide +kernel) ⟨Nat.le_of_ble_eq_true rfl, Nat.le_of_ble_eq_true rfl⟩) (k_recv hK hW 14 0 hm.o (fun _ => rfl) rfl) hW rfl hl.1 rfl (Nat.le_of_ble_eq_true rfl) dX7_addTransfer_10 ⟨Nat.le_of_ble_eq_true rfl, Nat.le_of_ble_eq_true rfl⟩ hL (fun v9 H locs hp hL => ?_)
    obtain ⟨rfl, hW⟩ := hp
    refine lv_if_eq (tgt := 18) hx hb dX7_addTransfer_13 (by decide) (fun c2 => ?_) (fun c2 => ?_)
    ·
      have hin_b := mNoL_in (hwf.put14 (by decide)) c2
      refine lv_aload_n hx hb dX7_addTransfer_18 rfl (lv_at hl 0 rfl) ?_
      refine k_get (K := RX7) (T := TX7) (N := 34) (v := .ref (ad g 15 0)) (w := .ref (ad g 15 0)) hx hb fX7 hown hK hW 14 0 hm.o (fun _ => rfl) rfl 7 (by decide) (hts (.fieldLink RX7 7 "CrossdockeryModel" "isBringing" "[Z") (by decide +kernel)) rfl rfl rfl dX7_addTransfer_19 ?_
      refine lv_iload_n hx hb dX7_addTransfer_22 rfl (lv_at hl 1 rfl) ?_
      refine k_zald (z := 8) (k := (a.toNatClampNeg)) hx hb hK hW 15 0 (hm.a (i := 0) (by decide)) (fun _ => rfl) rfl (hin_a.mono (by omega)) (v := (D 15 0 (a.toNatClampNeg))) ((k_dr rfl).trans (k_dr rfl)) dX7_addTransfer_23 ?_
      refine lv_if_eq (tgt := 46) hx hb dX7_addTransfer_24 (by decide) (fun c3 => ?_) (fun c3 => ?_)
      ·
        refine lv_aload_n hx hb dX7_addTransfer_46 rfl (lv_at hl 0 rfl) ?_
        refine lv_iconst (v := 2) hx hb dX7_addTransfer_47 (by decide) ?_
        refine k_callV (As := [.int 2]) (rest := []) ⟨hx, hb, hml, hown, hts⟩ hK (c_X7_fail2 X l hm (k_d (k_d D 14 0 0 (j_X7_noLorry_20 D a)) 14 0 0 (j_X7_noLorry_20 (k_d D 14 0 0 (j_X7_noLorry_20 D a)) b)) 2) (cwV 1 hts gX7_addTransfer_X7_fail rfl rfl rfl (by decide +kernel) ⟨Nat.le_of_ble_eq_true rfl, Nat.le_of_ble_eq_true rfl⟩) (k_recv hK hW 14 0 hm.o (fun _ => rfl) rfl) hW rfl hl.1 rfl (Nat.le_of_ble_eq_true rfl) dX7_addTransfer_48 ⟨Nat.le_of_ble_eq_true rfl, Nat.le_of_ble_eq_true rfl⟩ hL (fun v9 H locs hp hL => ?_)
        obtain ⟨rfl, hW⟩ := hp
        have e9 : (s_X7_addTransfer D nl nt ng a b mn) = (k_d (k_d (k_d D 14 0 0 (j_X7_noLorry_20 D a)) 14 0 0 (j_X7_noLorry_20 (k_d D 14 0 0 (j_X7_noLorry_20 D a)) b)) 14 0 0 2, 0) := by unfold s_X7_addTransfer; first | done | (simp only [if_pos c1, if_pos c2, if_pos c3]; done) | rfl
        exact k_iret hx hb hr hlocks (⟨by rw [e9], by rw [e9]; exact hW⟩) hL dX7_addTransfer_51
      ·
        refine lv_aload_n hx hb dX7_addTransfer_27 rfl (lv_at hl 0 rfl) ?_
        refine k_get (K := RX7) (T := TX7) (N := 34) (v := .ref (ad g 15 0)) (w := .ref (ad g 15 0)) hx hb fX7 hown hK hW 14 0 hm.o (fun _ => rfl) rfl 7 (by decide) (hts (.fieldLink RX7 7 "CrossdockeryModel" "isBringing" "[Z") (by decide +kernel)) rfl rfl rfl dX7_addTransfer_28 ?_
        refine lv_iload_n hx hb dX7_addTransfer_31 rfl (lv_at hl 2 rfl) ?_
        refine k_zald (z := 8) (k := (b.toNatClampNeg)) hx hb hK hW 15 0 (hm.a (i := 0) (by decide)) (fun _ => rfl) rfl (hin_b.mono (by omega)) (v := (D 15 0 (b.toNatClampNeg))) ((k_dr rfl).trans (k_dr rfl)) dX7_addTransfer_32 ?_
        refine lv_if_ne (tgt := 46) hx hb dX7_addTransfer_33 (by decide) (fun c4 => ?_) (fun c4 => ?_)
        ·
          refine lv_aload_n hx hb dX7_addTransfer_46 rfl (lv_at hl 0 rfl) ?_
          refine lv_iconst (v := 2) hx hb dX7_addTransfer_47 (by decide) ?_
          refine k_callV (As := [.int 2]) (rest := []) ⟨hx, hb, hml, hown, hts⟩ hK (c_X7_fail2 X l hm (k_d (k_d D 14 0 0 (j_X7_noLorry_20 D a)) 14 0 0 (j_X7_noLorry_20 (k_d D 14 0 0 (j_X7_noLorry_20 D a)) b)) 2) (cwV 1 hts gX7_addTransfer_X7_fail rfl rfl rfl (by decide +kernel) ⟨Nat.le_of_ble_eq_true rfl, Nat.le_of_ble_eq_true rfl⟩) (k_recv hK hW 14 0 hm.o (fun _ => rfl) rfl) hW rfl hl.1 rfl (Nat.le_of_ble_eq_true rfl) dX7_addTransfer_48 ⟨Nat.le_of_ble_eq_true rfl, Nat.le_of_ble_eq_true rfl⟩ hL (fun v9 H locs hp hL => ?_)
          obtain ⟨rfl, hW⟩ := hp
          have e9 : (s_X7_addTransfer D nl nt ng a b mn) = (k_d (k_d (k_d D 14 0 0 (j_X7_noLorry_20 D a)) 14 0 0 (j_X7_noLorry_20 (k_d D 14 0 0 (j_X7_noLorry_20 D a)) b)) 14 0 0 2, 0) := by unfold s_X7_addTransfer; first | done | (simp only [if_pos c1, if_pos c2, if_neg c3, if_neg c4]; done) | rfl
          exact k_iret hx hb hr hlocks (⟨by rw [e9], by rw [e9]; exact hW⟩) hL dX7_addTransfer_51
        ·
          refine lv_iload_n hx hb dX7_addTransfer_36 rfl (lv_at hl 3 rfl) ?_
          refine lv_iconst (v := 1) hx hb dX7_addTransfer_37 (by decide) ?_
          refine lv_bipush (v := 99) hx hb dX7_addTransfer_38 (by decide) ?_
          refine k_callS (As := [.int mn, .int 1, .int 99]) (rest := []) ⟨hx, hb, hml, hown, hts⟩ hK (c_X7_isIn X l (k_W X n ad L (k_g C g (k_d (k_d D 14 0 0 (j_X7_noLorry_20 D a)) 14 0 0 (j_X7_noLorry_20 (k_d D 14 0 0 (j_X7_noLorry_20 D a)) b))) fr) mn 1 99) (va_cwS 3 hts gX7_addTransfer_X7_isIn rfl rfl rfl (by decide +kernel) ⟨Nat.le_of_ble_eq_true rfl, Nat.le_of_ble_eq_true rfl⟩) hW rfl hl.1 rfl (Nat.le_of_ble_eq_true rfl) dX7_addTransfer_40 ⟨Nat.le_of_ble_eq_true rfl, Nat.le_of_ble_eq_true rfl⟩ hL (fun v9 H locs hp hL => ?_)
          obtain ⟨rfl, hW⟩ := hp
          refine lv_if_ne (tgt := 52) hx hb dX7_addTransfer_43 (by decide) (fun c5 => ?_) (fun c5 => ?_)
          ·
            refine lv_aload_n hx hb dX7_addTransfer_52 rfl (lv_at hl 0 rfl) ?_
            refine lv_iload_n hx hb dX7_addTransfer_53 rfl (lv_at hl 1 rfl) ?_
            refine k_callV (As := [.int a]) (rest := []) ⟨hx, hb, hml, hown, hts⟩ hK (c_X7_isGone X l hm (k_d (k_d D 14 0 0 (j_X7_noLorry_20 D a)) 14 0 0 (j_X7_noLorry_20 (k_d D 14 0 0 (j_X7_noLorry_20 D a)) b)) a (hin_a.mono (by omega))) (cwV 1 hts gX7_addTransfer_X7_isGone rfl rfl rfl (by decide +kernel) ⟨Nat.le_of_ble_eq_true rfl, Nat.le_of_ble_eq_true rfl⟩) (k_recv hK hW 14 0 hm.o (fun _ => rfl) rfl) hW rfl hl.1 rfl (Nat.le_of_ble_eq_true rfl) dX7_addTransfer_54 ⟨Nat.le_of_ble_eq_true rfl, Nat.le_of_ble_eq_true rfl⟩ hL (fun v9 H locs hp hL => ?_)
            obtain ⟨rfl, hW⟩ := hp
            refine lv_if_ne (tgt := 77) hx hb dX7_addTransfer_57 (by decide) (fun c6 => ?_) (fun c6 => ?_)
            ·
              refine lv_aload_n hx hb dX7_addTransfer_77 rfl (lv_at hl 0 rfl) ?_
              refine lv_iconst (v := 3) hx hb dX7_addTransfer_78 (by decide) ?_
              refine k_callV (As := [.int 3]) (rest := []) ⟨hx, hb, hml, hown, hts⟩ hK (c_X7_fail2 X l hm (k_d (k_d D 14 0 0 (j_X7_noLorry_20 D a)) 14 0 0 (j_X7_noLorry_20 (k_d D 14 0 0 (j_X7_noLorry_20 D a)) b)) 3) (cwV 1 hts gX7_addTransfer_X7_fail rfl rfl rfl (by decide +kernel) ⟨Nat.le_of_ble_eq_true rfl, Nat.le_of_ble_eq_true rfl⟩) (k_recv hK hW 14 0 hm.o (fun _ => rfl) rfl) hW rfl hl.1 rfl (Nat.le_of_ble_eq_true rfl) dX7_addTransfer_79 ⟨Nat.le_of_ble_eq_true rfl, Nat.le_of_ble_eq_true rfl⟩ hL (fun v9 H locs hp hL => ?_)
              obtain ⟨rfl, hW⟩ := hp
              have e9 : (s_X7_addTransfer D nl nt ng a b mn) = (k_d (k_d (k_d D 14 0 0 (j_X7_noLorry_20 D a)) 14 0 0 (j_X7_noLorry_20 (k_d D 14 0 0 (j_X7_noLorry_20 D a)) b)) 14 0 0 3, 0) := by unfold s_X7_addTransfer; first | done | (simp only [if_pos c1, if_pos c2, if_neg c3, if_pos c4, if_neg c5, if_neg c6]; done) | rfl
              exact k_iret hx hb hr hlocks (⟨by rw [e9], by rw [e9]; exact hW⟩) hL dX7_addTransfer_82
            ·
              refine lv_aload_n hx hb dX7_addTransfer_60 rfl (lv_at hl 0 rfl) ?_
              refine lv_iload_n hx hb dX7_addTransfer_61 rfl (lv_at hl 2 rfl) ?_
              refine k_callV (As := [.int b]) (rest := []) ⟨hx, hb, hml, hown, hts⟩ hK (c_X7_isGone X l hm (k_d (k_d D 14 0 0 (j_X7_noLorry_20 D a)) 14 0 0 (j_X7_noLorry_20 (k_d D 14 0 0 (j_X7_noLorry_20 D a)) b)) b (hin_b.mono (by omega))) (cwV 1 hts gX7_addTransfer_X7_isGone rfl rfl rfl (by decide +kernel) ⟨Nat.le_of_ble_eq_true rfl, Nat.le_of_ble_eq_true rfl⟩) (k_recv hK hW 14 0 hm.o (fun _ => rfl) rfl) hW rfl hl.1 rfl (Nat.le_of_ble_eq_true rfl) dX7_addTransfer_62 ⟨Nat.le_of_ble_eq_true rfl, Nat.le_of_ble_eq_true rfl⟩ hL (fun v9 H locs hp hL => ?_)
              obtain ⟨rfl, hW⟩ := hp
              refine lv_if_ne (tgt := 77) hx hb dX7_addTransfer_65 (by decide) (fun c7 => ?_) (fun c7 => ?_)
              ·
                refine lv_aload_n hx hb dX7_addTransfer_77 rfl (lv_at hl 0 rfl) ?_
                refine lv_iconst (v := 3) hx hb dX7_addTransfer_78 (by decide) ?_
                refine k_callV (As := [.int 3]) (rest := []) ⟨hx, hb, hml, hown, hts⟩ hK (c_X7_fail2 X l hm (k_d (k_d D 14 0 0 (j_X7_noLorry_20 D a)) 14 0 0 (j_X7_noLorry_20 (k_d D 14 0 0 (j_X7_noLorry_20 D a)) b)) 3) (cwV 1 hts gX7_addTransfer_X7_fail rfl rfl rfl (by decide +kernel) ⟨Nat.le_of_ble_eq_true rfl, Nat.le_of_ble_eq_true rfl⟩) (k_recv hK hW 14 0 hm.o (fun _ => rfl) rfl) hW rfl hl.1 rfl (Nat.le_of_ble_eq_true rfl) dX7_addTransfer_79 ⟨Nat.le_of_ble_eq_true rfl, Nat.le_of_ble_eq_true rfl⟩ hL (fun v9 H locs hp hL => ?_)
                obtain ⟨rfl, hW⟩ := hp
                have e9 : (s_X7_addTransfer D nl nt ng a b mn) = (k_d (k_d (k_d D 14 0 0 (j_X7_noLorry_20 D a)) 14 0 0 (j_X7_noLorry_20 (k_d D 14 0 0 (j_X7_noLorry_20 D a)) b)) 14 0 0 3, 0) := by unfold s_X7_addTransfer; first | done | (simp only [if_pos c1, if_pos c2, if_neg c3, if_pos c4, if_neg c5, if_pos c6, if_neg c7]; done) | rfl
                exact k_iret hx hb hr hlocks (⟨by rw [e9], by rw [e9]; exact hW⟩) hL dX7_addTransfer_82
              ·
                refine lv_aload_n hx hb dX7_addTransfer_68 rfl (lv_at hl 0 rfl) ?_
                refine k_get (K := RX7) (T := TX7) (N := 34) (v := .int ((k_d (k_d D 14 0 0 (j_X7_noLorry_20 D a)) 14 0 0 (j_X7_noLorry_20 (k_d D 14 0 0 (j_X7_noLorry_20 D a)) b)) 14 0 2)) (w := .int (D 14 0 2)) hx hb fX7 hown hK hW 14 0 hm.o (fun _ => rfl) rfl 2 (by decide) (hts (.fieldLink RX7 115 "CrossdockeryModel" "transfers" "I") (by decide +kernel)) rfl rfl (congrArg Value.int ((k_dk rfl).trans (k_dk rfl))) dX7_addTransfer_69 ?_
                refine lv_bipush (v := 16) hx hb dX7_addTransfer_72 (by decide) ?_
                refine lv_icmp_ne (tgt := 83) hx hb dX7_addTransfer_74 (by decide) (fun c8 => ?_) (fun c8 => ?_)
                ·
                  have hlt_nt : nt < 16 := k_lt_of_ne hwf.t (rfl : (16 : Int32) = nI 16) ht16 c8
                  refine lv_aload_n hx hb dX7_addTransfer_83 rfl (lv_at hl 0 rfl) ?_
                  refine k_get (K := RX7) (T := TX7) (N := 34) (v := .ref (ad g 15 12)) (w := .ref (ad g 15 12)) hx hb fX7 hown hK hW 14 0 hm.o (fun _ => rfl) rfl 19 (by decide) (hts (.fieldLink RX7 48 "CrossdockeryModel" "from" "[I") (by decide +kernel)) rfl rfl rfl dX7_addTransfer_84 ?_
                  refine lv_aload_n hx hb dX7_addTransfer_87 rfl (lv_at hl 0 rfl) ?_
                  refine k_get (K := RX7) (T := TX7) (N := 34) (v := .int ((k_d (k_d D 14 0 0 (j_X7_noLorry_20 D a)) 14 0 0 (j_X7_noLorry_20 (k_d D 14 0 0 (j_X7_noLorry_20 D a)) b)) 14 0 2)) (w := .int (D 14 0 2)) hx hb fX7 hown hK hW 14 0 hm.o (fun _ => rfl) rfl 2 (by decide) (hts (.fieldLink RX7 115 "CrossdockeryModel" "transfers" "I") (by decide +kernel)) rfl rfl (congrArg Value.int ((k_dk rfl).trans (k_dk rfl))) dX7_addTransfer_88 ?_
                  refine lv_iload_n hx hb dX7_addTransfer_91 rfl (lv_at hl 1 rfl) ?_
                  refine k_iast (z := 16) (k := nt) hx hb hK hW hL 15 12 (hm.a (i := 12) (by decide)) (fun _ => rfl) (by rw [hwf.t]; exact nI_clamp (by omega)) (by rw [hwf.t]; exact vp_in_nI (by omega) (by decide)) dX7_addTransfer_92 (fun H locs hW hL => ?_)
                  refine lv_aload_n hx hb dX7_addTransfer_93 rfl (lv_at hl 0 rfl) ?_
                  refine k_get (K := RX7) (T := TX7) (N := 34) (v := .ref (ad g 15 13)) (w := .ref (ad g 15 13)) hx hb fX7 hown hK hW 14 0 hm.o (fun _ => rfl) rfl 20 (by decide) (hts (.fieldLink RX7 51 "CrossdockeryModel" "to" "[I") (by decide +kernel)) rfl rfl rfl dX7_addTransfer_94 ?_
                  refine lv_aload_n hx hb dX7_addTransfer_97 rfl (lv_at hl 0 rfl) ?_
                  refine k_get (K := RX7) (T := TX7) (N := 34) (v := .int ((k_d (k_d (k_d D 14 0 0 (j_X7_noLorry_20 D a)) 14 0 0 (j_X7_noLorry_20 (k_d D 14 0 0 (j_X7_noLorry_20 D a)) b)) 15 12 nt a) 14 0 2)) (w := .int (D 14 0 2)) hx hb fX7 hown hK hW 14 0 hm.o (fun _ => rfl) rfl 2 (by decide) (hts (.fieldLink RX7 115 "CrossdockeryModel" "transfers" "I") (by decide +kernel)) rfl rfl (congrArg Value.int ((k_dr rfl).trans ((k_dk rfl).trans (k_dk rfl)))) dX7_addTransfer_98 ?_
                  refine lv_iload_n hx hb dX7_addTransfer_101 rfl (lv_at hl 2 rfl) ?_
                  refine k_iast (z := 16) (k := nt) hx hb hK hW hL 15 13 (hm.a (i := 13) (by decide)) (fun _ => rfl) (by rw [hwf.t]; exact nI_clamp (by omega)) (by rw [hwf.t]; exact vp_in_nI (by omega) (by decide)) dX7_addTransfer_102 (fun H locs hW hL => ?_)
                  refine lv_aload_n hx hb dX7_addTransfer_103 rfl (lv_at hl 0 rfl) ?_
                  refine k_get (K := RX7) (T := TX7) (N := 34) (v := .ref (ad g 15 14)) (w := .ref (ad g 15 14)) hx hb fX7 hown hK hW 14 0 hm.o (fun _ => rfl) rfl 21 (by decide) (hts (.fieldLink RX7 54 "CrossdockeryModel" "units" "[I") (by decide +kernel)) rfl rfl rfl dX7_addTransfer_104 ?_
                  refine lv_aload_n hx hb dX7_addTransfer_107 rfl (lv_at hl 0 rfl) ?_
                  refine k_get (K := RX7) (T := TX7) (N := 34) (v := .int ((k_d (k_d (k_d (k_d D 14 0 0 (j_X7_noLorry_20 D a)) 14 0 0 (j_X7_noLorry_20 (k_d D 14 0 0 (j_X7_noLorry_20 D a)) b)) 15 12 nt a) 15 13 nt b) 14 0 2)) (w := .int (D 14 0 2)) hx hb fX7 hown hK hW 14 0 hm.o (fun _ => rfl) rfl 2 (by decide) (hts (.fieldLink RX7 115 "CrossdockeryModel" "transfers" "I") (by decide +kernel)) rfl rfl (congrArg Value.int ((k_dr rfl).trans ((k_dr rfl).trans ((k_dk rfl).trans (k_dk rfl))))) dX7_addTransfer_108 ?_
                  refine lv_iload_n hx hb dX7_addTransfer_111 rfl (lv_at hl 3 rfl) ?_
                  refine k_iast (z := 16) (k := nt) hx hb hK hW hL 15 14 (hm.a (i := 14) (by decide)) (fun _ => rfl) (by rw [hwf.t]; exact nI_clamp (by omega)) (by rw [hwf.t]; exact vp_in_nI (by omega) (by decide)) dX7_addTransfer_112 (fun H locs hW hL => ?_)
                  refine lv_aload_n hx hb dX7_addTransfer_113 rfl (lv_at hl 0 rfl) ?_
                  refine lv_dup hx hb dX7_addTransfer_114 rfl ?_
                  refine k_get (K := RX7) (T := TX7) (N := 34) (v := .int ((k_d (k_d (k_d (k_d (k_d D 14 0 0 (j_X7_noLorry_20 D a)) 14 0 0 (j_X7_noLorry_20 (k_d D 14 0 0 (j_X7_noLorry_20 D a)) b)) 15 12 nt a) 15 13 nt b) 15 14 nt mn) 14 0 2)) (w := .int (D 14 0 2)) hx hb fX7 hown hK hW 14 0 hm.o (fun _ => rfl) rfl 2 (by decide) (hts (.fieldLink RX7 115 "CrossdockeryModel" "transfers" "I") (by decide +kernel)) rfl rfl (congrArg Value.int ((k_dr rfl).trans ((k_dr rfl).trans ((k_dr rfl).trans ((k_dk rfl).trans (k_dk rfl)))))) dX7_addTransfer_115 ?_
                  refine lv_dup_x1 hx hb dX7_addTransfer_118 rfl rfl ?_
                  refine lv_iconst (v := 1) hx hb dX7_addTransfer_119 (by decide) ?_
                  refine lv_iadd hx hb dX7_addTransfer_120 ?_
                  refine k_put (K := RX7) (T := TX7) (N := 34) (x := ((D 14 0 2) + 1)) hx hb fX7 tyX7 tyX7_ok nmX7 hown hK hW hL 14 0 hm.o (fun _ => rfl) rfl 2 (by decide) (hts (.fieldLink RX7 115 "CrossdockeryModel" "transfers" "I") (by decide +kernel)) rfl rfl rfl rfl (fun _ => Nat.le_of_ble_eq_true rfl) (fun _ _ => rfl) dX7_addTransfer_121 (fun H locs hW hL => ?_)
                  have e9 : (s_X7_addTransfer D nl nt ng a b mn) = (k_d (k_d (k_d (k_d (k_d (k_d D 14 0 0 (j_X7_noLorry_20 D a)) 14 0 0 (j_X7_noLorry_20 (k_d D 14 0 0 (j_X7_noLorry_20 D a)) b)) 15 12 nt a) 15 13 nt b) 15 14 nt mn) 14 0 2 ((D 14 0 2) + 1), D 14 0 2) := by unfold s_X7_addTransfer; first | done | (simp only [if_pos c1, if_pos c2, if_neg c3, if_pos c4, if_neg c5, if_pos c6, if_pos c7, if_neg c8]; done) | rfl
                  exact k_iret hx hb hr hlocks (⟨by rw [e9], by rw [e9]; exact hW⟩) hL dX7_addTransfer_124
                ·
                  refine lv_aload_n hx hb dX7_addTransfer_77 rfl (lv_at hl 0 rfl) ?_
                  refine lv_iconst (v := 3) hx hb dX7_addTransfer_78 (by decide) ?_
                  refine k_callV (As := [.int 3]) (rest := []) ⟨hx, hb, hml, hown, hts⟩ hK (c_X7_fail2 X l hm (k_d (k_d D 14 0 0 (j_X7_noLorry_20 D a)) 14 0 0 (j_X7_noLorry_20 (k_d D 14 0 0 (j_X7_noLorry_20 D a)) b)) 3) (cwV 1 hts gX7_addTransfer_X7_fail rfl rfl rfl (by decide +kernel) ⟨Nat.le_of_ble_eq_true rfl, Nat.le_of_ble_eq_true rfl⟩) (k_recv hK hW 14 0 hm.o (fun _ => rfl) rfl) hW rfl hl.1 rfl (Nat.le_of_ble_eq_true rfl) dX7_addTransfer_79 ⟨Nat.le_of_ble_eq_true rfl, Nat.le_of_ble_eq_true rfl⟩ hL (fun v9 H locs hp hL => ?_)
                  obtain ⟨rfl, hW⟩ := hp
                  have e9 : (s_X7_addTransfer D nl nt ng a b mn) = (k_d (k_d (k_d D 14 0 0 (j_X7_noLorry_20 D a)) 14 0 0 (j_X7_noLorry_20 (k_d D 14 0 0 (j_X7_noLorry_20 D a)) b)) 14 0 0 3, 0) := by unfold s_X7_addTransfer; first | done | (simp only [if_pos c1, if_pos c2, if_neg c3, if_pos c4, if_neg c5, if_pos c6, if_pos c7, if_pos c8]; done) | rfl
                  exact k_iret hx hb hr hlocks (⟨by rw [e9], by rw [e9]; exact hW⟩) hL dX7_addTransfer_82
          ·
            refine lv_aload_n hx hb dX7_addTransfer_46 rfl (lv_at hl 0 rfl) ?_
            refine lv_iconst (v := 2) hx hb dX7_addTransfer_47 (by decide) ?_
            refine k_callV (As := [.int 2]) (rest := []) ⟨hx, hb, hml, hown, hts⟩ hK (c_X7_fail2 X l hm (k_d (k_d D 14 0 0 (j_X7_noLorry_20 D a)) 14 0 0 (j_X7_noLorry_20 (k_d D 14 0 0 (j_X7_noLorry_20 D a)) b)) 2) (cwV 1 hts gX7_addTransfer_X7_fail rfl rfl rfl (by decide +kernel) ⟨Nat.le_of_ble_eq_true rfl, Nat.le_of_ble_eq_true rfl⟩) (k_recv hK hW 14 0 hm.o (fun _ => rfl) rfl) hW rfl hl.1 rfl (Nat.le_of_ble_eq_true rfl) dX7_addTransfer_48 ⟨Nat.le_of_ble_eq_true rfl, Nat.le_of_ble_eq_true rfl⟩ hL (fun v9 H locs hp hL => ?_)
            obtain ⟨rfl, hW⟩ := hp
            have e9 : (s_X7_addTransfer D nl nt ng a b mn) = (k_d (k_d (k_d D 14 0 0 (j_X7_noLorry_20 D a)) 14 0 0 (j_X7_noLorry_20 (k_d D 14 0 0 (j_X7_noLorry_20 D a)) b)) 14 0 0 2, 0) := by unfold s_X7_addTransfer; first | done | (simp only [if_pos c1, if_pos c2, if_neg c3, if_pos c4, if_pos c5]; done) | rfl
            exact k_iret hx hb hr hlocks (⟨by rw [e9], by rw [e9]; exact hW⟩) hL dX7_addTransfer_51
    ·
      refine lv_iconst (v := 0) hx hb dX7_addTransfer_16 (by decide) ?_
      have e9 : (s_X7_addTransfer D nl nt ng a b mn) = (k_d (k_d D 14 0 0 (j_X7_noLorry_20 D a)) 14 0 0 (j_X7_noLorry_20 (k_d D 14 0 0 (j_X7_noLorry_20 D a)) b), 0) := by unfold s_X7_addTransfer; first | done | (simp only [if_pos c1, if_neg c2]; done) | rfl
      exact k_iret hx hb hr hlocks (⟨by rw [e9], by rw [e9]; exact hW⟩) hL dX7_addTransfer_17
def s_X7_planDoor (D : KD) (nl : Nat) (nt : Nat) (ng : Nat) (l0 : Int32) (d : Int32) : KD × Int32 := (if (j_X7_noLorry_20 D l0) = 0 then (if (j_X7_noDoor_15 (k_d D 14 0 0 (j_X7_noLorry_20 D l0)) d) = 0 then (if (s_X7_isGone (k_d (k_d D 14 0 0 (j_X7_noLorry_20 D l0)) 14 0 0 (j_X7_noDoor_15 (k_d D 14 0 0 (j_X7_noLorry_20 D l0)) d)) l0) = 0 then (k_d (k_d (k_d D 14 0 0 (j_X7_noLorry_20 D l0)) 14 0 0 (j_X7_noDoor_15 (k_d D 14 0 0 (j_X7_noLorry_20 D l0)) d)) 15 4 (l0.toNatClampNeg) d, D 15 4 (l0.toNatClampNeg)) else (k_d (k_d (k_d D 14 0 0 (j_X7_noLorry_20 D l0)) 14 0 0 (j_X7_noDoor_15 (k_d D 14 0 0 (j_X7_noLorry_20 D l0)) d)) 14 0 0 2, 0)) else (k_d (k_d D 14 0 0 (j_X7_noLorry_20 D l0)) 14 0 0 (j_X7_noDoor_15 (k_d D 14 0 0 (j_X7_noLorry_20 D l0)) d), 0)) else (k_d D 14 0 0 (j_X7_noLorry_20 D l0), 0))
set_option maxHeartbeats 4000000 in
set_option maxRecDepth 100000 in
theorem c_X7_planDoor (X : kX) (l : Launch) {n : Nat → Nat → Nat} {ad L : Nat → Nat → Nat → Nat} {C : Nat → Nat → Nat → Nat → Int32} {fr : Nat → Option Cell} {g : Nat} (hm : k_mod n g) (D : KD) (l0 : Int32) (d : Int32) {nl nt ng : Nat} (hwf : mWF D nl nt ng) : k_M X l yX7_planDoor wsX7_planDoor ({ frames := 3, cells := 0, slots := 0, locals := 55 }) [.ref (ad g 14 0), .int l0, .int d] (k_W X n ad L (k_g C g D) fr) (fun v H => v = some (.int ((s_X7_planDoor D nl nt ng l0 d).2)) ∧ k_W X n ad L (k_g C g ((s_X7_planDoor D nl nt ng l0 d).1)) fr H) 0 0 := by
  refine k_M.of (cc := cX7_planDoor) (maxL := 4) (ret := (some .int)) (by decide) rfl (Nat.le_of_ble_eq_true rfl) ?_
  intro p e s m args below meth c ls hx hb hr hml hown hts hlocks hnm hK hW hl
  have hL : ∀ q ∈ ([] : List Loc), k_B X ≤ q.base := fun _ h => nomatch h
  have hl : lv_has ls 4 [(0, .ref (ad g 14 0)), (1, .int l0), (2, .int d)] := hl
  have fX7 : ∀ w ∈ u_ws RX7 TX7 34, w.before args s = true := fun w h => hts w ((by decide +kernel : ∀ w ∈ u_ws RX7 TX7 34, w ∈ wsX7_planDoor) w h)
  have hl8 := hwf.l8
  have ht16 := hwf.t16
  have hg4 := hwf.g4
  refine lv_aload_n hx hb dX7_planDoor_0 rfl (lv_at hl 0 rfl) ?_
  refine lv_iload_n hx hb dX7_planDoor_1 rfl (lv_at hl 1 rfl) ?_
  refine k_callV (As := [.int l0]) (rest := []) ⟨hx, hb, hml, hown, hts⟩ hK (c_X7_noLorry2 X l hm D l0) (cwV 1 hts gX7_planDoor_X7_noLorry rfl rfl rfl (by decide +kernel) ⟨Nat.le_of_ble_eq_true rfl, Nat.le_of_ble_eq_true rfl⟩) (k_recv hK hW 14 0 hm.o (fun _ => rfl) rfl) hW rfl hl.1 rfl (Nat.le_of_ble_eq_true rfl) dX7_planDoor_2 ⟨Nat.le_of_ble_eq_true rfl, Nat.le_of_ble_eq_true rfl⟩ hL (fun v9 H locs hp hL => ?_)
  obtain ⟨rfl, hW⟩ := hp
  refine lv_if_ne (tgt := 16) hx hb dX7_planDoor_5 (by decide) (fun c1 => ?_) (fun c1 => ?_)
  ·
    refine lv_iconst (v := 0) hx hb dX7_planDoor_16 (by decide) ?_
    have e9 : (s_X7_planDoor D nl nt ng l0 d) = (k_d D 14 0 0 (j_X7_noLorry_20 D l0), 0) := by unfold s_X7_planDoor; first | done | (simp only [if_neg c1]; done) | rfl
    exact k_iret hx hb hr hlocks (⟨by rw [e9], by rw [e9]; exact hW⟩) hL dX7_planDoor_17
  ·
    have hin_l0 := mNoL_in hwf c1
    refine lv_aload_n hx hb dX7_planDoor_8 rfl (lv_at hl 0 rfl) ?_
    refine lv_iload_n hx hb dX7_planDoor_9 rfl (lv_at hl 2 rfl) ?_
    refine k_callV (As := [.int d]) (rest := []) ⟨hx, hb, hml, hown, hts⟩ hK (c_X7_noDoor2 X l hm (k_d D 14 0 0 (j_X7_noLorry_20 D l0)) d) (cwV 1 hts gX7_planDoor_X7_noDoor rfl rfl rfl (by decide +kernel) ⟨Nat.le_of_ble_eq_true rfl, Nat.le_of_ble_eq_true rfl⟩) (k_recv hK hW 14 0 hm.o (fun _ => rfl) rfl) hW rfl hl.1 rfl (Nat.le_of_ble_eq_true rfl) dX7_planDoor_10 ⟨Nat.le_of_ble_eq_true rfl, Nat.le_of_ble_eq_true rfl⟩ hL (fun v9 H locs hp hL => ?_)
    obtain ⟨rfl, hW⟩ := hp
    refine lv_if_eq (tgt := 18) hx hb dX7_planDoor_13 (by decide) (fun c2 => ?_) (fun c2 => ?_)
    ·
      have hin_d := mNoD_in c2
      refine lv_aload_n hx hb dX7_planDoor_18 rfl (lv_at hl 0 rfl) ?_
      refine lv_iload_n hx hb dX7_planDoor_19 rfl (lv_at hl 1 rfl) ?_
      refine k_callV (As := [.int l0]) (rest := []) ⟨hx, hb, hml, hown, hts⟩ hK (c_X7_isGone X l hm (k_d (k_d D 14 0 0 (j_X7_noLorry_20 D l0)) 14 0 0 (j_X7_noDoor_15 (k_d D 14 0 0 (j_X7_noLorry_20 D l0)) d)) l0 (hin_l0.mono (by omega))) (cwV 1 hts gX7_planDoor_X7_isGone rfl rfl rfl (by decide +kernel) ⟨Nat.le_of_ble_eq_true rfl, Nat.le_of_ble_eq_true rfl⟩) (k_recv hK hW 14 0 hm.o (fun _ => rfl) rfl) hW rfl hl.1 rfl (Nat.le_of_ble_eq_true rfl) dX7_planDoor_20 ⟨Nat.le_of_ble_eq_true rfl, Nat.le_of_ble_eq_true rfl⟩ hL (fun v9 H locs hp hL => ?_)
      obtain ⟨rfl, hW⟩ := hp
      refine lv_if_eq (tgt := 32) hx hb dX7_planDoor_23 (by decide) (fun c3 => ?_) (fun c3 => ?_)
      ·
        refine lv_aload_n hx hb dX7_planDoor_32 rfl (lv_at hl 0 rfl) ?_
        refine k_get (K := RX7) (T := TX7) (N := 34) (v := .ref (ad g 15 4)) (w := .ref (ad g 15 4)) hx hb fX7 hown hK hW 14 0 hm.o (fun _ => rfl) rfl 11 (by decide) (hts (.fieldLink RX7 23 "CrossdockeryModel" "door" "[I") (by decide +kernel)) rfl rfl rfl dX7_planDoor_33 ?_
        refine lv_iload_n hx hb dX7_planDoor_36 rfl (lv_at hl 1 rfl) ?_
        refine k_iald (z := 8) (k := (l0.toNatClampNeg)) hx hb hK hW 15 4 (hm.a (i := 4) (by decide)) (fun _ => rfl) rfl (hin_l0.mono (by omega)) (v := (D 15 4 (l0.toNatClampNeg))) ((k_dr rfl).trans (k_dr rfl)) dX7_planDoor_37 ?_
        refine lv_istore_n (lv' := [(3, .int (D 15 4 (l0.toNatClampNeg))), (0, .ref (ad g 14 0)), (1, .int l0), (2, .int d)]) hx hb dX7_planDoor_38 rfl hl (by decide) rfl (fun ls hl => ?_)
        refine lv_aload_n hx hb dX7_planDoor_39 rfl (lv_at hl 1 rfl) ?_
        refine k_get (K := RX7) (T := TX7) (N := 34) (v := .ref (ad g 15 4)) (w := .ref (ad g 15 4)) hx hb fX7 hown hK hW 14 0 hm.o (fun _ => rfl) rfl 11 (by decide) (hts (.fieldLink RX7 23 "CrossdockeryModel" "door" "[I") (by decide +kernel)) rfl rfl rfl dX7_planDoor_40 ?_
        refine lv_iload_n hx hb dX7_planDoor_43 rfl (lv_at hl 2 rfl) ?_
        refine lv_iload_n hx hb dX7_planDoor_44 rfl (lv_at hl 3 rfl) ?_
        refine k_iast (z := 8) (k := (l0.toNatClampNeg)) hx hb hK hW hL 15 4 (hm.a (i := 4) (by decide)) (fun _ => rfl) rfl (hin_l0.mono (by omega)) dX7_planDoor_45 (fun H locs hW hL => ?_)
        refine lv_iload_n hx hb dX7_planDoor_46 rfl (lv_at hl 0 rfl) ?_
        have e9 : (s_X7_planDoor D nl nt ng l0 d) = (k_d (k_d (k_d D 14 0 0 (j_X7_noLorry_20 D l0)) 14 0 0 (j_X7_noDoor_15 (k_d D 14 0 0 (j_X7_noLorry_20 D l0)) d)) 15 4 (l0.toNatClampNeg) d, D 15 4 (l0.toNatClampNeg)) := by unfold s_X7_planDoor; first | done | (simp only [if_pos c1, if_pos c2, if_pos c3]; done) | rfl
        exact k_iret hx hb hr hlocks (⟨by rw [e9], by rw [e9]; exact hW⟩) hL dX7_planDoor_47
      ·
        refine lv_aload_n hx hb dX7_planDoor_26 rfl (lv_at hl 0 rfl) ?_
        refine lv_iconst (v := 2) hx hb dX7_planDoor_27 (by decide) ?_
        refine k_callV (As := [.int 2]) (rest := []) ⟨hx, hb, hml, hown, hts⟩ hK (c_X7_fail2 X l hm (k_d (k_d D 14 0 0 (j_X7_noLorry_20 D l0)) 14 0 0 (j_X7_noDoor_15 (k_d D 14 0 0 (j_X7_noLorry_20 D l0)) d)) 2) (cwV 1 hts gX7_planDoor_X7_fail rfl rfl rfl (by decide +kernel) ⟨Nat.le_of_ble_eq_true rfl, Nat.le_of_ble_eq_true rfl⟩) (k_recv hK hW 14 0 hm.o (fun _ => rfl) rfl) hW rfl hl.1 rfl (Nat.le_of_ble_eq_true rfl) dX7_planDoor_28 ⟨Nat.le_of_ble_eq_true rfl, Nat.le_of_ble_eq_true rfl⟩ hL (fun v9 H locs hp hL => ?_)
        obtain ⟨rfl, hW⟩ := hp
        have e9 : (s_X7_planDoor D nl nt ng l0 d) = (k_d (k_d (k_d D 14 0 0 (j_X7_noLorry_20 D l0)) 14 0 0 (j_X7_noDoor_15 (k_d D 14 0 0 (j_X7_noLorry_20 D l0)) d)) 14 0 0 2, 0) := by unfold s_X7_planDoor; first | done | (simp only [if_pos c1, if_pos c2, if_neg c3]; done) | rfl
        exact k_iret hx hb hr hlocks (⟨by rw [e9], by rw [e9]; exact hW⟩) hL dX7_planDoor_31
    ·
      refine lv_iconst (v := 0) hx hb dX7_planDoor_16 (by decide) ?_
      have e9 : (s_X7_planDoor D nl nt ng l0 d) = (k_d (k_d D 14 0 0 (j_X7_noLorry_20 D l0)) 14 0 0 (j_X7_noDoor_15 (k_d D 14 0 0 (j_X7_noLorry_20 D l0)) d), 0) := by unfold s_X7_planDoor; first | done | (simp only [if_pos c1, if_neg c2]; done) | rfl
      exact k_iret hx hb hr hlocks (⟨by rw [e9], by rw [e9]; exact hW⟩) hL dX7_planDoor_17
def j_X7_arrive_90 (D : KD) (nl : Nat) (nt : Nat) (ng : Nat) (l0 : Int32) (k65 : Nat) (z65 : Int32) : Int32 := (if ((k_d (k_d D 14 0 0 (j_X7_noLorry_20 D l0)) 15 11 (l0.toNatClampNeg) 121) 15 11 k65) = 121 then 1 else 0)
def f_X7_arrive_65 (D : KD) (nl : Nat) (nt : Nat) (ng : Nat) (l0 : Int32) (k65 : Nat) (z65 : Int32) : Int32 := (z65 + (j_X7_arrive_90 D nl nt ng l0 k65 z65))
def l_X7_arrive_65 (D : KD) (nl : Nat) (nt : Nat) (ng : Nat) (l0 : Int32) : Int32 := it (f_X7_arrive_65 D nl nt ng l0) nl 0
def s_X7_arrive (D : KD) (nl : Nat) (nt : Nat) (ng : Nat) (l0 : Int32) : KD × Int32 := (if (j_X7_noLorry_20 D l0) = 0 then (if (D 15 11 (l0.toNatClampNeg)) = 101 then (if (D 15 4 (l0.toNatClampNeg)) = (-1) then (k_d (k_d D 14 0 0 (j_X7_noLorry_20 D l0)) 14 0 0 3, 0) else (k_d (k_d (k_d D 14 0 0 (j_X7_noLorry_20 D l0)) 15 11 (l0.toNatClampNeg) 121) 15 5 (l0.toNatClampNeg) (D 14 0 4), (l_X7_arrive_65 D nl nt ng l0))) else (k_d (k_d D 14 0 0 (j_X7_noLorry_20 D l0)) 14 0 0 2, 0)) else (k_d D 14 0 0 (j_X7_noLorry_20 D l0), 0))
set_option maxHeartbeats 4000000 in
set_option maxRecDepth 100000 in
theorem c_X7_arrive (X : kX) (l : Launch) {n : Nat → Nat → Nat} {ad L : Nat → Nat → Nat → Nat} {C : Nat → Nat → Nat → Nat → Int32} {fr : Nat → Option Cell} {g : Nat} (hm : k_mod n g) (D : KD) (l0 : Int32) {nl nt ng : Nat} (hwf : mWF D nl nt ng) : k_M X l yX7_arrive wsX7_arrive ({ frames := 3, cells := 0, slots := 0, locals := 55 }) [.ref (ad g 14 0), .int l0] (k_W X n ad L (k_g C g D) fr) (fun v H => v = some (.int ((s_X7_arrive D nl nt ng l0).2)) ∧ k_W X n ad L (k_g C g ((s_X7_arrive D nl nt ng l0).1)) fr H) 0 0 := by
  refine k_M.of (cc := cX7_arrive) (maxL := 4) (ret := (some .int)) (by decide) rfl (Nat.le_of_ble_eq_true rfl) ?_
  intro p e s m args below meth c ls hx hb hr hml hown hts hlocks hnm hK hW hl
  have hL : ∀ q ∈ ([] : List Loc), k_B X ≤ q.base := fun _ h => nomatch h
  have hl : lv_has ls 4 [(0, .ref (ad g 14 0)), (1, .int l0)] := hl
  have fX7 : ∀ w ∈ u_ws RX7 TX7 34, w.before args s = true := fun w h => hts w ((by decide +kernel : ∀ w ∈ u_ws RX7 TX7 34, w ∈ wsX7_arrive) w h)
  have hl8 := hwf.l8
  have ht16 := hwf.t16
  have hg4 := hwf.g4
  refine lv_aload_n hx hb dX7_arrive_0 rfl (lv_at hl 0 rfl) ?_
  refine lv_iload_n hx hb dX7_arrive_1 rfl (lv_at hl 1 rfl) ?_
  refine k_callV (As := [.int l0]) (rest := []) ⟨hx, hb, hml, hown, hts⟩ hK (c_X7_noLorry2 X l hm D l0) (cwV 1 hts gX7_arrive_X7_noLorry rfl rfl rfl (by decide +kernel) ⟨Nat.le_of_ble_eq_true rfl, Nat.le_of_ble_eq_true rfl⟩) (k_recv hK hW 14 0 hm.o (fun _ => rfl) rfl) hW rfl hl.1 rfl (Nat.le_of_ble_eq_true rfl) dX7_arrive_2 ⟨Nat.le_of_ble_eq_true rfl, Nat.le_of_ble_eq_true rfl⟩ hL (fun v9 H locs hp hL => ?_)
  obtain ⟨rfl, hW⟩ := hp
  refine lv_if_eq (tgt := 10) hx hb dX7_arrive_5 (by decide) (fun c1 => ?_) (fun c1 => ?_)
  ·
    have hin_l0 := mNoL_in hwf c1
    refine lv_aload_n hx hb dX7_arrive_10 rfl (lv_at hl 0 rfl) ?_
    refine k_get (K := RX7) (T := TX7) (N := 34) (v := .ref (ad g 15 11)) (w := .ref (ad g 15 11)) hx hb fX7 hown hK hW 14 0 hm.o (fun _ => rfl) rfl 18 (by decide) (hts (.fieldLink RX7 44 "CrossdockeryModel" "state" "[C") (by decide +kernel)) rfl rfl rfl dX7_arrive_11 ?_
    refine lv_iload_n hx hb dX7_arrive_14 rfl (lv_at hl 1 rfl) ?_
    refine k_cald (z := 8) (k := (l0.toNatClampNeg)) hx hb hK hW 15 11 (hm.a (i := 11) (by decide)) (fun _ => rfl) rfl (hin_l0.mono (by omega)) (v := (D 15 11 (l0.toNatClampNeg))) (k_dr rfl) dX7_arrive_15 ?_
    refine lv_bipush (v := 101) hx hb dX7_arrive_16 (by decide) ?_
    refine lv_icmp_eq (tgt := 27) hx hb dX7_arrive_18 (by decide) (fun c2 => ?_) (fun c2 => ?_)
    ·
      refine lv_aload_n hx hb dX7_arrive_27 rfl (lv_at hl 0 rfl) ?_
      refine k_get (K := RX7) (T := TX7) (N := 34) (v := .ref (ad g 15 4)) (w := .ref (ad g 15 4)) hx hb fX7 hown hK hW 14 0 hm.o (fun _ => rfl) rfl 11 (by decide) (hts (.fieldLink RX7 23 "CrossdockeryModel" "door" "[I") (by decide +kernel)) rfl rfl rfl dX7_arrive_28 ?_
      refine lv_iload_n hx hb dX7_arrive_31 rfl (lv_at hl 1 rfl) ?_
      refine k_iald (z := 8) (k := (l0.toNatClampNeg)) hx hb hK hW 15 4 (hm.a (i := 4) (by decide)) (fun _ => rfl) rfl (hin_l0.mono (by omega)) (v := (D 15 4 (l0.toNatClampNeg))) (k_dr rfl) dX7_arrive_32 ?_
      refine lv_iconst (v := (-1)) hx hb dX7_arrive_33 (by decide) ?_
      refine lv_icmp_ne (tgt := 43) hx hb dX7_arrive_34 (by decide) (fun c3 => ?_) (fun c3 => ?_)
      ·
        refine lv_aload_n hx hb dX7_arrive_43 rfl (lv_at hl 0 rfl) ?_
        refine k_get (K := RX7) (T := TX7) (N := 34) (v := .ref (ad g 15 11)) (w := .ref (ad g 15 11)) hx hb fX7 hown hK hW 14 0 hm.o (fun _ => rfl) rfl 18 (by decide) (hts (.fieldLink RX7 44 "CrossdockeryModel" "state" "[C") (by decide +kernel)) rfl rfl rfl dX7_arrive_44 ?_
        refine lv_iload_n hx hb dX7_arrive_47 rfl (lv_at hl 1 rfl) ?_
        refine lv_bipush (v := 121) hx hb dX7_arrive_48 (by decide) ?_
        refine k_cast (z := 8) (k := (l0.toNatClampNeg)) hx hb hK hW hL 15 11 (hm.a (i := 11) (by decide)) (fun _ => rfl) (by decide) rfl (hin_l0.mono (by omega)) dX7_arrive_50 (fun H locs hW hL => ?_)
        refine lv_aload_n hx hb dX7_arrive_51 rfl (lv_at hl 0 rfl) ?_
        refine k_get (K := RX7) (T := TX7) (N := 34) (v := .ref (ad g 15 5)) (w := .ref (ad g 15 5)) hx hb fX7 hown hK hW 14 0 hm.o (fun _ => rfl) rfl 12 (by decide) (hts (.fieldLink RX7 26 "CrossdockeryModel" "arrived" "[I") (by decide +kernel)) rfl rfl rfl dX7_arrive_52 ?_
        refine lv_iload_n hx hb dX7_arrive_55 rfl (lv_at hl 1 rfl) ?_
        refine lv_aload_n hx hb dX7_arrive_56 rfl (lv_at hl 0 rfl) ?_
        refine k_get (K := RX7) (T := TX7) (N := 34) (v := .int ((k_d (k_d D 14 0 0 (j_X7_noLorry_20 D l0)) 15 11 (l0.toNatClampNeg) 121) 14 0 4)) (w := .int (D 14 0 4)) hx hb fX7 hown hK hW 14 0 hm.o (fun _ => rfl) rfl 4 (by decide) (hts (.fieldLink RX7 121 "CrossdockeryModel" "now" "I") (by decide +kernel)) rfl rfl (congrArg Value.int ((k_dr rfl).trans (k_dk rfl))) dX7_arrive_57 ?_
        refine k_iast (z := 8) (k := (l0.toNatClampNeg)) hx hb hK hW hL 15 5 (hm.a (i := 5) (by decide)) (fun _ => rfl) rfl (hin_l0.mono (by omega)) dX7_arrive_60 (fun H locs hW hL => ?_)
        refine lv_iconst (v := 0) hx hb dX7_arrive_61 (by decide) ?_
        refine lv_istore_n (lv' := [(2, .int 0), (0, .ref (ad g 14 0)), (1, .int l0)]) hx hb dX7_arrive_62 rfl hl (by decide) rfl (fun ls hl => ?_)
        refine lv_iconst (v := 0) hx hb dX7_arrive_63 (by decide) ?_
        refine lv_istore_n (lv' := [(3, .int 0), (2, .int 0), (0, .ref (ad g 14 0)), (1, .int l0)]) hx hb dX7_arrive_64 rfl hl (by decide) rfl (fun ls hl => ?_)
        refine k_for (nl) (fun k65 H locs ls => ∃ z65 : Int32, z65 = it (f_X7_arrive_65 D nl nt ng l0) k65 0 ∧ k_W X n ad L (k_g C g (k_d (k_d (k_d D 14 0 0 (j_X7_noLorry_20 D l0)) 15 11 (l0.toNatClampNeg) 121) 15 5 (l0.toNatClampNeg) (D 14 0 4))) fr H ∧ (∀ q ∈ locs, k_B X ≤ q.base) ∧ lv_has ls 4 [(3, .int (nI k65)), (2, .int z65), (0, .ref (ad g 14 0)), (1, .int l0)]) 0 ⟨0, rfl, hW, hL, lv_sub hl [0, 1, 2, 3] rfl⟩ (Nat.zero_le _) (fun k65 hk65 ih65 H locs ls hI => ?_)
        obtain ⟨z65, hz65, hW, hL, hl⟩ := hI
        refine lv_iload_n hx hb dX7_arrive_65 rfl (lv_at hl 0 rfl) ?_
        refine lv_aload_n hx hb dX7_arrive_66 rfl (lv_at hl 2 rfl) ?_
        refine k_get (K := RX7) (T := TX7) (N := 34) (v := .int ((k_d (k_d (k_d D 14 0 0 (j_X7_noLorry_20 D l0)) 15 11 (l0.toNatClampNeg) 121) 15 5 (l0.toNatClampNeg) (D 14 0 4)) 14 0 1)) (w := .int (D 14 0 1)) hx hb fX7 hown hK hW 14 0 hm.o (fun _ => rfl) rfl 1 (by decide) (hts (.fieldLink RX7 97 "CrossdockeryModel" "lorries" "I") (by decide +kernel)) rfl rfl (congrArg Value.int ((k_dr rfl).trans ((k_dr rfl).trans (k_dk rfl)))) dX7_arrive_67 ?_
        refine lv_icmp_ge (tgt := 98) hx hb dX7_arrive_70 (by decide) (fun c4 => ?_) (fun c4 => ?_)
        ·
          rw [hwf.l] at c4
          have hge65 := k_nI_ge (by omega) (by omega) c4
          obtain rfl : nl = k65 := by omega
          replace hz65 : z65 = (l_X7_arrive_65 D nl nt ng l0) := hz65
          subst hz65
          have hl : lv_has ls 4 [(3, .int (nI nl)), (2, .int (l_X7_arrive_65 D nl nt ng l0)), (0, .ref (ad g 14 0)), (1, .int l0)] := hl
          refine lv_iload_n hx hb dX7_arrive_98 rfl (lv_at hl 1 rfl) ?_
          have e9 : (s_X7_arrive D nl nt ng l0) = (k_d (k_d (k_d D 14 0 0 (j_X7_noLorry_20 D l0)) 15 11 (l0.toNatClampNeg) 121) 15 5 (l0.toNatClampNeg) (D 14 0 4), (l_X7_arrive_65 D nl nt ng l0)) := by unfold s_X7_arrive; first | done | (simp only [if_pos c1, if_pos c2, if_neg c3]; done) | rfl
          exact k_iret hx hb hr hlocks (⟨by rw [e9], by rw [e9]; exact hW⟩) hL dX7_arrive_99
        ·
          have hlt65 : k65 < nl := k_nI_nge (by omega) (by omega) (by rw [hwf.l] at c4; exact c4)
          refine lv_iload_n hx hb dX7_arrive_73 rfl (lv_at hl 1 rfl) ?_
          refine lv_aload_n hx hb dX7_arrive_74 rfl (lv_at hl 2 rfl) ?_
          refine k_get (K := RX7) (T := TX7) (N := 34) (v := .ref (ad g 15 11)) (w := .ref (ad g 15 11)) hx hb fX7 hown hK hW 14 0 hm.o (fun _ => rfl) rfl 18 (by decide) (hts (.fieldLink RX7 44 "CrossdockeryModel" "state" "[C") (by decide +kernel)) rfl rfl rfl dX7_arrive_75 ?_
          refine lv_iload_n hx hb dX7_arrive_78 rfl (lv_at hl 0 rfl) ?_
          refine k_cald (z := 8) (k := k65) hx hb hK hW 15 11 (hm.a (i := 11) (by decide)) (fun _ => rfl) (nI_clamp (by omega)) (vp_in_nI (by omega) (by decide)) (v := ((k_d (k_d D 14 0 0 (j_X7_noLorry_20 D l0)) 15 11 (l0.toNatClampNeg) 121) 15 11 k65)) (k_di rfl) dX7_arrive_79 ?_
          refine lv_bipush (v := 121) hx hb dX7_arrive_80 (by decide) ?_
          refine k_join (pc' := 90) (fun H locs ls st => k_W X n ad L (k_g C g (k_d (k_d (k_d D 14 0 0 (j_X7_noLorry_20 D l0)) 15 11 (l0.toNatClampNeg) 121) 15 5 (l0.toNatClampNeg) (D 14 0 4))) fr H ∧ (∀ q ∈ locs, k_B X ≤ q.base) ∧ lv_has ls 4 [(3, .int (nI k65)), (2, .int z65), (0, .ref (ad g 14 0)), (1, .int l0)] ∧ st = [.int (j_X7_arrive_90 D nl nt ng l0 k65 z65), .int z65]) (fun H locs ls st hJ => ?_) (fun join90 => ?_)
          ·
            obtain ⟨hW, hL, hl, rfl⟩ := hJ
            refine lv_iadd hx hb dX7_arrive_90 ?_
            refine lv_istore_n (lv' := [(2, .int (z65 + (j_X7_arrive_90 D nl nt ng l0 k65 z65))), (3, .int (nI k65)), (0, .ref (ad g 14 0)), (1, .int l0)]) hx hb dX7_arrive_91 rfl hl (by decide) rfl (fun ls hl => ?_)
            refine lv_iinc (v := (nI (k65 + 1))) (k := 1) (lv' := [(3, .int (nI (k65 + 1))), (2, .int (z65 + (j_X7_arrive_90 D nl nt ng l0 k65 z65))), (0, .ref (ad g 14 0)), (1, .int l0)]) hx hb dX7_arrive_92 hl rfl (nI_1 _) (by decide) rfl (fun ls hl => ?_)
            refine lv_goto (tgt := 65) hx hb dX7_arrive_95 (by decide) ?_
            have e9 : (f_X7_arrive_65 D nl nt ng l0) k65 z65 = (z65 + (j_X7_arrive_90 D nl nt ng l0 k65 z65)) := by unfold f_X7_arrive_65; first | done | rfl
            exact ih65 _ _ _ hlt65 ⟨(z65 + (j_X7_arrive_90 D nl nt ng l0 k65 z65)), by rw [it_s, ← hz65, e9], hW, hL, lv_sub hl [0, 1, 2, 3] rfl⟩
          ·
            refine lv_icmp_ne (tgt := 89) hx hb dX7_arrive_82 (by decide) (fun c5 => ?_) (fun c5 => ?_)
            ·
              refine lv_iconst (v := 0) hx hb dX7_arrive_89 (by decide) ?_
              have e9 : (j_X7_arrive_90 D nl nt ng l0 k65 z65) = 0 := by unfold j_X7_arrive_90; first | done | (simp only [if_neg c5]; done) | rfl
              exact join90 _ _ _ _ (by rw [e9]; exact ⟨hW, hL, lv_sub hl [0, 1, 2, 3] rfl, rfl⟩)
            ·
              refine lv_iconst (v := 1) hx hb dX7_arrive_85 (by decide) ?_
              refine lv_goto (tgt := 90) hx hb dX7_arrive_86 (by decide) ?_
              have e9 : (j_X7_arrive_90 D nl nt ng l0 k65 z65) = 1 := by unfold j_X7_arrive_90; first | done | (simp only [if_pos c5]; done) | rfl
              exact join90 _ _ _ _ (by rw [e9]; exact ⟨hW, hL, lv_sub hl [0, 1, 2, 3] rfl, rfl⟩)
      ·
        refine lv_aload_n hx hb dX7_arrive_37 rfl (lv_at hl 0 rfl) ?_
        refine lv_iconst (v := 3) hx hb dX7_arrive_38 (by decide) ?_
        refine k_callV (As := [.int 3]) (rest := []) ⟨hx, hb, hml, hown, hts⟩ hK (c_X7_fail2 X l hm (k_d D 14 0 0 (j_X7_noLorry_20 D l0)) 3) (cwV 1 hts gX7_arrive_X7_fail rfl rfl rfl (by decide +kernel) ⟨Nat.le_of_ble_eq_true rfl, Nat.le_of_ble_eq_true rfl⟩) (k_recv hK hW 14 0 hm.o (fun _ => rfl) rfl) hW rfl hl.1 rfl (Nat.le_of_ble_eq_true rfl) dX7_arrive_39 ⟨Nat.le_of_ble_eq_true rfl, Nat.le_of_ble_eq_true rfl⟩ hL (fun v9 H locs hp hL => ?_)
        obtain ⟨rfl, hW⟩ := hp
        have e9 : (s_X7_arrive D nl nt ng l0) = (k_d (k_d D 14 0 0 (j_X7_noLorry_20 D l0)) 14 0 0 3, 0) := by unfold s_X7_arrive; first | done | (simp only [if_pos c1, if_pos c2, if_pos c3]; done) | rfl
        exact k_iret hx hb hr hlocks (⟨by rw [e9], by rw [e9]; exact hW⟩) hL dX7_arrive_42
    ·
      refine lv_aload_n hx hb dX7_arrive_21 rfl (lv_at hl 0 rfl) ?_
      refine lv_iconst (v := 2) hx hb dX7_arrive_22 (by decide) ?_
      refine k_callV (As := [.int 2]) (rest := []) ⟨hx, hb, hml, hown, hts⟩ hK (c_X7_fail2 X l hm (k_d D 14 0 0 (j_X7_noLorry_20 D l0)) 2) (cwV 1 hts gX7_arrive_X7_fail rfl rfl rfl (by decide +kernel) ⟨Nat.le_of_ble_eq_true rfl, Nat.le_of_ble_eq_true rfl⟩) (k_recv hK hW 14 0 hm.o (fun _ => rfl) rfl) hW rfl hl.1 rfl (Nat.le_of_ble_eq_true rfl) dX7_arrive_23 ⟨Nat.le_of_ble_eq_true rfl, Nat.le_of_ble_eq_true rfl⟩ hL (fun v9 H locs hp hL => ?_)
      obtain ⟨rfl, hW⟩ := hp
      have e9 : (s_X7_arrive D nl nt ng l0) = (k_d (k_d D 14 0 0 (j_X7_noLorry_20 D l0)) 14 0 0 2, 0) := by unfold s_X7_arrive; first | done | (simp only [if_pos c1, if_neg c2]; done) | rfl
      exact k_iret hx hb hr hlocks (⟨by rw [e9], by rw [e9]; exact hW⟩) hL dX7_arrive_26
  ·
    refine lv_iconst (v := 0) hx hb dX7_arrive_8 (by decide) ?_
    have e9 : (s_X7_arrive D nl nt ng l0) = (k_d D 14 0 0 (j_X7_noLorry_20 D l0), 0) := by unfold s_X7_arrive; first | done | (simp only [if_neg c1]; done) | rfl
    exact k_iret hx hb hr hlocks (⟨by rw [e9], by rw [e9]; exact hW⟩) hL dX7_arrive_9
def s_X7_addGang (D : KD) (nl : Nat) (nt : Nat) (ng : Nat) (fa : Int32) (be : Int32) (en : Int32) : KD × Int32 := (if (s_X7_isIn fa 1 9) = 0 then (k_d D 14 0 0 1, 0) else (if (s_X7_isIn be 0 1999) = 0 then (k_d D 14 0 0 1, 0) else (if (s_X7_isIn en (be + 1) 2000) = 0 then (k_d D 14 0 0 1, 0) else (if (D 14 0 3) = 4 then (k_d D 14 0 0 2, 0) else (k_d (k_d (k_d (k_d (k_d (k_d D 14 0 0 0) 15 19 ng fa) 15 20 ng be) 15 21 ng en) 15 22 ng (-1)) 14 0 3 ((D 14 0 3) + 1), D 14 0 3)))))
set_option maxHeartbeats 4000000 in
set_option maxRecDepth 100000 in
theorem c_X7_addGang (X : kX) (l : Launch) {n : Nat → Nat → Nat} {ad L : Nat → Nat → Nat → Nat} {C : Nat → Nat → Nat → Nat → Int32} {fr : Nat → Option Cell} {g : Nat} (hm : k_mod n g) (D : KD) (fa : Int32) (be : Int32) (en : Int32) {nl nt ng : Nat} (hwf : mWF D nl nt ng) : k_M X l yX7_addGang wsX7_addGang ({ frames := 2, cells := 0, slots := 0, locals := 34 }) [.ref (ad g 14 0), .int fa, .int be, .int en] (k_W X n ad L (k_g C g D) fr) (fun v H => v = some (.int ((s_X7_addGang D nl nt ng fa be en).2)) ∧ k_W X n ad L (k_g C g ((s_X7_addGang D nl nt ng fa be en).1)) fr H) 0 0 := by
  refine k_M.of (cc := cX7_addGang) (maxL := 4) (ret := (some .int)) (by decide) rfl (Nat.le_of_ble_eq_true rfl) ?_
  intro p e s m args below meth c ls hx hb hr hml hown hts hlocks hnm hK hW hl
  have hL : ∀ q ∈ ([] : List Loc), k_B X ≤ q.base := fun _ h => nomatch h
  have hl : lv_has ls 4 [(0, .ref (ad g 14 0)), (1, .int fa), (2, .int be), (3, .int en)] := hl
  have fX7 : ∀ w ∈ u_ws RX7 TX7 34, w.before args s = true := fun w h => hts w ((by decide +kernel : ∀ w ∈ u_ws RX7 TX7 34, w ∈ wsX7_addGang) w h)
  have hl8 := hwf.l8
  have ht16 := hwf.t16
  have hg4 := hwf.g4
  refine lv_iload_n hx hb dX7_addGang_0 rfl (lv_at hl 1 rfl) ?_
  refine lv_iconst (v := 1) hx hb dX7_addGang_1 (by decide) ?_
  refine lv_bipush (v := 9) hx hb dX7_addGang_2 (by decide) ?_
  refine k_callS (As := [.int fa, .int 1, .int 9]) (rest := []) ⟨hx, hb, hml, hown, hts⟩ hK (c_X7_isIn X l (k_W X n ad L (k_g C g D) fr) fa 1 9) (va_cwS 3 hts gX7_addGang_X7_isIn rfl rfl rfl (by decide +kernel) ⟨Nat.le_of_ble_eq_true rfl, Nat.le_of_ble_eq_true rfl⟩) hW rfl hl.1 rfl (Nat.le_of_ble_eq_true rfl) dX7_addGang_4 ⟨Nat.le_of_ble_eq_true rfl, Nat.le_of_ble_eq_true rfl⟩ hL (fun v9 H locs hp hL => ?_)
  obtain ⟨rfl, hW⟩ := hp
  refine lv_if_eq (tgt := 34) hx hb dX7_addGang_7 (by decide) (fun c1 => ?_) (fun c1 => ?_)
  ·
    refine lv_aload_n hx hb dX7_addGang_34 rfl (lv_at hl 0 rfl) ?_
    refine lv_iconst (v := 1) hx hb dX7_addGang_35 (by decide) ?_
    refine k_callV (As := [.int 1]) (rest := []) ⟨hx, hb, hml, hown, hts⟩ hK (c_X7_fail2 X l hm D 1) (cwV 1 hts gX7_addGang_X7_fail rfl rfl rfl (by decide +kernel) ⟨Nat.le_of_ble_eq_true rfl, Nat.le_of_ble_eq_true rfl⟩) (k_recv hK hW 14 0 hm.o (fun _ => rfl) rfl) hW rfl hl.1 rfl (Nat.le_of_ble_eq_true rfl) dX7_addGang_36 ⟨Nat.le_of_ble_eq_true rfl, Nat.le_of_ble_eq_true rfl⟩ hL (fun v9 H locs hp hL => ?_)
    obtain ⟨rfl, hW⟩ := hp
    have e9 : (s_X7_addGang D nl nt ng fa be en) = (k_d D 14 0 0 1, 0) := by unfold s_X7_addGang; first | done | (simp only [if_pos c1]; done) | rfl
    exact k_iret hx hb hr hlocks (⟨by rw [e9], by rw [e9]; exact hW⟩) hL dX7_addGang_39
  ·
    refine lv_iload_n hx hb dX7_addGang_10 rfl (lv_at hl 2 rfl) ?_
    refine lv_iconst (v := 0) hx hb dX7_addGang_11 (by decide) ?_
    refine lv_sipush (v := 1999) hx hb dX7_addGang_12 (by decide) ?_
    refine k_callS (As := [.int be, .int 0, .int 1999]) (rest := []) ⟨hx, hb, hml, hown, hts⟩ hK (c_X7_isIn X l (k_W X n ad L (k_g C g D) fr) be 0 1999) (va_cwS 3 hts gX7_addGang_X7_isIn rfl rfl rfl (by decide +kernel) ⟨Nat.le_of_ble_eq_true rfl, Nat.le_of_ble_eq_true rfl⟩) hW rfl hl.1 rfl (Nat.le_of_ble_eq_true rfl) dX7_addGang_15 ⟨Nat.le_of_ble_eq_true rfl, Nat.le_of_ble_eq_true rfl⟩ hL (fun v9 H locs hp hL => ?_)
    obtain ⟨rfl, hW⟩ := hp
    refine lv_if_eq (tgt := 34) hx hb dX7_addGang_18 (by decide) (fun c2 => ?_) (fun c2 => ?_)
    ·
      refine lv_aload_n hx hb dX7_addGang_34 rfl (lv_at hl 0 rfl) ?_
      refine lv_iconst (v := 1) hx hb dX7_addGang_35 (by decide) ?_
      refine k_callV (As := [.int 1]) (rest := []) ⟨hx, hb, hml, hown, hts⟩ hK (c_X7_fail2 X l hm D 1) (cwV 1 hts gX7_addGang_X7_fail rfl rfl rfl (by decide +kernel) ⟨Nat.le_of_ble_eq_true rfl, Nat.le_of_ble_eq_true rfl⟩) (k_recv hK hW 14 0 hm.o (fun _ => rfl) rfl) hW rfl hl.1 rfl (Nat.le_of_ble_eq_true rfl) dX7_addGang_36 ⟨Nat.le_of_ble_eq_true rfl, Nat.le_of_ble_eq_true rfl⟩ hL (fun v9 H locs hp hL => ?_)
      obtain ⟨rfl, hW⟩ := hp
      have e9 : (s_X7_addGang D nl nt ng fa be en) = (k_d D 14 0 0 1, 0) := by unfold s_X7_addGang; first | done | (simp only [if_neg c1, if_pos c2]; done) | rfl
      exact k_iret hx hb hr hlocks (⟨by rw [e9], by rw [e9]; exact hW⟩) hL dX7_addGang_39
    ·
      refine lv_iload_n hx hb dX7_addGang_21 rfl (lv_at hl 3 rfl) ?_
      refine lv_iload_n hx hb dX7_addGang_22 rfl (lv_at hl 2 rfl) ?_
      refine lv_iconst (v := 1) hx hb dX7_addGang_23 (by decide) ?_
      refine lv_iadd hx hb dX7_addGang_24 ?_
      refine lv_sipush (v := 2000) hx hb dX7_addGang_25 (by decide) ?_
      refine k_callS (As := [.int en, .int (be + 1), .int 2000]) (rest := []) ⟨hx, hb, hml, hown, hts⟩ hK (c_X7_isIn X l (k_W X n ad L (k_g C g D) fr) en (be + 1) 2000) (va_cwS 3 hts gX7_addGang_X7_isIn rfl rfl rfl (by decide +kernel) ⟨Nat.le_of_ble_eq_true rfl, Nat.le_of_ble_eq_true rfl⟩) hW rfl hl.1 rfl (Nat.le_of_ble_eq_true rfl) dX7_addGang_28 ⟨Nat.le_of_ble_eq_true rfl, Nat.le_of_ble_eq_true rfl⟩ hL (fun v9 H locs hp hL => ?_)
      obtain ⟨rfl, hW⟩ := hp
      refine lv_if_ne (tgt := 40) hx hb dX7_addGang_31 (by decide) (fun c3 => ?_) (fun c3 => ?_)
      ·
        refine lv_aload_n hx hb dX7_addGang_40 rfl (lv_at hl 0 rfl) ?_
        refine k_get (K := RX7) (T := TX7) (N := 34) (v := .int (D 14 0 3)) (w := .int (D 14 0 3)) hx hb fX7 hown hK hW 14 0 hm.o (fun _ => rfl) rfl 3 (by decide) (hts (.fieldLink RX7 131 "CrossdockeryModel" "gangs" "I") (by decide +kernel)) rfl rfl rfl dX7_addGang_41 ?_
        refine lv_iconst (v := 4) hx hb dX7_addGang_44 (by decide) ?_
        refine lv_icmp_ne (tgt := 54) hx hb dX7_addGang_45 (by decide) (fun c4 => ?_) (fun c4 => ?_)
        ·
          have hlt_ng : ng < 4 := k_lt_of_ne hwf.g (rfl : (4 : Int32) = nI 4) hg4 c4
          refine lv_aload_n hx hb dX7_addGang_54 rfl (lv_at hl 0 rfl) ?_
          refine lv_iconst (v := 0) hx hb dX7_addGang_55 (by decide) ?_
          refine k_put (K := RX7) (T := TX7) (N := 34) (x := 0) hx hb fX7 tyX7 tyX7_ok nmX7 hown hK hW hL 14 0 hm.o (fun _ => rfl) rfl 0 (by decide) (hts (.fieldLink RX7 93 "CrossdockeryModel" "thrown" "I") (by decide +kernel)) rfl rfl rfl rfl (fun _ => Nat.le_of_ble_eq_true rfl) (fun _ _ => rfl) dX7_addGang_56 (fun H locs hW hL => ?_)
          refine lv_aload_n hx hb dX7_addGang_59 rfl (lv_at hl 0 rfl) ?_
          refine k_get (K := RX7) (T := TX7) (N := 34) (v := .ref (ad g 15 19)) (w := .ref (ad g 15 19)) hx hb fX7 hown hK hW 14 0 hm.o (fun _ => rfl) rfl 26 (by decide) (hts (.fieldLink RX7 69 "CrossdockeryModel" "speed" "[I") (by decide +kernel)) rfl rfl rfl dX7_addGang_60 ?_
          refine lv_aload_n hx hb dX7_addGang_63 rfl (lv_at hl 0 rfl) ?_
          refine k_get (K := RX7) (T := TX7) (N := 34) (v := .int ((k_d D 14 0 0 0) 14 0 3)) (w := .int (D 14 0 3)) hx hb fX7 hown hK hW 14 0 hm.o (fun _ => rfl) rfl 3 (by decide) (hts (.fieldLink RX7 131 "CrossdockeryModel" "gangs" "I") (by decide +kernel)) rfl rfl (congrArg Value.int (k_dk rfl)) dX7_addGang_64 ?_
          refine lv_iload_n hx hb dX7_addGang_67 rfl (lv_at hl 1 rfl) ?_
          refine k_iast (z := 4) (k := ng) hx hb hK hW hL 15 19 (hm.a (i := 19) (by decide)) (fun _ => rfl) (by rw [hwf.g]; exact nI_clamp (by omega)) (by rw [hwf.g]; exact vp_in_nI (by omega) (by decide)) dX7_addGang_68 (fun H locs hW hL => ?_)
          refine lv_aload_n hx hb dX7_addGang_69 rfl (lv_at hl 0 rfl) ?_
          refine k_get (K := RX7) (T := TX7) (N := 34) (v := .ref (ad g 15 20)) (w := .ref (ad g 15 20)) hx hb fX7 hown hK hW 14 0 hm.o (fun _ => rfl) rfl 27 (by decide) (hts (.fieldLink RX7 72 "CrossdockeryModel" "first" "[I") (by decide +kernel)) rfl rfl rfl dX7_addGang_70 ?_
          refine lv_aload_n hx hb dX7_addGang_73 rfl (lv_at hl 0 rfl) ?_
          refine k_get (K := RX7) (T := TX7) (N := 34) (v := .int ((k_d (k_d D 14 0 0 0) 15 19 ng fa) 14 0 3)) (w := .int (D 14 0 3)) hx hb fX7 hown hK hW 14 0 hm.o (fun _ => rfl) rfl 3 (by decide) (hts (.fieldLink RX7 131 "CrossdockeryModel" "gangs" "I") (by decide +kernel)) rfl rfl (congrArg Value.int ((k_dr rfl).trans (k_dk rfl))) dX7_addGang_74 ?_
          refine lv_iload_n hx hb dX7_addGang_77 rfl (lv_at hl 2 rfl) ?_
          refine k_iast (z := 4) (k := ng) hx hb hK hW hL 15 20 (hm.a (i := 20) (by decide)) (fun _ => rfl) (by rw [hwf.g]; exact nI_clamp (by omega)) (by rw [hwf.g]; exact vp_in_nI (by omega) (by decide)) dX7_addGang_78 (fun H locs hW hL => ?_)
          refine lv_aload_n hx hb dX7_addGang_79 rfl (lv_at hl 0 rfl) ?_
          refine k_get (K := RX7) (T := TX7) (N := 34) (v := .ref (ad g 15 21)) (w := .ref (ad g 15 21)) hx hb fX7 hown hK hW 14 0 hm.o (fun _ => rfl) rfl 28 (by decide) (hts (.fieldLink RX7 75 "CrossdockeryModel" "end" "[I") (by decide +kernel)) rfl rfl rfl dX7_addGang_80 ?_
          refine lv_aload_n hx hb dX7_addGang_83 rfl (lv_at hl 0 rfl) ?_
          refine k_get (K := RX7) (T := TX7) (N := 34) (v := .int ((k_d (k_d (k_d D 14 0 0 0) 15 19 ng fa) 15 20 ng be) 14 0 3)) (w := .int (D 14 0 3)) hx hb fX7 hown hK hW 14 0 hm.o (fun _ => rfl) rfl 3 (by decide) (hts (.fieldLink RX7 131 "CrossdockeryModel" "gangs" "I") (by decide +kernel)) rfl rfl (congrArg Value.int ((k_dr rfl).trans ((k_dr rfl).trans (k_dk rfl)))) dX7_addGang_84 ?_
          refine lv_iload_n hx hb dX7_addGang_87 rfl (lv_at hl 3 rfl) ?_
          refine k_iast (z := 4) (k := ng) hx hb hK hW hL 15 21 (hm.a (i := 21) (by decide)) (fun _ => rfl) (by rw [hwf.g]; exact nI_clamp (by omega)) (by rw [hwf.g]; exact vp_in_nI (by omega) (by decide)) dX7_addGang_88 (fun H locs hW hL => ?_)
          refine lv_aload_n hx hb dX7_addGang_89 rfl (lv_at hl 0 rfl) ?_
          refine k_get (K := RX7) (T := TX7) (N := 34) (v := .ref (ad g 15 22)) (w := .ref (ad g 15 22)) hx hb fX7 hown hK hW 14 0 hm.o (fun _ => rfl) rfl 29 (by decide) (hts (.fieldLink RX7 78 "CrossdockeryModel" "at" "[I") (by decide +kernel)) rfl rfl rfl dX7_addGang_90 ?_
          refine lv_aload_n hx hb dX7_addGang_93 rfl (lv_at hl 0 rfl) ?_
          refine k_get (K := RX7) (T := TX7) (N := 34) (v := .int ((k_d (k_d (k_d (k_d D 14 0 0 0) 15 19 ng fa) 15 20 ng be) 15 21 ng en) 14 0 3)) (w := .int (D 14 0 3)) hx hb fX7 hown hK hW 14 0 hm.o (fun _ => rfl) rfl 3 (by decide) (hts (.fieldLink RX7 131 "CrossdockeryModel" "gangs" "I") (by decide +kernel)) rfl rfl (congrArg Value.int ((k_dr rfl).trans ((k_dr rfl).trans ((k_dr rfl).trans (k_dk rfl))))) dX7_addGang_94 ?_
          refine lv_iconst (v := (-1)) hx hb dX7_addGang_97 (by decide) ?_
          refine k_iast (z := 4) (k := ng) hx hb hK hW hL 15 22 (hm.a (i := 22) (by decide)) (fun _ => rfl) (by rw [hwf.g]; exact nI_clamp (by omega)) (by rw [hwf.g]; exact vp_in_nI (by omega) (by decide)) dX7_addGang_98 (fun H locs hW hL => ?_)
          refine lv_aload_n hx hb dX7_addGang_99 rfl (lv_at hl 0 rfl) ?_
          refine lv_dup hx hb dX7_addGang_100 rfl ?_
          refine k_get (K := RX7) (T := TX7) (N := 34) (v := .int ((k_d (k_d (k_d (k_d (k_d D 14 0 0 0) 15 19 ng fa) 15 20 ng be) 15 21 ng en) 15 22 ng (-1)) 14 0 3)) (w := .int (D 14 0 3)) hx hb fX7 hown hK hW 14 0 hm.o (fun _ => rfl) rfl 3 (by decide) (hts (.fieldLink RX7 131 "CrossdockeryModel" "gangs" "I") (by decide +kernel)) rfl rfl (congrArg Value.int ((k_dr rfl).trans ((k_dr rfl).trans ((k_dr rfl).trans ((k_dr rfl).trans (k_dk rfl)))))) dX7_addGang_101 ?_
          refine lv_dup_x1 hx hb dX7_addGang_104 rfl rfl ?_
          refine lv_iconst (v := 1) hx hb dX7_addGang_105 (by decide) ?_
          refine lv_iadd hx hb dX7_addGang_106 ?_
          refine k_put (K := RX7) (T := TX7) (N := 34) (x := ((D 14 0 3) + 1)) hx hb fX7 tyX7 tyX7_ok nmX7 hown hK hW hL 14 0 hm.o (fun _ => rfl) rfl 3 (by decide) (hts (.fieldLink RX7 131 "CrossdockeryModel" "gangs" "I") (by decide +kernel)) rfl rfl rfl rfl (fun _ => Nat.le_of_ble_eq_true rfl) (fun _ _ => rfl) dX7_addGang_107 (fun H locs hW hL => ?_)
          have e9 : (s_X7_addGang D nl nt ng fa be en) = (k_d (k_d (k_d (k_d (k_d (k_d D 14 0 0 0) 15 19 ng fa) 15 20 ng be) 15 21 ng en) 15 22 ng (-1)) 14 0 3 ((D 14 0 3) + 1), D 14 0 3) := by unfold s_X7_addGang; first | done | (simp only [if_neg c1, if_neg c2, if_neg c3, if_neg c4]; done) | rfl
          exact k_iret hx hb hr hlocks (⟨by rw [e9], by rw [e9]; exact hW⟩) hL dX7_addGang_110
        ·
          refine lv_aload_n hx hb dX7_addGang_48 rfl (lv_at hl 0 rfl) ?_
          refine lv_iconst (v := 2) hx hb dX7_addGang_49 (by decide) ?_
          refine k_callV (As := [.int 2]) (rest := []) ⟨hx, hb, hml, hown, hts⟩ hK (c_X7_fail2 X l hm D 2) (cwV 1 hts gX7_addGang_X7_fail rfl rfl rfl (by decide +kernel) ⟨Nat.le_of_ble_eq_true rfl, Nat.le_of_ble_eq_true rfl⟩) (k_recv hK hW 14 0 hm.o (fun _ => rfl) rfl) hW rfl hl.1 rfl (Nat.le_of_ble_eq_true rfl) dX7_addGang_50 ⟨Nat.le_of_ble_eq_true rfl, Nat.le_of_ble_eq_true rfl⟩ hL (fun v9 H locs hp hL => ?_)
          obtain ⟨rfl, hW⟩ := hp
          have e9 : (s_X7_addGang D nl nt ng fa be en) = (k_d D 14 0 0 2, 0) := by unfold s_X7_addGang; first | done | (simp only [if_neg c1, if_neg c2, if_neg c3, if_pos c4]; done) | rfl
          exact k_iret hx hb hr hlocks (⟨by rw [e9], by rw [e9]; exact hW⟩) hL dX7_addGang_53
      ·
        refine lv_aload_n hx hb dX7_addGang_34 rfl (lv_at hl 0 rfl) ?_
        refine lv_iconst (v := 1) hx hb dX7_addGang_35 (by decide) ?_
        refine k_callV (As := [.int 1]) (rest := []) ⟨hx, hb, hml, hown, hts⟩ hK (c_X7_fail2 X l hm D 1) (cwV 1 hts gX7_addGang_X7_fail rfl rfl rfl (by decide +kernel) ⟨Nat.le_of_ble_eq_true rfl, Nat.le_of_ble_eq_true rfl⟩) (k_recv hK hW 14 0 hm.o (fun _ => rfl) rfl) hW rfl hl.1 rfl (Nat.le_of_ble_eq_true rfl) dX7_addGang_36 ⟨Nat.le_of_ble_eq_true rfl, Nat.le_of_ble_eq_true rfl⟩ hL (fun v9 H locs hp hL => ?_)
        obtain ⟨rfl, hW⟩ := hp
        have e9 : (s_X7_addGang D nl nt ng fa be en) = (k_d D 14 0 0 1, 0) := by unfold s_X7_addGang; first | done | (simp only [if_neg c1, if_neg c2, if_pos c3]; done) | rfl
        exact k_iret hx hb hr hlocks (⟨by rw [e9], by rw [e9]; exact hW⟩) hL dX7_addGang_39
def s_X7_moveGang (D : KD) (nl : Nat) (nt : Nat) (ng : Nat) (g0 : Int32) (d : Int32) : KD × Int32 := (if (s_X7_isIn g0 0 ((D 14 0 3) - 1)) = 0 then (k_d D 14 0 0 1, 0) else (if (s_X7_isIn d (-1) 3) = 0 then (k_d D 14 0 0 1, 0) else (k_d (k_d D 14 0 0 0) 15 22 (g0.toNatClampNeg) d, D 15 22 (g0.toNatClampNeg))))
set_option maxHeartbeats 4000000 in
set_option maxRecDepth 100000 in
theorem c_X7_moveGang (X : kX) (l : Launch) {n : Nat → Nat → Nat} {ad L : Nat → Nat → Nat → Nat} {C : Nat → Nat → Nat → Nat → Int32} {fr : Nat → Option Cell} {g : Nat} (hm : k_mod n g) (D : KD) (g0 : Int32) (d : Int32) {nl nt ng : Nat} (hwf : mWF D nl nt ng) : k_M X l yX7_moveGang wsX7_moveGang ({ frames := 2, cells := 0, slots := 0, locals := 34 }) [.ref (ad g 14 0), .int g0, .int d] (k_W X n ad L (k_g C g D) fr) (fun v H => v = some (.int ((s_X7_moveGang D nl nt ng g0 d).2)) ∧ k_W X n ad L (k_g C g ((s_X7_moveGang D nl nt ng g0 d).1)) fr H) 0 0 := by
  refine k_M.of (cc := cX7_moveGang) (maxL := 4) (ret := (some .int)) (by decide) rfl (Nat.le_of_ble_eq_true rfl) ?_
  intro p e s m args below meth c ls hx hb hr hml hown hts hlocks hnm hK hW hl
  have hL : ∀ q ∈ ([] : List Loc), k_B X ≤ q.base := fun _ h => nomatch h
  have hl : lv_has ls 4 [(0, .ref (ad g 14 0)), (1, .int g0), (2, .int d)] := hl
  have fX7 : ∀ w ∈ u_ws RX7 TX7 34, w.before args s = true := fun w h => hts w ((by decide +kernel : ∀ w ∈ u_ws RX7 TX7 34, w ∈ wsX7_moveGang) w h)
  have hl8 := hwf.l8
  have ht16 := hwf.t16
  have hg4 := hwf.g4
  refine lv_iload_n hx hb dX7_moveGang_0 rfl (lv_at hl 1 rfl) ?_
  refine lv_iconst (v := 0) hx hb dX7_moveGang_1 (by decide) ?_
  refine lv_aload_n hx hb dX7_moveGang_2 rfl (lv_at hl 0 rfl) ?_
  refine k_get (K := RX7) (T := TX7) (N := 34) (v := .int (D 14 0 3)) (w := .int (D 14 0 3)) hx hb fX7 hown hK hW 14 0 hm.o (fun _ => rfl) rfl 3 (by decide) (hts (.fieldLink RX7 131 "CrossdockeryModel" "gangs" "I") (by decide +kernel)) rfl rfl rfl dX7_moveGang_3 ?_
  refine lv_iconst (v := 1) hx hb dX7_moveGang_6 (by decide) ?_
  refine lv_isub hx hb dX7_moveGang_7 ?_
  refine k_callS (As := [.int g0, .int 0, .int ((D 14 0 3) - 1)]) (rest := []) ⟨hx, hb, hml, hown, hts⟩ hK (c_X7_isIn X l (k_W X n ad L (k_g C g D) fr) g0 0 ((D 14 0 3) - 1)) (va_cwS 3 hts gX7_moveGang_X7_isIn rfl rfl rfl (by decide +kernel) ⟨Nat.le_of_ble_eq_true rfl, Nat.le_of_ble_eq_true rfl⟩) hW rfl hl.1 rfl (Nat.le_of_ble_eq_true rfl) dX7_moveGang_8 ⟨Nat.le_of_ble_eq_true rfl, Nat.le_of_ble_eq_true rfl⟩ hL (fun v9 H locs hp hL => ?_)
  obtain ⟨rfl, hW⟩ := hp
  refine lv_if_eq (tgt := 23) hx hb dX7_moveGang_11 (by decide) (fun c1 => ?_) (fun c1 => ?_)
  ·
    refine lv_aload_n hx hb dX7_moveGang_23 rfl (lv_at hl 0 rfl) ?_
    refine lv_iconst (v := 1) hx hb dX7_moveGang_24 (by decide) ?_
    refine k_callV (As := [.int 1]) (rest := []) ⟨hx, hb, hml, hown, hts⟩ hK (c_X7_fail2 X l hm D 1) (cwV 1 hts gX7_moveGang_X7_fail rfl rfl rfl (by decide +kernel) ⟨Nat.le_of_ble_eq_true rfl, Nat.le_of_ble_eq_true rfl⟩) (k_recv hK hW 14 0 hm.o (fun _ => rfl) rfl) hW rfl hl.1 rfl (Nat.le_of_ble_eq_true rfl) dX7_moveGang_25 ⟨Nat.le_of_ble_eq_true rfl, Nat.le_of_ble_eq_true rfl⟩ hL (fun v9 H locs hp hL => ?_)
    obtain ⟨rfl, hW⟩ := hp
    have e9 : (s_X7_moveGang D nl nt ng g0 d) = (k_d D 14 0 0 1, 0) := by unfold s_X7_moveGang; first | done | (simp only [if_pos c1]; done) | rfl
    exact k_iret hx hb hr hlocks (⟨by rw [e9], by rw [e9]; exact hW⟩) hL dX7_moveGang_28
  ·
    have hin_g0 := vp_in_of_isIn (N := ng) (by omega) (by have q9 := c1; rw [hwf.g] at q9; exact q9)
    refine lv_iload_n hx hb dX7_moveGang_14 rfl (lv_at hl 2 rfl) ?_
    refine lv_iconst (v := (-1)) hx hb dX7_moveGang_15 (by decide) ?_
    refine lv_iconst (v := 3) hx hb dX7_moveGang_16 (by decide) ?_
    refine k_callS (As := [.int d, .int (-1), .int 3]) (rest := []) ⟨hx, hb, hml, hown, hts⟩ hK (c_X7_isIn X l (k_W X n ad L (k_g C g D) fr) d (-1) 3) (va_cwS 3 hts gX7_moveGang_X7_isIn rfl rfl rfl (by decide +kernel) ⟨Nat.le_of_ble_eq_true rfl, Nat.le_of_ble_eq_true rfl⟩) hW rfl hl.1 rfl (Nat.le_of_ble_eq_true rfl) dX7_moveGang_17 ⟨Nat.le_of_ble_eq_true rfl, Nat.le_of_ble_eq_true rfl⟩ hL (fun v9 H locs hp hL => ?_)
    obtain ⟨rfl, hW⟩ := hp
    refine lv_if_ne (tgt := 29) hx hb dX7_moveGang_20 (by decide) (fun c2 => ?_) (fun c2 => ?_)
    ·
      refine lv_aload_n hx hb dX7_moveGang_29 rfl (lv_at hl 0 rfl) ?_
      refine lv_iconst (v := 0) hx hb dX7_moveGang_30 (by decide) ?_
      refine k_put (K := RX7) (T := TX7) (N := 34) (x := 0) hx hb fX7 tyX7 tyX7_ok nmX7 hown hK hW hL 14 0 hm.o (fun _ => rfl) rfl 0 (by decide) (hts (.fieldLink RX7 93 "CrossdockeryModel" "thrown" "I") (by decide +kernel)) rfl rfl rfl rfl (fun _ => Nat.le_of_ble_eq_true rfl) (fun _ _ => rfl) dX7_moveGang_31 (fun H locs hW hL => ?_)
      refine lv_aload_n hx hb dX7_moveGang_34 rfl (lv_at hl 0 rfl) ?_
      refine k_get (K := RX7) (T := TX7) (N := 34) (v := .ref (ad g 15 22)) (w := .ref (ad g 15 22)) hx hb fX7 hown hK hW 14 0 hm.o (fun _ => rfl) rfl 29 (by decide) (hts (.fieldLink RX7 78 "CrossdockeryModel" "at" "[I") (by decide +kernel)) rfl rfl rfl dX7_moveGang_35 ?_
      refine lv_iload_n hx hb dX7_moveGang_38 rfl (lv_at hl 1 rfl) ?_
      refine k_iald (z := 4) (k := (g0.toNatClampNeg)) hx hb hK hW 15 22 (hm.a (i := 22) (by decide)) (fun _ => rfl) rfl (hin_g0.mono (by omega)) (v := (D 15 22 (g0.toNatClampNeg))) (k_dr rfl) dX7_moveGang_39 ?_
      refine lv_istore_n (lv' := [(3, .int (D 15 22 (g0.toNatClampNeg))), (0, .ref (ad g 14 0)), (1, .int g0), (2, .int d)]) hx hb dX7_moveGang_40 rfl hl (by decide) rfl (fun ls hl => ?_)
      refine lv_aload_n hx hb dX7_moveGang_41 rfl (lv_at hl 1 rfl) ?_
      refine k_get (K := RX7) (T := TX7) (N := 34) (v := .ref (ad g 15 22)) (w := .ref (ad g 15 22)) hx hb fX7 hown hK hW 14 0 hm.o (fun _ => rfl) rfl 29 (by decide) (hts (.fieldLink RX7 78 "CrossdockeryModel" "at" "[I") (by decide +kernel)) rfl rfl rfl dX7_moveGang_42 ?_
      refine lv_iload_n hx hb dX7_moveGang_45 rfl (lv_at hl 2 rfl) ?_
      refine lv_iload_n hx hb dX7_moveGang_46 rfl (lv_at hl 3 rfl) ?_
      refine k_iast (z := 4) (k := (g0.toNatClampNeg)) hx hb hK hW hL 15 22 (hm.a (i := 22) (by decide)) (fun _ => rfl) rfl (hin_g0.mono (by omega)) dX7_moveGang_47 (fun H locs hW hL => ?_)
      refine lv_iload_n hx hb dX7_moveGang_48 rfl (lv_at hl 0 rfl) ?_
      have e9 : (s_X7_moveGang D nl nt ng g0 d) = (k_d (k_d D 14 0 0 0) 15 22 (g0.toNatClampNeg) d, D 15 22 (g0.toNatClampNeg)) := by unfold s_X7_moveGang; first | done | (simp only [if_neg c1, if_neg c2]; done) | rfl
      exact k_iret hx hb hr hlocks (⟨by rw [e9], by rw [e9]; exact hW⟩) hL dX7_moveGang_49
    ·
      refine lv_aload_n hx hb dX7_moveGang_23 rfl (lv_at hl 0 rfl) ?_
      refine lv_iconst (v := 1) hx hb dX7_moveGang_24 (by decide) ?_
      refine k_callV (As := [.int 1]) (rest := []) ⟨hx, hb, hml, hown, hts⟩ hK (c_X7_fail2 X l hm D 1) (cwV 1 hts gX7_moveGang_X7_fail rfl rfl rfl (by decide +kernel) ⟨Nat.le_of_ble_eq_true rfl, Nat.le_of_ble_eq_true rfl⟩) (k_recv hK hW 14 0 hm.o (fun _ => rfl) rfl) hW rfl hl.1 rfl (Nat.le_of_ble_eq_true rfl) dX7_moveGang_25 ⟨Nat.le_of_ble_eq_true rfl, Nat.le_of_ble_eq_true rfl⟩ hL (fun v9 H locs hp hL => ?_)
      obtain ⟨rfl, hW⟩ := hp
      have e9 : (s_X7_moveGang D nl nt ng g0 d) = (k_d D 14 0 0 1, 0) := by unfold s_X7_moveGang; first | done | (simp only [if_neg c1, if_pos c2]; done) | rfl
      exact k_iret hx hb hr hlocks (⟨by rw [e9], by rw [e9]; exact hW⟩) hL dX7_moveGang_28
