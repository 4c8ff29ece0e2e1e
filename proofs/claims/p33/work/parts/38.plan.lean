/-! the search for the best plan: a plan stands beside the dock, of the same owner -/
def kPl (n : Nat → Nat → Nat) (g : Nat) : Prop := n g 21 = 1 ∧ n g 22 = 4
theorem kPl.o {n : Nat → Nat → Nat} {g : Nat} (h : kPl n g) : k_v n g 21 0 := by
  show 0 < n g 21
  rw [h.1]; decide
theorem kPl.a {n : Nat → Nat → Nat} {g : Nat} (h : kPl n g) {i : Nat} (hi : i < 4) : k_v n g 22 i := by
  show i < n g 22
  rw [h.2]; exact hi
theorem k_pl8 (a b : Nat) : nI a * 8 + nI b = nI (a * 8 + b) := by
  unfold nI
  rw [Int32.ofNat_add, Int32.ofNat_mul]
  rfl
def s_X4_isOpenAt (D : KD) (lo : Int32) : Int32 := (if lo < 0 then 0 else (if lo ≥ 8 then 0 else (if (D 22 0 (lo.toNatClampNeg)) = 0 then 0 else 1)))
set_option maxHeartbeats 400000 in
set_option maxRecDepth 100000 in
theorem c_X4_isOpenAt (X : kX) (l : Launch) {n : Nat → Nat → Nat} {ad L : Nat → Nat → Nat → Nat} {C : Nat → Nat → Nat → Nat → Int32} {fr : Nat → Option Cell} {g : Nat} {nl nt ng : Nat} (hd : kDk n g nl nt ng) (D : KD) (hp : kPl n g) (lo : Int32) : k_M X l yX4_isOpenAt wsX4_isOpenAt ({ frames := 1, cells := 0, slots := 0, locals := 12 }) [.ref (ad g 21 0), .int lo] (k_W X n ad L (k_g C g D) fr) (fun v H => v = some (.int (s_X4_isOpenAt D lo)) ∧ k_W X n ad L (k_g C g D) fr H) 0 0 := by
  refine k_M.of (cc := cX4_isOpenAt) (maxL := 2) (ret := (some .boolean)) (by decide) rfl (Nat.le_of_ble_eq_true rfl) ?_
  intro p e s m args below meth c ls hx hb hr hml hown hts hlocks hnm hK hW hl
  have hL : ∀ q ∈ ([] : List Loc), k_B X ≤ q.base := fun _ h => nomatch h
  have hl : lv_has ls 2 [(0, .ref (ad g 21 0)), (1, .int lo)] := hl
  have fX4 : ∀ w ∈ u_ws RX4 TX4 6, w.before args s = true := fun w h => hts w ((by decide +kernel : ∀ w ∈ u_ws RX4 TX4 6, w ∈ wsX4_isOpenAt) w h)
  have hl8 := hd.l8
  have ht16 := hd.t16
  have hg4 := hd.g4
  refine lv_iload_n hx hb dX4_isOpenAt_0 rfl (lv_at hl 1 rfl) ?_
  refine lv_if_lt (tgt := 26) hx hb dX4_isOpenAt_1 (by decide) (fun c1 => ?_) (fun c1 => ?_)
  ·
    refine lv_iconst (v := 0) hx hb dX4_isOpenAt_26 (by decide) ?_
    have e9 : (s_X4_isOpenAt D lo) = 0 := by unfold s_X4_isOpenAt; first | done | (simp only [if_pos c1]; done) | rfl
    exact k_zret hx hb hr (by decide) hlocks (⟨by rw [e9], hW⟩) hL dX4_isOpenAt_27
  ·
    refine lv_iload_n hx hb dX4_isOpenAt_4 rfl (lv_at hl 1 rfl) ?_
    refine lv_aload_n hx hb dX4_isOpenAt_5 rfl (lv_at hl 0 rfl) ?_
    refine k_get (K := RX4) (T := TX4) (N := 6) (v := .ref (ad g 22 0)) (w := .ref (ad g 22 0)) hx hb fX4 hown hK hW 21 0 hp.o (fun _ => rfl) rfl 1 (by decide) (hts (.fieldLink RX4 9 "Crossdockery$Plan" "isOpen" "[Z") (by decide +kernel)) rfl rfl rfl dX4_isOpenAt_6 ?_
    refine k_alen (t0 := 1) (v := 8) hx hb hK hW 22 0 (hp.a (i := 0) (by decide)) (fun _ => rfl) rfl rfl dX4_isOpenAt_9 ?_
    refine lv_icmp_ge (tgt := 26) hx hb dX4_isOpenAt_10 (by decide) (fun c2 => ?_) (fun c2 => ?_)
    ·
      refine lv_iconst (v := 0) hx hb dX4_isOpenAt_26 (by decide) ?_
      have e9 : (s_X4_isOpenAt D lo) = 0 := by unfold s_X4_isOpenAt; first | done | (simp only [if_neg c1, if_pos c2]; done) | rfl
      exact k_zret hx hb hr (by decide) hlocks (⟨by rw [e9], hW⟩) hL dX4_isOpenAt_27
    ·
      have hin_1 := vp_in_of_nge (N := 8) (by decide) c1 (show ¬ lo ≥ nI 8 from c2)
      refine lv_aload_n hx hb dX4_isOpenAt_13 rfl (lv_at hl 0 rfl) ?_
      refine k_get (K := RX4) (T := TX4) (N := 6) (v := .ref (ad g 22 0)) (w := .ref (ad g 22 0)) hx hb fX4 hown hK hW 21 0 hp.o (fun _ => rfl) rfl 1 (by decide) (hts (.fieldLink RX4 9 "Crossdockery$Plan" "isOpen" "[Z") (by decide +kernel)) rfl rfl rfl dX4_isOpenAt_14 ?_
      refine lv_iload_n hx hb dX4_isOpenAt_17 rfl (lv_at hl 1 rfl) ?_
      refine k_zald (z := 8) (k := (lo.toNatClampNeg)) hx hb hK hW 22 0 (hp.a (i := 0) (by decide)) (fun _ => rfl) rfl hin_1 (v := (D 22 0 (lo.toNatClampNeg))) rfl dX4_isOpenAt_18 ?_
      refine lv_if_eq (tgt := 26) hx hb dX4_isOpenAt_19 (by decide) (fun c3 => ?_) (fun c3 => ?_)
      ·
        refine lv_iconst (v := 0) hx hb dX4_isOpenAt_26 (by decide) ?_
        have e9 : (s_X4_isOpenAt D lo) = 0 := by unfold s_X4_isOpenAt; first | done | (simp only [if_neg c1, if_neg c2, if_pos c3]; done) | rfl
        exact k_zret hx hb hr (by decide) hlocks (⟨by rw [e9], hW⟩) hL dX4_isOpenAt_27
      ·
        refine lv_iconst (v := 1) hx hb dX4_isOpenAt_22 (by decide) ?_
        refine lv_goto (tgt := 27) hx hb dX4_isOpenAt_23 (by decide) ?_
        have e9 : (s_X4_isOpenAt D lo) = 1 := by unfold s_X4_isOpenAt; first | done | (simp only [if_neg c1, if_neg c2, if_neg c3]; done) | rfl
        exact k_zret hx hb hr (by decide) hlocks (⟨by rw [e9], hW⟩) hL dX4_isOpenAt_27
def s_X4_bestDoorOf (D : KD) (lo : Int32) : Int32 := (if lo < 0 then (-1) else (if lo ≥ 8 then (-1) else D 22 2 (lo.toNatClampNeg)))
set_option maxHeartbeats 400000 in
set_option maxRecDepth 100000 in
theorem c_X4_bestDoorOf (X : kX) (l : Launch) {n : Nat → Nat → Nat} {ad L : Nat → Nat → Nat → Nat} {C : Nat → Nat → Nat → Nat → Int32} {fr : Nat → Option Cell} {g : Nat} {nl nt ng : Nat} (hd : kDk n g nl nt ng) (D : KD) (hp : kPl n g) (lo : Int32) : k_M X l yX4_bestDoorOf wsX4_bestDoorOf ({ frames := 1, cells := 0, slots := 0, locals := 12 }) [.ref (ad g 21 0), .int lo] (k_W X n ad L (k_g C g D) fr) (fun v H => v = some (.int (s_X4_bestDoorOf D lo)) ∧ k_W X n ad L (k_g C g D) fr H) 0 0 := by
  refine k_M.of (cc := cX4_bestDoorOf) (maxL := 2) (ret := (some .int)) (by decide) rfl (Nat.le_of_ble_eq_true rfl) ?_
  intro p e s m args below meth c ls hx hb hr hml hown hts hlocks hnm hK hW hl
  have hL : ∀ q ∈ ([] : List Loc), k_B X ≤ q.base := fun _ h => nomatch h
  have hl : lv_has ls 2 [(0, .ref (ad g 21 0)), (1, .int lo)] := hl
  have fX4 : ∀ w ∈ u_ws RX4 TX4 6, w.before args s = true := fun w h => hts w ((by decide +kernel : ∀ w ∈ u_ws RX4 TX4 6, w ∈ wsX4_bestDoorOf) w h)
  have hl8 := hd.l8
  have ht16 := hd.t16
  have hg4 := hd.g4
  refine lv_iload_n hx hb dX4_bestDoorOf_0 rfl (lv_at hl 1 rfl) ?_
  refine lv_if_lt (tgt := 22) hx hb dX4_bestDoorOf_1 (by decide) (fun c1 => ?_) (fun c1 => ?_)
  ·
    refine lv_iconst (v := (-1)) hx hb dX4_bestDoorOf_22 (by decide) ?_
    have e9 : (s_X4_bestDoorOf D lo) = (-1) := by unfold s_X4_bestDoorOf; first | done | (simp only [if_pos c1]; done) | rfl
    exact k_iret hx hb hr hlocks (⟨by rw [e9], hW⟩) hL dX4_bestDoorOf_23
  ·
    refine lv_iload_n hx hb dX4_bestDoorOf_4 rfl (lv_at hl 1 rfl) ?_
    refine lv_aload_n hx hb dX4_bestDoorOf_5 rfl (lv_at hl 0 rfl) ?_
    refine k_get (K := RX4) (T := TX4) (N := 6) (v := .ref (ad g 22 2)) (w := .ref (ad g 22 2)) hx hb fX4 hown hK hW 21 0 hp.o (fun _ => rfl) rfl 3 (by decide) (hts (.fieldLink RX4 19 "Crossdockery$Plan" "best" "[I") (by decide +kernel)) rfl rfl rfl dX4_bestDoorOf_6 ?_
    refine k_alen (t0 := 0) (v := 8) hx hb hK hW 22 2 (hp.a (i := 2) (by decide)) (fun _ => rfl) rfl rfl dX4_bestDoorOf_9 ?_
    refine lv_icmp_ge (tgt := 22) hx hb dX4_bestDoorOf_10 (by decide) (fun c2 => ?_) (fun c2 => ?_)
    ·
      refine lv_iconst (v := (-1)) hx hb dX4_bestDoorOf_22 (by decide) ?_
      have e9 : (s_X4_bestDoorOf D lo) = (-1) := by unfold s_X4_bestDoorOf; first | done | (simp only [if_neg c1, if_pos c2]; done) | rfl
      exact k_iret hx hb hr hlocks (⟨by rw [e9], hW⟩) hL dX4_bestDoorOf_23
    ·
      have hin_1 := vp_in_of_nge (N := 8) (by decide) c1 (show ¬ lo ≥ nI 8 from c2)
      refine lv_aload_n hx hb dX4_bestDoorOf_13 rfl (lv_at hl 0 rfl) ?_
      refine k_get (K := RX4) (T := TX4) (N := 6) (v := .ref (ad g 22 2)) (w := .ref (ad g 22 2)) hx hb fX4 hown hK hW 21 0 hp.o (fun _ => rfl) rfl 3 (by decide) (hts (.fieldLink RX4 19 "Crossdockery$Plan" "best" "[I") (by decide +kernel)) rfl rfl rfl dX4_bestDoorOf_14 ?_
      refine lv_iload_n hx hb dX4_bestDoorOf_17 rfl (lv_at hl 1 rfl) ?_
      refine k_iald (z := 8) (k := (lo.toNatClampNeg)) hx hb hK hW 22 2 (hp.a (i := 2) (by decide)) (fun _ => rfl) rfl hin_1 (v := (D 22 2 (lo.toNatClampNeg))) rfl dX4_bestDoorOf_18 ?_
      refine lv_goto (tgt := 23) hx hb dX4_bestDoorOf_19 (by decide) ?_
      have e9 : (s_X4_bestDoorOf D lo) = D 22 2 (lo.toNatClampNeg) := by unfold s_X4_bestDoorOf; first | done | (simp only [if_neg c1, if_neg c2]; done) | rfl
      exact k_iret hx hb hr hlocks (⟨by rw [e9], hW⟩) hL dX4_bestDoorOf_23
def f_X4_keep_7 (D : KD) (wy : Int32) (k7 : Nat) (z7 : KD) : KD := (k_d z7 22 2 k7 (z7 22 1 k7))
def l_X4_keep_7 (D : KD) (wy : Int32) : KD := it (f_X4_keep_7 D wy) 8 (k_d D 21 0 5 wy)
def s_X4_keep (D : KD) (wy : Int32) : KD := (l_X4_keep_7 D wy)
set_option maxHeartbeats 400000 in
set_option maxRecDepth 100000 in
theorem c_X4_keep (X : kX) (l : Launch) {n : Nat → Nat → Nat} {ad L : Nat → Nat → Nat → Nat} {C : Nat → Nat → Nat → Nat → Int32} {fr : Nat → Option Cell} {g : Nat} {nl nt ng : Nat} (hd : kDk n g nl nt ng) (D : KD) (hp : kPl n g) (wy : Int32) : k_M X l yX4_keep wsX4_keep ({ frames := 1, cells := 0, slots := 0, locals := 12 }) [.ref (ad g 21 0), .int wy] (k_W X n ad L (k_g C g D) fr) (fun v H => v = none ∧ k_W X n ad L (k_g C g (s_X4_keep D wy)) fr H) 0 0 := by
  refine k_M.of (cc := cX4_keep) (maxL := 3) (ret := none) (by decide) rfl (Nat.le_of_ble_eq_true rfl) ?_
  intro p e s m args below meth c ls hx hb hr hml hown hts hlocks hnm hK hW hl
  have hL : ∀ q ∈ ([] : List Loc), k_B X ≤ q.base := fun _ h => nomatch h
  have hl : lv_has ls 3 [(0, .ref (ad g 21 0)), (1, .int wy)] := hl
  have fX4 : ∀ w ∈ u_ws RX4 TX4 6, w.before args s = true := fun w h => hts w ((by decide +kernel : ∀ w ∈ u_ws RX4 TX4 6, w ∈ wsX4_keep) w h)
  have hl8 := hd.l8
  have ht16 := hd.t16
  have hg4 := hd.g4
  refine lv_aload_n hx hb dX4_keep_0 rfl (lv_at hl 0 rfl) ?_
  refine lv_iload_n hx hb dX4_keep_1 rfl (lv_at hl 1 rfl) ?_
  refine k_put (K := RX4) (T := TX4) (N := 6) (x := wy) hx hb fX4 tyX4 tyX4_ok nmX4 hown hK hW hL 21 0 hp.o (fun _ => rfl) rfl 5 (by decide) (hts (.fieldLink RX4 25 "Crossdockery$Plan" "least" "I") (by decide +kernel)) rfl rfl rfl rfl (fun _ => Nat.le_of_ble_eq_true rfl) (fun _ _ => rfl) dX4_keep_2 (fun H locs hW hL => ?_)
  refine lv_iconst (v := 0) hx hb dX4_keep_5 (by decide) ?_
  refine lv_istore_n (lv' := [(2, .int 0), (0, .ref (ad g 21 0)), (1, .int wy)]) hx hb dX4_keep_6 rfl hl (by decide) rfl (fun ls hl => ?_)
  refine k_for (8) (fun k7 H locs ls => ∃ z7 : KD, z7 = it (f_X4_keep_7 D wy) k7 (k_d D 21 0 5 wy) ∧ k_W X n ad L (k_g C g z7) fr H ∧ (∀ q ∈ locs, k_B X ≤ q.base) ∧ lv_has ls 3 [(2, .int (nI k7)), (0, .ref (ad g 21 0)), (1, .int wy)]) 0 ⟨(k_d D 21 0 5 wy), rfl, hW, hL, lv_sub hl [0, 1, 2] rfl⟩ (Nat.zero_le _) (fun k7 hk7 ih7 H locs ls hI => ?_)
  obtain ⟨z7, hz7, hW, hL, hl⟩ := hI
  refine lv_iload_n hx hb dX4_keep_7 rfl (lv_at hl 0 rfl) ?_
  refine lv_aload_n hx hb dX4_keep_8 rfl (lv_at hl 1 rfl) ?_
  refine k_get (K := RX4) (T := TX4) (N := 6) (v := .ref (ad g 22 2)) (w := .ref (ad g 22 2)) hx hb fX4 hown hK hW 21 0 hp.o (fun _ => rfl) rfl 3 (by decide) (hts (.fieldLink RX4 19 "Crossdockery$Plan" "best" "[I") (by decide +kernel)) rfl rfl rfl dX4_keep_9 ?_
  refine k_alen (t0 := 0) (v := 8) hx hb hK hW 22 2 (hp.a (i := 2) (by decide)) (fun _ => rfl) rfl rfl dX4_keep_12 ?_
  refine lv_icmp_ge (tgt := 43) hx hb dX4_keep_13 (by decide) (fun c1 => ?_) (fun c1 => ?_)
  ·
    rw [show (8 : Int32) = nI 8 from rfl] at c1
    have hge7 := k_nI_ge (by omega) (by omega) c1
    obtain rfl : 8 = k7 := by omega
    replace hz7 : z7 = (l_X4_keep_7 D wy) := hz7
    subst hz7
    have hl : lv_has ls 3 [(2, .int (nI 8)), (0, .ref (ad g 21 0)), (1, .int wy)] := hl
    have e9 : (s_X4_keep D wy) = (l_X4_keep_7 D wy) := by unfold s_X4_keep; first | done | rfl
    exact k_vret hx hb hr hlocks (⟨rfl, by rw [e9]; exact hW⟩) hL dX4_keep_43
  ·
    have hlt7 : k7 < 8 := k_nI_nge (by omega) (by omega) (by rw [show (8 : Int32) = nI 8 from rfl] at c1; exact c1)
    refine lv_iload_n hx hb dX4_keep_16 rfl (lv_at hl 0 rfl) ?_
    refine lv_aload_n hx hb dX4_keep_17 rfl (lv_at hl 1 rfl) ?_
    refine k_get (K := RX4) (T := TX4) (N := 6) (v := .ref (ad g 22 1)) (w := .ref (ad g 22 1)) hx hb fX4 hown hK hW 21 0 hp.o (fun _ => rfl) rfl 2 (by decide) (hts (.fieldLink RX4 15 "Crossdockery$Plan" "doors" "[I") (by decide +kernel)) rfl rfl rfl dX4_keep_18 ?_
    refine k_alen (t0 := 0) (v := 8) hx hb hK hW 22 1 (hp.a (i := 1) (by decide)) (fun _ => rfl) rfl rfl dX4_keep_21 ?_
    refine lv_icmp_ge (tgt := 43) hx hb dX4_keep_22 (by decide) (fun c2 => ?_) (fun c2 => ?_)
    ·
      exact absurd (k_nI_ge (a := k7) (b := 8) (by omega) (by decide) (show nI (k7) ≥ nI 8 from c2)) (by omega)
    ·
      refine lv_aload_n hx hb dX4_keep_25 rfl (lv_at hl 1 rfl) ?_
      refine k_get (K := RX4) (T := TX4) (N := 6) (v := .ref (ad g 22 2)) (w := .ref (ad g 22 2)) hx hb fX4 hown hK hW 21 0 hp.o (fun _ => rfl) rfl 3 (by decide) (hts (.fieldLink RX4 19 "Crossdockery$Plan" "best" "[I") (by decide +kernel)) rfl rfl rfl dX4_keep_26 ?_
      refine lv_iload_n hx hb dX4_keep_29 rfl (lv_at hl 0 rfl) ?_
      refine lv_aload_n hx hb dX4_keep_30 rfl (lv_at hl 1 rfl) ?_
      refine k_get (K := RX4) (T := TX4) (N := 6) (v := .ref (ad g 22 1)) (w := .ref (ad g 22 1)) hx hb fX4 hown hK hW 21 0 hp.o (fun _ => rfl) rfl 2 (by decide) (hts (.fieldLink RX4 15 "Crossdockery$Plan" "doors" "[I") (by decide +kernel)) rfl rfl rfl dX4_keep_31 ?_
      refine lv_iload_n hx hb dX4_keep_34 rfl (lv_at hl 0 rfl) ?_
      refine k_iald (z := 8) (k := k7) hx hb hK hW 22 1 (hp.a (i := 1) (by decide)) (fun _ => rfl) (nI_clamp (by omega)) (vp_in_nI (by omega) (by decide)) (v := (z7 22 1 k7)) rfl dX4_keep_35 ?_
      refine k_iast (z := 8) (k := k7) hx hb hK hW hL 22 2 (hp.a (i := 2) (by decide)) (fun _ => rfl) (nI_clamp (by omega)) (vp_in_nI (by omega) (by decide)) dX4_keep_36 (fun H locs hW hL => ?_)
      refine lv_iinc (v := (nI (k7 + 1))) (k := 0) (lv' := [(2, .int (nI (k7 + 1))), (0, .ref (ad g 21 0)), (1, .int wy)]) hx hb dX4_keep_37 hl rfl (nI_1 _) (by decide) rfl (fun ls hl => ?_)
      refine lv_goto (tgt := 7) hx hb dX4_keep_40 (by decide) ?_
      have e9 : (f_X4_keep_7 D wy) k7 z7 = (k_d z7 22 2 k7 (z7 22 1 k7)) := by unfold f_X4_keep_7; first | done | (simp only [if_neg c2]; done) | rfl
      exact ih7 _ _ _ hlt7 ⟨(k_d z7 22 2 k7 (z7 22 1 k7)), by rw [it_s, ← hz7, e9], hW, hL, lv_sub hl [0, 1, 2] rfl⟩
def f_X4_waysToEarlier_19 (D : KD) (lo : Nat) (k19 : Nat) (z19 : Int32) : Int32 := (z19 + ((D 22 3 (lo * 8 + k19)) * (s_X6_difference (D 22 1 lo) (D 22 1 k19))))
def l_X4_waysToEarlier_19 (D : KD) (lo : Nat) : Int32 := it (f_X4_waysToEarlier_19 D lo) lo 0
def s_X4_waysToEarlier (D : KD) (lo : Nat) : Int32 := (l_X4_waysToEarlier_19 D lo)
set_option maxHeartbeats 400000 in
set_option maxRecDepth 100000 in
theorem c_X4_waysToEarlier (X : kX) (l : Launch) {n : Nat → Nat → Nat} {ad L : Nat → Nat → Nat → Nat} {C : Nat → Nat → Nat → Nat → Int32} {fr : Nat → Option Cell} {g : Nat} {nl nt ng : Nat} (hd : kDk n g nl nt ng) (D : KD) (hp : kPl n g) (lo : Nat) (h_lo : lo < 8) : k_M X l yX4_waysToEarlier wsX4_waysToEarlier ({ frames := 2, cells := 0, slots := 0, locals := 33 }) [.ref (ad g 21 0), .int (nI lo)] (k_W X n ad L (k_g C g D) fr) (fun v H => v = some (.int (s_X4_waysToEarlier D lo)) ∧ k_W X n ad L (k_g C g D) fr H) 0 0 := by
  refine k_M.of (cc := cX4_waysToEarlier) (maxL := 5) (ret := (some .int)) (by decide) rfl (Nat.le_of_ble_eq_true rfl) ?_
  intro p e s m args below meth c ls hx hb hr hml hown hts hlocks hnm hK hW hl
  have hL : ∀ q ∈ ([] : List Loc), k_B X ≤ q.base := fun _ h => nomatch h
  have hl : lv_has ls 5 [(0, .ref (ad g 21 0)), (1, .int (nI lo))] := hl
  have fX4 : ∀ w ∈ u_ws RX4 TX4 6, w.before args s = true := fun w h => hts w ((by decide +kernel : ∀ w ∈ u_ws RX4 TX4 6, w ∈ wsX4_waysToEarlier) w h)
  have hl8 := hd.l8
  have ht16 := hd.t16
  have hg4 := hd.g4
  refine lv_iload_n hx hb dX4_waysToEarlier_0 rfl (lv_at hl 1 rfl) ?_
  refine lv_if_lt (tgt := 13) hx hb dX4_waysToEarlier_1 (by decide) (fun c1 => ?_) (fun c1 => ?_)
  ·
    exact absurd c1 (nI_pos (by omega))
  ·
    refine lv_iload_n hx hb dX4_waysToEarlier_4 rfl (lv_at hl 1 rfl) ?_
    refine lv_aload_n hx hb dX4_waysToEarlier_5 rfl (lv_at hl 0 rfl) ?_
    refine k_get (K := RX4) (T := TX4) (N := 6) (v := .ref (ad g 22 1)) (w := .ref (ad g 22 1)) hx hb fX4 hown hK hW 21 0 hp.o (fun _ => rfl) rfl 2 (by decide) (hts (.fieldLink RX4 15 "Crossdockery$Plan" "doors" "[I") (by decide +kernel)) rfl rfl rfl dX4_waysToEarlier_6 ?_
    refine k_alen (t0 := 0) (v := 8) hx hb hK hW 22 1 (hp.a (i := 1) (by decide)) (fun _ => rfl) rfl rfl dX4_waysToEarlier_9 ?_
    refine lv_icmp_lt (tgt := 15) hx hb dX4_waysToEarlier_10 (by decide) (fun c2 => ?_) (fun c2 => ?_)
    ·
      have hin_1 := vp_in_of_lt (N := 8) (by decide) c1 (show (nI lo) < nI 8 from c2)
      refine lv_iconst (v := 0) hx hb dX4_waysToEarlier_15 (by decide) ?_
      refine lv_istore_n (lv' := [(2, .int 0), (0, .ref (ad g 21 0)), (1, .int (nI lo))]) hx hb dX4_waysToEarlier_16 rfl hl (by decide) rfl (fun ls hl => ?_)
      refine lv_iconst (v := 0) hx hb dX4_waysToEarlier_17 (by decide) ?_
      refine lv_istore_n (lv' := [(3, .int 0), (2, .int 0), (0, .ref (ad g 21 0)), (1, .int (nI lo))]) hx hb dX4_waysToEarlier_18 rfl hl (by decide) rfl (fun ls hl => ?_)
      refine k_for (lo) (fun k19 H locs ls => ∃ z19 : Int32, z19 = it (f_X4_waysToEarlier_19 D lo) k19 0 ∧ k_W X n ad L (k_g C g D) fr H ∧ (∀ q ∈ locs, k_B X ≤ q.base) ∧ lv_has ls 5 [(3, .int (nI k19)), (2, .int z19), (0, .ref (ad g 21 0)), (1, .int (nI lo))]) 0 ⟨0, rfl, hW, hL, lv_sub hl [0, 1, 2, 3] rfl⟩ (Nat.zero_le _) (fun k19 hk19 ih19 H locs ls hI => ?_)
      obtain ⟨z19, hz19, hW, hL, hl⟩ := hI
      refine lv_iload_n hx hb dX4_waysToEarlier_19 rfl (lv_at hl 0 rfl) ?_
      refine lv_iload_n hx hb dX4_waysToEarlier_20 rfl (lv_at hl 3 rfl) ?_
      refine lv_icmp_ge (tgt := 74) hx hb dX4_waysToEarlier_21 (by decide) (fun c3 => ?_) (fun c3 => ?_)
      ·
        have hge19 := k_nI_ge (by omega) (by omega) c3
        obtain rfl : lo = k19 := by omega
        replace hz19 : z19 = (l_X4_waysToEarlier_19 D lo) := hz19
        subst hz19
        have hl : lv_has ls 5 [(3, .int (nI lo)), (2, .int (l_X4_waysToEarlier_19 D lo)), (0, .ref (ad g 21 0)), (1, .int (nI lo))] := hl
        refine lv_iload_n hx hb dX4_waysToEarlier_74 rfl (lv_at hl 1 rfl) ?_
        have e9 : (s_X4_waysToEarlier D lo) = (l_X4_waysToEarlier_19 D lo) := by unfold s_X4_waysToEarlier; first | done | (simp only [if_neg c1, if_pos c2]; done) | rfl
        exact k_iret hx hb hr hlocks (⟨by rw [e9], hW⟩) hL dX4_waysToEarlier_75
      ·
        have hlt19 : k19 < lo := k_nI_nge (by omega) (by omega) c3
        refine lv_iload_n hx hb dX4_waysToEarlier_24 rfl (lv_at hl 3 rfl) ?_
        refine lv_bipush (v := 8) hx hb dX4_waysToEarlier_25 (by decide) ?_
        refine lv_imul hx hb dX4_waysToEarlier_27 ?_
        refine lv_iload_n hx hb dX4_waysToEarlier_28 rfl (lv_at hl 0 rfl) ?_
        refine lv_iadd hx hb dX4_waysToEarlier_29 ?_
        refine W.eq (g2 := F0 m 30 ls [.int (nI (lo * 8 + k19))]) (by rw [k_pl8]) ?_
        refine lv_istore (lv' := [(4, .int (nI (lo * 8 + k19))), (3, .int (nI k19)), (2, .int z19), (0, .ref (ad g 21 0)), (1, .int (nI lo))]) hx hb dX4_waysToEarlier_30 hl (by decide) rfl (fun ls hl => ?_)
        refine lv_iload hx hb dX4_waysToEarlier_32 (lv_at hl 0 rfl) ?_
        refine lv_aload_n hx hb dX4_waysToEarlier_34 rfl (lv_at hl 3 rfl) ?_
        refine k_get (K := RX4) (T := TX4) (N := 6) (v := .ref (ad g 22 3)) (w := .ref (ad g 22 3)) hx hb fX4 hown hK hW 21 0 hp.o (fun _ => rfl) rfl 4 (by decide) (hts (.fieldLink RX4 22 "Crossdockery$Plan" "unitsBetween" "[I") (by decide +kernel)) rfl rfl rfl dX4_waysToEarlier_35 ?_
        refine k_alen (t0 := 0) (v := 64) hx hb hK hW 22 3 (hp.a (i := 3) (by decide)) (fun _ => rfl) rfl rfl dX4_waysToEarlier_38 ?_
        refine lv_icmp_ge (tgt := 68) hx hb dX4_waysToEarlier_39 (by decide) (fun c4 => ?_) (fun c4 => ?_)
        ·
          exact absurd (k_nI_ge (a := (lo * 8 + k19)) (b := 64) (by omega) (by decide) (show nI (lo * 8 + k19) ≥ nI 64 from c4)) (by omega)
        ·
          refine lv_iload_n hx hb dX4_waysToEarlier_42 rfl (lv_at hl 2 rfl) ?_
          refine lv_aload_n hx hb dX4_waysToEarlier_43 rfl (lv_at hl 3 rfl) ?_
          refine k_get (K := RX4) (T := TX4) (N := 6) (v := .ref (ad g 22 3)) (w := .ref (ad g 22 3)) hx hb fX4 hown hK hW 21 0 hp.o (fun _ => rfl) rfl 4 (by decide) (hts (.fieldLink RX4 22 "Crossdockery$Plan" "unitsBetween" "[I") (by decide +kernel)) rfl rfl rfl dX4_waysToEarlier_44 ?_
          refine lv_iload hx hb dX4_waysToEarlier_47 (lv_at hl 0 rfl) ?_
          refine k_iald (z := 64) (k := (lo * 8 + k19)) hx hb hK hW 22 3 (hp.a (i := 3) (by decide)) (fun _ => rfl) (nI_clamp (by omega)) (vp_in_nI (by omega) (by decide)) (v := (D 22 3 (lo * 8 + k19))) rfl dX4_waysToEarlier_49 ?_
          refine lv_aload_n hx hb dX4_waysToEarlier_50 rfl (lv_at hl 3 rfl) ?_
          refine k_get (K := RX4) (T := TX4) (N := 6) (v := .ref (ad g 22 1)) (w := .ref (ad g 22 1)) hx hb fX4 hown hK hW 21 0 hp.o (fun _ => rfl) rfl 2 (by decide) (hts (.fieldLink RX4 15 "Crossdockery$Plan" "doors" "[I") (by decide +kernel)) rfl rfl rfl dX4_waysToEarlier_51 ?_
          refine lv_iload_n hx hb dX4_waysToEarlier_54 rfl (lv_at hl 4 rfl) ?_
          refine k_iald (z := 8) (k := lo) hx hb hK hW 22 1 (hp.a (i := 1) (by decide)) (fun _ => rfl) (nI_clamp (by omega)) (vp_in_nI (by omega) (by decide)) (v := (D 22 1 lo)) rfl dX4_waysToEarlier_55 ?_
          refine lv_aload_n hx hb dX4_waysToEarlier_56 rfl (lv_at hl 3 rfl) ?_
          refine k_get (K := RX4) (T := TX4) (N := 6) (v := .ref (ad g 22 1)) (w := .ref (ad g 22 1)) hx hb fX4 hown hK hW 21 0 hp.o (fun _ => rfl) rfl 2 (by decide) (hts (.fieldLink RX4 15 "Crossdockery$Plan" "doors" "[I") (by decide +kernel)) rfl rfl rfl dX4_waysToEarlier_57 ?_
          refine lv_iload_n hx hb dX4_waysToEarlier_60 rfl (lv_at hl 1 rfl) ?_
          refine k_iald (z := 8) (k := k19) hx hb hK hW 22 1 (hp.a (i := 1) (by decide)) (fun _ => rfl) (nI_clamp (by omega)) (vp_in_nI (by omega) (by decide)) (v := (D 22 1 k19)) rfl dX4_waysToEarlier_61 ?_
          refine k_callSN (As := [.int (D 22 1 lo), .int (D 22 1 k19)]) (rest := [.int (D 22 3 (lo * 8 + k19)), .int z19]) ⟨hx, hb, hml, hown, hts⟩ hK (c_X6_difference X l (k_W X n ad L (k_g C g D) fr) (D 22 1 lo) (D 22 1 k19)) (va_cnB 2 hts gX4_waysToEarlier_X6_difference_n100 rfl rfl rfl (hK.nest (List.mem_of_getElem? (i := 2) rfl)) (hts (.initialized RX6) (by decide +kernel)) (by decide +kernel) ⟨Nat.le_of_ble_eq_true rfl, Nat.le_of_ble_eq_true rfl⟩) (hts (.static yX6_difference) (by decide +kernel)) hW rfl hl.1 rfl (Nat.le_of_ble_eq_true rfl) dX4_waysToEarlier_62 ⟨Nat.le_of_ble_eq_true rfl, Nat.le_of_ble_eq_true rfl⟩ hL (fun v9 H locs hp hL => ?_)
          obtain ⟨rfl, hW⟩ := hp
          refine lv_imul hx hb dX4_waysToEarlier_65 ?_
          refine lv_iadd hx hb dX4_waysToEarlier_66 ?_
          refine lv_istore_n (lv' := [(2, .int (z19 + ((D 22 3 (lo * 8 + k19)) * (s_X6_difference (D 22 1 lo) (D 22 1 k19))))), (4, .int (nI (lo * 8 + k19))), (3, .int (nI k19)), (0, .ref (ad g 21 0)), (1, .int (nI lo))]) hx hb dX4_waysToEarlier_67 rfl hl (by decide) rfl (fun ls hl => ?_)
          refine lv_iinc (v := (nI (k19 + 1))) (k := 2) (lv' := [(3, .int (nI (k19 + 1))), (2, .int (z19 + ((D 22 3 (lo * 8 + k19)) * (s_X6_difference (D 22 1 lo) (D 22 1 k19))))), (4, .int (nI (lo * 8 + k19))), (0, .ref (ad g 21 0)), (1, .int (nI lo))]) hx hb dX4_waysToEarlier_68 hl rfl (nI_1 _) (by decide) rfl (fun ls hl => ?_)
          refine lv_goto (tgt := 19) hx hb dX4_waysToEarlier_71 (by decide) ?_
          have e9 : (f_X4_waysToEarlier_19 D lo) k19 z19 = (z19 + ((D 22 3 (lo * 8 + k19)) * (s_X6_difference (D 22 1 lo) (D 22 1 k19)))) := by unfold f_X4_waysToEarlier_19; first | done | (simp only [if_neg c4]; done) | rfl
          exact ih19 _ _ _ hlt19 ⟨(z19 + ((D 22 3 (lo * 8 + k19)) * (s_X6_difference (D 22 1 lo) (D 22 1 k19)))), by rw [it_s, ← hz19, e9], hW, hL, lv_sub hl [0, 1, 3, 4] rfl⟩
    ·
      exact absurd (show nI lo < 8 from (nI_ltI (a := lo) (b := 8) (by omega) (by decide)).mpr h_lo) c2
def s_search (cnt : Nat) : Nat → KD → Nat → Int32 → KD
  | 0, D, _, _ => D
  | f + 1, D, lo, wy => if wy < D 21 0 5 then (if cnt ≤ lo then s_X4_keep D wy else if s_X4_isOpenAt D (nI lo) = 0 then s_search cnt f D (lo + 1) (wy + s_X4_waysToEarlier D lo) else it (fun k E => s_search cnt f (k_d E 22 1 lo (nI k)) (lo + 1) (wy + s_X4_waysToEarlier (k_d E 22 1 lo (nI k)) lo)) 4 D) else D
def f_search (cnt f lo : Nat) (wy : Int32) (k : Nat) (E : KD) : KD := s_search cnt f (k_d E 22 1 lo (nI k)) (lo + 1) (wy + s_X4_waysToEarlier (k_d E 22 1 lo (nI k)) lo)
theorem s_search_s (cnt f : Nat) (D : KD) (lo : Nat) (wy : Int32) : s_search cnt (f + 1) D lo wy = if wy < D 21 0 5 then (if cnt ≤ lo then s_X4_keep D wy else if s_X4_isOpenAt D (nI lo) = 0 then s_search cnt f D (lo + 1) (wy + s_X4_waysToEarlier D lo) else it (f_search cnt f lo wy) 4 D) else D := rfl
theorem it_fix {α β : Type} (F : Nat → α → α) (P : α → β) (h : ∀ k a, P (F k a) = P a) (n : Nat) (a : α) : P (it F n a) = P a := by
  induction n with
  | zero => rfl
  | succ n ih => rw [it_s, h, ih]
theorem s_X4_keep_21 (D : KD) (wy : Int32) : (s_X4_keep D wy) 21 0 0 = D 21 0 0 := by
  unfold s_X4_keep l_X4_keep_7
  rw [it_fix _ (fun E : KD => E 21 0 0) (fun k E => by unfold f_X4_keep_7; exact k_dr rfl)]
  exact k_dk rfl
theorem s_search_21 (cnt f : Nat) : ∀ (D : KD) (lo : Nat) (wy : Int32), (s_search cnt f D lo wy) 21 0 0 = D 21 0 0 := by
  induction f with
  | zero => intro D lo wy; rfl
  | succ f ih =>
    intro D lo wy
    rw [s_search_s]
    split
    · split
      · exact s_X4_keep_21 D wy
      · split
        · exact ih _ _ _
        · exact it_fix _ (fun E : KD => E 21 0 0) (fun k E => by show f_search cnt f lo wy k E 21 0 0 = E 21 0 0; unfold f_search; rw [ih]; exact k_dr rfl) 4 D
    · rfl
theorem f_search_21 (cnt f lo : Nat) (wy : Int32) (k : Nat) (D : KD) : (it (f_search cnt f lo wy) k D) 21 0 0 = D 21 0 0 :=
  it_fix _ (fun E : KD => E 21 0 0) (fun k E => by show f_search cnt f lo wy k E 21 0 0 = E 21 0 0; unfold f_search; rw [s_search_21]; exact k_dr rfl) k D
set_option maxHeartbeats 400000 in
set_option maxRecDepth 100000 in
theorem c_X4_search (X : kX) (l : Launch) : ∀ (d : Nat) {n : Nat → Nat → Nat} {ad L : Nat → Nat → Nat → Nat} {C : Nat → Nat → Nat → Nat → Int32} {fr : Nat → Option Cell} {g nl nt ng : Nat} (_ : kDk n g nl nt ng) (_ : kPl n g) (D : KD) (cnt lo : Nat) (wy : Int32) (_ : lo + d = 9) (_ : cnt ≤ 8) (_ : lo ≤ cnt) (_ : D 21 0 0 = nI cnt) (_ : 1 ≤ d), k_M X l yX4_search wsX4_search ({ frames := 4 + d, cells := 0, slots := 0, locals := 80 + 23 * d }) [.ref (ad g 21 0), .int (nI lo), .int wy] (k_W X n ad L (k_g C g D) fr) (fun v H => v = none ∧ k_W X n ad L (k_g C g (s_search cnt d D lo wy)) fr H) 0 0 := by
  intro d
  induction d with
  | zero => intro n ad L C fr g nl nt ng hd hp D cnt lo wy h1 h2 h3 h4 h5; omega
  | succ d ih =>
    intro n ad L C fr g nl nt ng hd hp D cnt lo wy hld hc8 hlc hcn h5
    refine k_M.of (cc := cX4_search) (maxL := 4) (ret := none) (by decide) rfl (Nat.le_of_ble_eq_true rfl) ?_
    intro p e s m args below meth c ls hx hb hr hml hown hts hlocks hnm hK hW hl
    have hL : ∀ q ∈ ([] : List Loc), k_B X ≤ q.base := fun _ h => nomatch h
    have hl : lv_has ls 4 [(0, .ref (ad g 21 0)), (1, .int (nI lo)), (2, .int wy)] := hl
    have fX4 : ∀ w ∈ u_ws RX4 TX4 6, w.before args s = true := fun w h => hts w ((by decide +kernel : ∀ w ∈ u_ws RX4 TX4 6, w ∈ wsX4_search) w h)
    refine lv_iload_n hx hb dX4_search_0 rfl (lv_at hl 2 rfl) ?_
    refine lv_aload_n hx hb dX4_search_1 rfl (lv_at hl 0 rfl) ?_
    refine k_get (K := RX4) (T := TX4) (N := 6) (v := .int (D 21 0 5)) (w := .int (D 21 0 5)) hx hb fX4 hown hK hW 21 0 hp.o (fun _ => rfl) rfl 5 (by decide) (hts (.fieldLink RX4 25 "Crossdockery$Plan" "least" "I") (by decide +kernel)) rfl rfl rfl dX4_search_2 ?_
    refine lv_icmp_lt (tgt := 9) hx hb dX4_search_5 (by decide) (fun c1 => ?_) (fun c1 => ?_)
    ·
      refine lv_iload_n hx hb dX4_search_9 rfl (lv_at hl 1 rfl) ?_
      refine lv_if_lt (tgt := 30) hx hb dX4_search_10 (by decide) (fun c2 => ?_) (fun c2 => ?_)
      ·
        exact absurd c2 (nI_pos (by omega))
      ·
        refine lv_iload_n hx hb dX4_search_13 rfl (lv_at hl 1 rfl) ?_
        refine lv_aload_n hx hb dX4_search_14 rfl (lv_at hl 0 rfl) ?_
        refine k_get (K := RX4) (T := TX4) (N := 6) (v := .int (D 21 0 0)) (w := .int (D 21 0 0)) hx hb fX4 hown hK hW 21 0 hp.o (fun _ => rfl) rfl 0 (by decide) (hts (.fieldLink RX4 47 "Crossdockery$Plan" "count" "I") (by decide +kernel)) rfl rfl rfl dX4_search_15 ?_
        refine W.eq (g2 := F0 m 18 ls [.int (nI cnt), .int (nI lo)]) (by rw [hcn]) ?_
        refine lv_icmp_ge (tgt := 30) hx hb dX4_search_18 (by decide) (fun c3 => ?_) (fun c3 => ?_)
        ·
          have c3n := k_nI_ge (by omega) (by omega) c3
          refine lv_aload_n hx hb dX4_search_30 rfl (lv_at hl 0 rfl) ?_
          refine lv_iload_n hx hb dX4_search_31 rfl (lv_at hl 2 rfl) ?_
          refine k_callV (As := [.int wy]) (rest := []) ⟨hx, hb, hml, hown, hts⟩ hK (c_X4_keep X l hd D hp wy) (cwV 1 hts gX4_search_X4_keep rfl rfl rfl (by decide +kernel) ⟨(by show 2 ≤ 4 + (d + 1); omega), (by show 34 ≤ 80 + 23 * (d + 1); omega)⟩) (k_recv hK hW 21 0 hp.o (fun _ => rfl) rfl) hW rfl hl.1 rfl (Nat.le_of_ble_eq_true rfl) dX4_search_32 ⟨Nat.le_of_ble_eq_true rfl, Nat.le_of_ble_eq_true rfl⟩ hL (fun v9 H locs hp hL => ?_)
          obtain ⟨rfl, hW⟩ := hp
          refine lv_goto (tgt := 97) hx hb dX4_search_35 (by decide) ?_
          have e9 : s_search cnt (d + 1) D lo wy = (s_X4_keep D wy) := by rw [s_search_s]; first | done | (simp only [if_pos c1, if_neg c2, if_pos c3n]; done) | rfl
          exact k_vret hx hb hr hlocks (⟨rfl, by rw [e9]; exact hW⟩) hL dX4_search_97
        ·
          have c3n := k_nI_nge (by omega) (by omega) c3
          have c3m : ¬ cnt ≤ lo := by omega
          refine lv_iload_n hx hb dX4_search_21 rfl (lv_at hl 1 rfl) ?_
          refine lv_aload_n hx hb dX4_search_22 rfl (lv_at hl 0 rfl) ?_
          refine k_get (K := RX4) (T := TX4) (N := 6) (v := .ref (ad g 22 1)) (w := .ref (ad g 22 1)) hx hb fX4 hown hK hW 21 0 hp.o (fun _ => rfl) rfl 2 (by decide) (hts (.fieldLink RX4 15 "Crossdockery$Plan" "doors" "[I") (by decide +kernel)) rfl rfl rfl dX4_search_23 ?_
          refine k_alen (t0 := 0) (v := 8) hx hb hK hW 22 1 (hp.a (i := 1) (by decide)) (fun _ => rfl) rfl rfl dX4_search_26 ?_
          refine lv_icmp_lt (tgt := 38) hx hb dX4_search_27 (by decide) (fun c4 => ?_) (fun c4 => ?_)
          ·
            have hin_1 := vp_in_of_lt (N := 8) (by decide) c2 (show (nI lo) < nI 8 from c4)
            refine lv_aload_n hx hb dX4_search_38 rfl (lv_at hl 0 rfl) ?_
            refine lv_iload_n hx hb dX4_search_39 rfl (lv_at hl 1 rfl) ?_
            refine k_callV (As := [.int (nI lo)]) (rest := []) ⟨hx, hb, hml, hown, hts⟩ hK (c_X4_isOpenAt X l hd D hp (nI lo)) (cwV 1 hts gX4_search_X4_isOpenAt rfl rfl rfl (by decide +kernel) ⟨(by show 2 ≤ 4 + (d + 1); omega), (by show 33 ≤ 80 + 23 * (d + 1); omega)⟩) (k_recv hK hW 21 0 hp.o (fun _ => rfl) rfl) hW rfl hl.1 rfl (Nat.le_of_ble_eq_true rfl) dX4_search_40 ⟨Nat.le_of_ble_eq_true rfl, Nat.le_of_ble_eq_true rfl⟩ hL (fun v9 H locs hp hL => ?_)
            obtain ⟨rfl, hW⟩ := hp
            refine lv_if_ne (tgt := 63) hx hb dX4_search_43 (by decide) (fun c5 => ?_) (fun c5 => ?_)
            ·
              refine lv_iconst (v := 0) hx hb dX4_search_63 (by decide) ?_
              refine lv_istore_n (lv' := [(3, .int 0), (0, .ref (ad g 21 0)), (1, .int (nI lo)), (2, .int wy)]) hx hb dX4_search_64 rfl hl (by decide) rfl (fun ls hl => ?_)
              refine k_for 4 (fun k H locs ls => k_W X n ad L (k_g C g (it (f_search cnt d lo wy) k D)) fr H ∧ (∀ q ∈ locs, k_B X ≤ q.base) ∧ lv_has ls 4 [(3, .int (nI k)), (0, .ref (ad g 21 0)), (1, .int (nI lo)), (2, .int wy)]) 0 ⟨hW, hL, lv_sub hl [0, 1, 2, 3] rfl⟩ (Nat.zero_le _) (fun k hk ih2 H locs ls hI => ?_)
              obtain ⟨hW, hL, hl⟩ := hI
              refine lv_iload_n hx hb dX4_search_65 rfl (lv_at hl 0 rfl) ?_
              refine lv_iconst (v := 4) hx hb dX4_search_66 (by decide) ?_
              refine lv_icmp_ge (tgt := 97) hx hb dX4_search_67 (by decide) (fun c6 => ?_) (fun c6 => ?_)
              ·
                have hge := k_nI_ge (a := k) (b := 4) (by omega) (by decide) (show nI k ≥ nI 4 from c6)
                obtain rfl : k = 4 := by omega
                have e9 : s_search cnt (d + 1) D lo wy = it (f_search cnt d lo wy) 4 D := by rw [s_search_s]; first | done | (simp only [if_pos c1, if_neg c2, if_neg c3m, if_pos c4, if_neg c5]; done) | rfl
                exact k_vret hx hb hr hlocks (⟨rfl, by rw [e9]; exact hW⟩) hL dX4_search_97
              ·
                have hlt := k_nI_nge (a := k) (b := 4) (by omega) (by decide) (show ¬ nI k ≥ nI 4 from c6)
                have hck : (k_d (it (f_search cnt d lo wy) k D) 22 1 lo (nI k)) 21 0 0 = nI cnt := by rw [k_dr rfl, f_search_21]; exact hcn
                refine lv_aload_n hx hb dX4_search_70 rfl (lv_at hl 1 rfl) ?_
                refine k_get (K := RX4) (T := TX4) (N := 6) (v := .ref (ad g 22 1)) (w := .ref (ad g 22 1)) hx hb fX4 hown hK hW 21 0 hp.o (fun _ => rfl) rfl 2 (by decide) (hts (.fieldLink RX4 15 "Crossdockery$Plan" "doors" "[I") (by decide +kernel)) rfl rfl rfl dX4_search_71 ?_
                refine lv_iload_n hx hb dX4_search_74 rfl (lv_at hl 2 rfl) ?_
                refine lv_iload_n hx hb dX4_search_75 rfl (lv_at hl 0 rfl) ?_
                refine k_iast (z := 8) (k := lo) hx hb hK hW hL 22 1 (hp.a (i := 1) (by decide)) (fun _ => rfl) (nI_clamp (by omega)) (vp_in_nI (by omega) (by decide)) dX4_search_76 (fun H locs hW hL => ?_)
                refine lv_aload_n hx hb dX4_search_77 rfl (lv_at hl 1 rfl) ?_
                refine lv_iload_n hx hb dX4_search_78 rfl (lv_at hl 2 rfl) ?_
                refine lv_iconst (v := 1) hx hb dX4_search_79 (by decide) ?_
                refine lv_iadd hx hb dX4_search_80 ?_
                refine W.eq (g2 := F0 m 81 ls [.int (nI (lo + 1)), .ref (ad g 21 0)]) (by rw [nI_1]; first | done | rfl) ?_
                refine lv_iload_n hx hb dX4_search_81 rfl (lv_at hl 3 rfl) ?_
                refine lv_aload_n hx hb dX4_search_82 rfl (lv_at hl 1 rfl) ?_
                refine lv_iload_n hx hb dX4_search_83 rfl (lv_at hl 2 rfl) ?_
                refine k_callV (As := [.int (nI lo)]) (rest := [.int wy, .int (nI (lo + 1)), .ref (ad g 21 0)]) ⟨hx, hb, hml, hown, hts⟩ hK (c_X4_waysToEarlier X l hd (k_d (it (f_search cnt d lo wy) k D) 22 1 lo (nI k)) hp lo (by omega)) (cwV 1 hts gX4_search_X4_waysToEarlier rfl rfl rfl (by decide +kernel) ⟨(by show 3 ≤ 4 + (d + 1); omega), (by show 57 ≤ 80 + 23 * (d + 1); omega)⟩) (k_recv hK hW 21 0 hp.o (fun _ => rfl) rfl) hW rfl hl.1 rfl (Nat.le_of_ble_eq_true rfl) dX4_search_84 ⟨Nat.le_of_ble_eq_true rfl, Nat.le_of_ble_eq_true rfl⟩ hL (fun v9 H locs hp hL => ?_)
                obtain ⟨rfl, hW⟩ := hp
                refine lv_iadd hx hb dX4_search_87 ?_
                refine k_callS (As := [.ref (ad g 21 0), .int (nI (lo + 1)), .int (wy + (s_X4_waysToEarlier (k_d (it (f_search cnt d lo wy) k D) 22 1 lo (nI k)) lo))]) (rest := []) ⟨hx, hb, hml, hown, hts⟩ hK (ih hd hp (k_d (it (f_search cnt d lo wy) k D) 22 1 lo (nI k)) cnt (lo + 1) (wy + (s_X4_waysToEarlier (k_d (it (f_search cnt d lo wy) k D) 22 1 lo (nI k)) lo)) (by omega) hc8 (by omega) (hck) (by omega)) (cwS 3 hts gX4_search_X4_search rfl rfl rfl (by decide +kernel) ⟨(by show 4 + d + 1 ≤ 4 + (d + 1); omega), (by show 8 + (4 + 11) + (80 + 23 * d) ≤ 80 + 23 * (d + 1); omega)⟩) hW rfl hl.1 rfl (Nat.le_of_ble_eq_true rfl) dX4_search_88 ⟨Nat.le_of_ble_eq_true rfl, Nat.le_of_ble_eq_true rfl⟩ hL (fun v9 H locs hp9 hL => ?_)
                obtain ⟨rfl, hW⟩ := hp9
                refine lv_iinc (v := (nI (k + 1))) (k := 0) (lv' := [(3, .int (nI (k + 1))), (0, .ref (ad g 21 0)), (1, .int (nI lo)), (2, .int wy)]) hx hb dX4_search_91 hl rfl (nI_1 _) (by decide) rfl (fun ls hl => ?_)
                refine lv_goto (tgt := 65) hx hb dX4_search_94 (by decide) ?_
                exact ih2 _ _ _ hlt ⟨by rw [it_s]; exact hW, hL, lv_sub hl [0, 1, 2, 3] rfl⟩
            ·
              refine lv_aload_n hx hb dX4_search_46 rfl (lv_at hl 0 rfl) ?_
              refine lv_iload_n hx hb dX4_search_47 rfl (lv_at hl 1 rfl) ?_
              refine lv_iconst (v := 1) hx hb dX4_search_48 (by decide) ?_
              refine lv_iadd hx hb dX4_search_49 ?_
              refine W.eq (g2 := F0 m 50 ls [.int (nI (lo + 1)), .ref (ad g 21 0)]) (by rw [nI_1]; first | done | rfl) ?_
              refine lv_iload_n hx hb dX4_search_50 rfl (lv_at hl 2 rfl) ?_
              refine lv_aload_n hx hb dX4_search_51 rfl (lv_at hl 0 rfl) ?_
              refine lv_iload_n hx hb dX4_search_52 rfl (lv_at hl 1 rfl) ?_
              refine k_callV (As := [.int (nI lo)]) (rest := [.int wy, .int (nI (lo + 1)), .ref (ad g 21 0)]) ⟨hx, hb, hml, hown, hts⟩ hK (c_X4_waysToEarlier X l hd D hp lo (by omega)) (cwV 1 hts gX4_search_X4_waysToEarlier rfl rfl rfl (by decide +kernel) ⟨(by show 3 ≤ 4 + (d + 1); omega), (by show 57 ≤ 80 + 23 * (d + 1); omega)⟩) (k_recv hK hW 21 0 hp.o (fun _ => rfl) rfl) hW rfl hl.1 rfl (Nat.le_of_ble_eq_true rfl) dX4_search_53 ⟨Nat.le_of_ble_eq_true rfl, Nat.le_of_ble_eq_true rfl⟩ hL (fun v9 H locs hp hL => ?_)
              obtain ⟨rfl, hW⟩ := hp
              refine lv_iadd hx hb dX4_search_56 ?_
              refine k_callS (As := [.ref (ad g 21 0), .int (nI (lo + 1)), .int (wy + (s_X4_waysToEarlier D lo))]) (rest := []) ⟨hx, hb, hml, hown, hts⟩ hK (ih hd hp D cnt (lo + 1) (wy + (s_X4_waysToEarlier D lo)) (by omega) hc8 (by omega) (hcn) (by omega)) (cwS 3 hts gX4_search_X4_search rfl rfl rfl (by decide +kernel) ⟨(by show 4 + d + 1 ≤ 4 + (d + 1); omega), (by show 8 + (4 + 11) + (80 + 23 * d) ≤ 80 + 23 * (d + 1); omega)⟩) hW rfl hl.1 rfl (Nat.le_of_ble_eq_true rfl) dX4_search_57 ⟨Nat.le_of_ble_eq_true rfl, Nat.le_of_ble_eq_true rfl⟩ hL (fun v9 H locs hp9 hL => ?_)
              obtain ⟨rfl, hW⟩ := hp9
              refine lv_goto (tgt := 97) hx hb dX4_search_60 (by decide) ?_
              have e9 : s_search cnt (d + 1) D lo wy = s_search cnt d D (lo + 1) (wy + (s_X4_waysToEarlier D lo)) := by rw [s_search_s]; first | done | (simp only [if_pos c1, if_neg c2, if_neg c3m, if_pos c4, if_pos c5]; done) | rfl
              exact k_vret hx hb hr hlocks (⟨rfl, by rw [e9]; exact hW⟩) hL dX4_search_97
          ·
            exact absurd (show nI lo < 8 from (nI_ltI (a := lo) (b := 8) (by omega) (by decide)).mpr (by omega)) c4
    ·
      have e9 : s_search cnt (d + 1) D lo wy = D := by rw [s_search_s]; first | done | (simp only [if_neg c1]; done) | rfl
      exact k_vret hx hb hr hlocks (⟨rfl, by rw [e9]; exact hW⟩) hL dX4_search_8
