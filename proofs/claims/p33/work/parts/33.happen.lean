/-- the class once an event more has happened -/
def kHap (X : kX) (n : Nat → Nat → Nat) (ad L : Nat → Nat → Nat → Nat) (C : Nat → Nat → Nat → Nat → Int32) (fr : Nat → Option Cell) (ne : Nat) (w : Nat → Int32) (σ : kSt) (H : Heap) : Prop :=
  ∃ n' ad' L' C', (∀ g', g' ≠ 0 → g' ≠ 5 → n' g' = n g' ∧ ad' g' = ad g' ∧ L' g' = L g' ∧ C' g' = C g') ∧ ad' 0 0 0 = ad 0 0 0 ∧ ad' 5 16 0 = ad 5 16 0 ∧ kDk n' 0 σ.2.1 σ.2.2.1 σ.2.2.2 ∧ n' 0 9 = 0 ∧ cWF σ.1 σ.2.1 σ.2.2.1 ∧ kCx n' (ne + 1) ∧ (∀ j, j ≠ ne → C' 5 19 j = C 5 19 j) ∧ C' 5 19 ne = w ∧ k_W X n' ad' L' (k_g C' 0 σ.1) fr H
theorem kHap.mk {X : kX} {n n1 : Nat → Nat → Nat} {ad L ad1 L1 : Nat → Nat → Nat → Nat} {C : Nat → Nat → Nat → Nat → Int32} {fr : Nat → Option Cell} {ne : Nat} {w : Nat → Int32} {σ : kSt} {H : Heap} {E : KD} (ho : ∀ g', g' ≠ 5 → n1 g' = n g' ∧ ad1 g' = ad g' ∧ L1 g' = L g') (h16 : ad1 5 16 0 = ad 5 16 0) (hc1 : kCx n1 (ne + 1)) (hE : ∀ j, j ≠ ne → E 19 j = C 5 19 j) (hEw : E 19 ne = w) (h : kNext X 0 n1 ad1 L1 (k_g C 5 E) fr σ H) : kHap X n ad L C fr ne w σ H := by
  obtain ⟨n', ad', L', k1, k2, k3, k4, k5, k6⟩ := h
  refine ⟨n', ad', L', k_g C 5 E, fun g' a b => ⟨(k1 g' a).trans (ho g' b).1, (k2.1 g' a).1.trans (ho g' b).2.1, (k2.1 g' a).2.trans (ho g' b).2.2, k_g_ne _ _ b⟩, ?_, ?_, k3, k4, k5, ?_, ?_, ?_, k6⟩
  · rw [k2.2, (ho 0 (by decide)).2.1]
  · rw [(k2.1 5 (by decide)).1, h16]
  · have e := k1 5 (by decide)
    unfold kCx
    rw [e]
    exact hc1
  · intro j hj
    rw [k_g_at]
    exact hE j hj
  · rw [k_g_at]
    exact hEw
theorem k_cst_cost {w w' : Nat → Int32} (h : w' = w) : k_cst w' = k_cst w := by rw [h]
set_option maxHeartbeats 400000 in
set_option maxRecDepth 100000 in
theorem c_X6_happen (X : kX) (l : Launch) {n : Nat → Nat → Nat} {ad L : Nat → Nat → Nat → Nat} {C : Nat → Nat → Nat → Nat → Int32} {fr : Nat → Option Cell} {nl nt ng : Nat} (hd : kDk n 0 nl nt ng) (D : KD) (hwf : cWF D nl nt) (h9 : n 0 9 = 0) {ne : Nat} (hc : kCx n ne) (hne : ne < 512) (kd fi se th : Int32) (hok : kOk (D, nl, nt, ng) (k_fe kd fi se th)) : k_M X l yX6_happen wsX6_happen ({ frames := 9, cells := 5, slots := 805, locals := 234 }) [.ref (ad 5 16 0), .int kd, .int fi, .int se, .int th] (k_W X n ad L (k_g C 0 D) fr) (fun v H => v = some (.int (s_und (D, nl, nt, ng) (k_fe kd fi se th)).2) ∧ kHap X n ad L C fr ne (k_fe kd fi se th) (s_und (D, nl, nt, ng) (k_fe kd fi se th)).1 H) 5 805 := by
  refine k_M.of (cc := cX6_happen) (maxL := 6) (ret := (some .int)) (by decide) rfl (Nat.le_of_ble_eq_true rfl) ?_
  intro p e s m args below meth c ls hx hb hr hml hown hts hlocks hnm hK hW hl
  have hL : ∀ q ∈ ([] : List Loc), k_B X ≤ q.base := fun _ h => nomatch h
  have hl : lv_has ls 6 [(0, .ref (ad 5 16 0)), (1, .int kd), (2, .int fi), (3, .int se), (4, .int th)] := hl
  have fX6 : ∀ w ∈ u_ws RX6 TX6 2, w.before args s = true := fun w h => hts w ((by decide +kernel : ∀ w ∈ u_ws RX6 TX6 2, w ∈ wsX6_happen) w h)
  replace hW := k_N.of hW
  refine k_new (ci := 7) (K := RX1) (T := TX1) (N := 4) (fs := [.int 0, .int 0, .int 0, .int 0]) hx hb hts (by decide +kernel) tyX1 tyX1_ok hown (hts (.classLink RX6 229 RX1) (by decide +kernel)) (hts (.instantiable RX1 4) (by decide +kernel)) (hts (.initialized RX1) (by decide +kernel)) hK hW rfl (by decide) (Nat.le_of_ble_eq_true rfl) (Nat.le_of_ble_eq_true rfl) dX6_happen_0 (fun q1 H hW => ?_)
  refine lv_dup hx hb dX6_happen_3 rfl ?_
  refine lv_iload_n hx hb dX6_happen_4 rfl (lv_at hl 1 rfl) ?_
  refine lv_iload_n hx hb dX6_happen_5 rfl (lv_at hl 2 rfl) ?_
  refine lv_iload_n hx hb dX6_happen_6 rfl (lv_at hl 3 rfl) ?_
  refine lv_iload hx hb dX6_happen_7 (lv_at hl 4 rfl) ?_
  refine k_callI (As := [.int kd, .int fi, .int se, .int th]) (rest := [.ref q1]) ⟨hx, hb, hml, hown, hts⟩ hK (c_X1_init X l q1 kd fi se th) (cwI 4 hts gX6_happen_X1_init rfl rfl rfl (hts (.initialized RX1) (by decide +kernel)) (hts (.methodLink RX6 231 yX1_init) (by decide +kernel)) (hts (.instanceMethod yX1_init) (by decide +kernel)) rfl (by decide +kernel) ⟨Nat.le_of_ble_eq_true rfl, Nat.le_of_ble_eq_true rfl⟩) hW rfl hl.1 rfl (Nat.le_of_ble_eq_true rfl) dX6_happen_9 ⟨Nat.le_of_ble_eq_true rfl, Nat.le_of_ble_eq_true rfl⟩ hL (fun v9 H locs hp hL => ?_)
  obtain ⟨rfl, hW⟩ := hp
  refine lv_astore (lv' := [(5, .ref q1), (0, .ref (ad 5 16 0)), (1, .int kd), (2, .int fi), (3, .int se), (4, .int th)]) hx hb dX6_happen_12 hl (by decide) rfl (fun ls hl => ?_)
  refine lv_aload_n hx hb dX6_happen_14 rfl (lv_at hl 1 rfl) ?_
  refine k_get (g := 5) (K := RX6) (T := TX6) (N := 2) (v := .ref (ad 5 17 0)) (w := .ref (ad 5 17 0)) hx hb fX6 hown hK (k_ev hW.1) 16 0 hc.o (fun _ => rfl) rfl 1 (by decide) (hts (.fieldLink RX6 19 "Crossdockery" "events" "Ljava/util/ArrayList;") (by decide +kernel)) rfl rfl rfl dX6_happen_15 ?_
  obtain ⟨fr2, hF9, hb3⟩ := hW.freeze
  replace hW := hF9
  refine k_callV (As := []) (rest := []) ⟨hx, hb, hml, hown, hts⟩ hK (c_Jx4a65c_size_8abf5 X l hc.li (hc.e X ad L)) (cwV 0 hts gX6_happen_Jx4a65c_size_8abf5 rfl rfl rfl (by decide +kernel) ⟨Nat.le_of_ble_eq_true rfl, Nat.le_of_ble_eq_true rfl⟩) (k_recv hK (k_ev hW) 17 0 hc.li (fun _ => rfl) rfl) (k_ev hW) rfl hl.1 rfl (Nat.le_of_ble_eq_true rfl) dX6_happen_18 ⟨Nat.le_of_ble_eq_true rfl, Nat.le_of_ble_eq_true rfl⟩ hL (fun v9 H locs hp hL => ?_)
  obtain ⟨rfl, hW⟩ := hp
  rw [k_g_self] at hW
  replace hW := hb3 _ _ _ _ _ hW
  refine lv_sipush (v := 512) hx hb dX6_happen_21 (by decide) ?_
  refine lv_icmp_ge (tgt := 37) hx hb dX6_happen_24 (by decide) (fun c4 => ?_) (fun c4 => ?_)
  ·
    exact absurd (k_nI_ge (a := ne) (b := 512) (by omega) (by decide) (show nI ne ≥ nI 512 from c4)) (by omega)
  ·
    refine lv_aload_n hx hb dX6_happen_27 rfl (lv_at hl 1 rfl) ?_
    refine k_get (g := 5) (K := RX6) (T := TX6) (N := 2) (v := .ref (ad 5 17 0)) (w := .ref (ad 5 17 0)) hx hb fX6 hown hK (k_ev hW.1) 16 0 hc.o (fun _ => rfl) rfl 1 (by decide) (hts (.fieldLink RX6 19 "Crossdockery" "events" "Ljava/util/ArrayList;") (by decide +kernel)) rfl rfl rfl dX6_happen_28 ?_
    refine lv_aload hx hb dX6_happen_31 (lv_at hl 0 rfl) ?_
    rcases Nat.eq_zero_or_pos ne with h0 | h0
    ·
      subst h0
      replace hW := k_outE0 hW hc
      refine k_callV (As := [.ref q1]) (rest := []) ⟨hx, hb, hml, hown, hts⟩ hK (c_Jx4a65c_add_9ea2d_B X l (ad 5 17 0) q1 (k_g C 0 D 5 17 0 0) (fun s9 H9 hK9 hP9 => k_anyO hK9 (List.mem_of_getElem? (i := 11) rfl) (va_recv (q0 := 0) (ci := 7) hK9.1 hP9 rfl rfl))) (cwV 1 hts gX6_happen_Jx4a65c_add_9ea2d rfl rfl rfl (by decide +kernel) ⟨Nat.le_of_ble_eq_true rfl, Nat.le_of_ble_eq_true rfl⟩) (va_recv (q0 := 0) (ci := 3) hK.1 hW.2.1 rfl rfl) hW rfl hl.1 rfl (Nat.le_of_ble_eq_true rfl) dX6_happen_33 ⟨(by show _ ≤ (5 : Nat); omega), (by show _ ≤ (805 : Nat); omega)⟩ hL (fun v9 H locs hp hL => ?_)
      obtain ⟨q5, rfl, hW⟩ := hp
      rw [show (0 + 1 : Int32) = nI (0 + 1) by decide] at hW
      replace hW : k_N X (k_n1 n 5 40) ad L (k_g C 0 D) fr [(ad 5 17 0, .inr (3, [.int (k_g C 0 D 5 17 0 0 + 1), .ref q5, .int (nI (0 + 1))])), (q5, .inl (X.2.1 4, 10, .inr (.inr (.inr (.inr (va_up (fun _ => none) 0 (some q1))))))), (q1, .inr (7, [.int kd, .int fi, .int se, .int th]))] H := hW.sub [1, 0, 2] (by decide) rfl
      obtain ⟨n1, ad1, L1, E, ho, h16, hq, hc1, hE, hEw, hW7⟩ := k_closeE hc hW k_fB (by decide)
      rw [k_g_comm (by decide)] at hW7
      subst hq
      replace hW := hW7
      rw [← h16] at hl
      have hl : lv_has ls 6 [(5, .ref (ad1 5 19 0)), (0, .ref (ad1 5 16 0)), (1, .int kd), (2, .int fi), (3, .int se), (4, .int th)] := hl
      refine lv_pop hx hb dX6_happen_36 rfl ?_
      refine lv_aload_n hx hb dX6_happen_37 rfl (lv_at hl 1 rfl) ?_
      refine k_get (g := 5) (K := RX6) (T := TX6) (N := 2) (v := .ref (ad1 0 0 0)) (w := .ref (ad1 0 0 0)) hx hb fX6 hown hK (k_ev hW) 16 0 hc1.o (fun _ => rfl) rfl 0 (by decide) (hts (.fieldLink RX6 12 "Crossdockery" "dock" "LCrossdockery$Dock;") (by decide +kernel)) rfl rfl rfl dX6_happen_38 ?_
      refine lv_aload hx hb dX6_happen_41 (lv_at hl 0 rfl) ?_
      have hd1 : kDk n1 0 nl nt ng := by unfold kDk; rw [(ho 0 (by decide)).1]; exact hd
      have h91 : n1 0 9 = 0 := by rw [(ho 0 (by decide)).1]; exact h9
      have hw9 : k_g C 5 E 5 19 0 = k_fe kd fi se th := by rw [k_g_at]; exact hEw
      have hok1 : kOk (D, nl, nt, ng) (k_g C 5 E 5 19 0) := by rw [hw9]; exact hok
      have hcl := k_cst_le (k_fe kd fi se th)
      refine k_callV (As := [.ref (ad1 5 19 0)]) (rest := []) ⟨hx, hb, hml, hown, hts⟩ hK (c_X0_undergo X l hd1 D hwf h91 (by decide) (hc1.ev (Nat.lt_succ_self _)) hok1) (cwV 1 hts gX6_happen_X0_undergo rfl rfl rfl (by decide +kernel) ⟨Nat.le_of_ble_eq_true rfl, Nat.le_of_ble_eq_true rfl⟩) (k_recv hK hW 0 0 hd1.o (fun _ => rfl) rfl) hW rfl hl.1 rfl (Nat.le_of_ble_eq_true rfl) dX6_happen_43 ⟨(by show _ ≤ (5 : Nat); rw [hw9]; omega), (by show _ ≤ (805 : Nat); rw [hw9]; omega)⟩ hL (fun v9 H locs hp hL => ?_)
      rw [hw9] at hp
      obtain ⟨rfl, hN⟩ := hp
      refine k_more (cells' := 5) (slots' := 805) (by rw [hw9]; omega) (by rw [hw9]; omega) ?_
      exact k_iret hx hb hr hlocks ⟨rfl, kHap.mk ho h16 hc1 hE hEw hN⟩ hL dX6_happen_46
    ·
      have hcp := k_capE hW.1 hc h0
      by_cases hlt : ne < L 5 18 0
      ·
        replace hW := k_outE1 hW hc h0
        refine k_callV (As := [.ref q1]) (rest := []) ⟨hx, hb, hml, hown, hts⟩ hK (c_Jx4a65c_add_9ea2d_A X l (ad 5 17 0) (ad 5 18 0) q1 (k_g C 0 D 5 17 0 0) ne (L 5 18 0) (fun j => if j < ne then some (ad 5 19 j) else none) hlt (by omega) (fun s9 H9 hK9 hP9 => k_anyO hK9 (List.mem_of_getElem? (i := 11) rfl) (va_recv (q0 := 0) (ci := 7) hK9.1 hP9 rfl rfl))) (cwV 1 hts gX6_happen_Jx4a65c_add_9ea2d rfl rfl rfl (by decide +kernel) ⟨Nat.le_of_ble_eq_true rfl, Nat.le_of_ble_eq_true rfl⟩) (va_recv (q0 := 0) (ci := 3) hK.1 hW.2.1 rfl rfl) hW rfl hl.1 rfl (Nat.le_of_ble_eq_true rfl) dX6_happen_33 ⟨(by show _ ≤ (5 : Nat); omega), (by show _ ≤ (805 : Nat); omega)⟩ hL (fun v9 H locs hp hL => ?_)
        obtain ⟨rfl, hW⟩ := hp
        replace hW : k_N X (k_n1 n 5 40) ad L (k_g C 0 D) fr [(ad 5 17 0, .inr (3, [.int (k_g C 0 D 5 17 0 0 + 1), .ref (ad 5 18 0), .int (nI (ne + 1))])), (ad 5 18 0, .inl (X.2.1 4, L 5 18 0, .inr (.inr (.inr (.inr (va_up (fun j => if j < ne then some (ad 5 19 j) else none) ne (some q1))))))), (q1, .inr (7, [.int kd, .int fi, .int se, .int th]))] H := hW.sub [0, 1, 2] (by decide) rfl
        obtain ⟨n1, ad1, L1, E, ho, h16, hq, hc1, hE, hEw, hW7⟩ := k_closeE hc hW k_fA (by omega)
        rw [k_g_comm (by decide)] at hW7
        subst hq
        replace hW := hW7
        rw [← h16] at hl
        have hl : lv_has ls 6 [(5, .ref (ad1 5 19 ne)), (0, .ref (ad1 5 16 0)), (1, .int kd), (2, .int fi), (3, .int se), (4, .int th)] := hl
        refine lv_pop hx hb dX6_happen_36 rfl ?_
        refine lv_aload_n hx hb dX6_happen_37 rfl (lv_at hl 1 rfl) ?_
        refine k_get (g := 5) (K := RX6) (T := TX6) (N := 2) (v := .ref (ad1 0 0 0)) (w := .ref (ad1 0 0 0)) hx hb fX6 hown hK (k_ev hW) 16 0 hc1.o (fun _ => rfl) rfl 0 (by decide) (hts (.fieldLink RX6 12 "Crossdockery" "dock" "LCrossdockery$Dock;") (by decide +kernel)) rfl rfl rfl dX6_happen_38 ?_
        refine lv_aload hx hb dX6_happen_41 (lv_at hl 0 rfl) ?_
        have hd1 : kDk n1 0 nl nt ng := by unfold kDk; rw [(ho 0 (by decide)).1]; exact hd
        have h91 : n1 0 9 = 0 := by rw [(ho 0 (by decide)).1]; exact h9
        have hw9 : k_g C 5 E 5 19 ne = k_fe kd fi se th := by rw [k_g_at]; exact hEw
        have hok1 : kOk (D, nl, nt, ng) (k_g C 5 E 5 19 ne) := by rw [hw9]; exact hok
        have hcl := k_cst_le (k_fe kd fi se th)
        refine k_callV (As := [.ref (ad1 5 19 ne)]) (rest := []) ⟨hx, hb, hml, hown, hts⟩ hK (c_X0_undergo X l hd1 D hwf h91 (by decide) (hc1.ev (Nat.lt_succ_self _)) hok1) (cwV 1 hts gX6_happen_X0_undergo rfl rfl rfl (by decide +kernel) ⟨Nat.le_of_ble_eq_true rfl, Nat.le_of_ble_eq_true rfl⟩) (k_recv hK hW 0 0 hd1.o (fun _ => rfl) rfl) hW rfl hl.1 rfl (Nat.le_of_ble_eq_true rfl) dX6_happen_43 ⟨(by show _ ≤ (5 : Nat); rw [hw9]; omega), (by show _ ≤ (805 : Nat); rw [hw9]; omega)⟩ hL (fun v9 H locs hp hL => ?_)
        rw [hw9] at hp
        obtain ⟨rfl, hN⟩ := hp
        refine k_more (cells' := 5) (slots' := 805) (by rw [hw9]; omega) (by rw [hw9]; omega) ?_
        exact k_iret hx hb hr hlocks ⟨rfl, kHap.mk ho h16 hc1 hE hEw hN⟩ hL dX6_happen_46
      ·
        replace hW := k_outE1 hW hc h0
        rw [show L 5 18 0 = ne by omega] at hW
        refine k_callV (As := [.ref q1]) (rest := []) ⟨hx, hb, hml, hown, hts⟩ hK (c_Jx4a65c_add_9ea2d_C X l (ad 5 17 0) (ad 5 18 0) q1 (k_g C 0 D 5 17 0 0) ne (fun j => if j < ne then some (ad 5 19 j) else none) (by omega) (by omega) (fun s9 H9 hK9 hW9 i9 y9 hy => by
                      by_cases q9 : i9 < ne
                      · rw [if_pos q9] at hy; cases hy; exact k_anyW (g := 5) (r := 19) (i := i9) (ci := 7) hK9 hW9 (by show i9 < k_n1 n 5 40 5 19; rw [k_n1_r 5 (by decide), hc.2.2.1]; exact q9) rfl rfl (List.mem_of_getElem? (i := 11) rfl)
                      · rw [if_neg q9] at hy; cases hy) (fun s9 H9 hK9 hP9 => k_anyO hK9 (List.mem_of_getElem? (i := 11) rfl) (va_recv (q0 := 0) (ci := 7) hK9.1 hP9 rfl rfl))) (cwV 1 hts gX6_happen_Jx4a65c_add_9ea2d rfl rfl rfl (by decide +kernel) ⟨Nat.le_of_ble_eq_true rfl, Nat.le_of_ble_eq_true rfl⟩) (va_recv (q0 := 0) (ci := 3) hK.1 hW.2.1 rfl rfl) hW rfl hl.1 rfl (Nat.le_of_ble_eq_true rfl) dX6_happen_33 ⟨(by show _ ≤ (5 : Nat); omega), (by show _ ≤ (805 : Nat); omega)⟩ hL (fun v9 H locs hp hL => ?_)
        obtain ⟨q6, rfl, hW⟩ := hp
        replace hW : k_N X (k_n1 n 5 40) ad L (k_g C 0 D) fr [(ad 5 17 0, .inr (3, [.int (k_g C 0 D 5 17 0 0 + 1), .ref q6, .int (nI (ne + 1))])), (q6, .inl (X.2.1 4, (ne + ne / 2), .inr (.inr (.inr (.inr (va_up (va_cpy (fun j => if j < ne then some (ad 5 19 j) else none) (fun _ => none) 0 0 ne) ne (some q1))))))), (q1, .inr (7, [.int kd, .int fi, .int se, .int th]))] H := hW.sub [1, 0, 3] (by decide) rfl
        obtain ⟨n1, ad1, L1, E, ho, h16, hq, hc1, hE, hEw, hW7⟩ := k_closeE hc hW k_fC (by omega)
        rw [k_g_comm (by decide)] at hW7
        subst hq
        replace hW := hW7
        rw [← h16] at hl
        have hl : lv_has ls 6 [(5, .ref (ad1 5 19 ne)), (0, .ref (ad1 5 16 0)), (1, .int kd), (2, .int fi), (3, .int se), (4, .int th)] := hl
        refine lv_pop hx hb dX6_happen_36 rfl ?_
        refine lv_aload_n hx hb dX6_happen_37 rfl (lv_at hl 1 rfl) ?_
        refine k_get (g := 5) (K := RX6) (T := TX6) (N := 2) (v := .ref (ad1 0 0 0)) (w := .ref (ad1 0 0 0)) hx hb fX6 hown hK (k_ev hW) 16 0 hc1.o (fun _ => rfl) rfl 0 (by decide) (hts (.fieldLink RX6 12 "Crossdockery" "dock" "LCrossdockery$Dock;") (by decide +kernel)) rfl rfl rfl dX6_happen_38 ?_
        refine lv_aload hx hb dX6_happen_41 (lv_at hl 0 rfl) ?_
        have hd1 : kDk n1 0 nl nt ng := by unfold kDk; rw [(ho 0 (by decide)).1]; exact hd
        have h91 : n1 0 9 = 0 := by rw [(ho 0 (by decide)).1]; exact h9
        have hw9 : k_g C 5 E 5 19 ne = k_fe kd fi se th := by rw [k_g_at]; exact hEw
        have hok1 : kOk (D, nl, nt, ng) (k_g C 5 E 5 19 ne) := by rw [hw9]; exact hok
        have hcl := k_cst_le (k_fe kd fi se th)
        refine k_callV (As := [.ref (ad1 5 19 ne)]) (rest := []) ⟨hx, hb, hml, hown, hts⟩ hK (c_X0_undergo X l hd1 D hwf h91 (by decide) (hc1.ev (Nat.lt_succ_self _)) hok1) (cwV 1 hts gX6_happen_X0_undergo rfl rfl rfl (by decide +kernel) ⟨Nat.le_of_ble_eq_true rfl, Nat.le_of_ble_eq_true rfl⟩) (k_recv hK hW 0 0 hd1.o (fun _ => rfl) rfl) hW rfl hl.1 rfl (Nat.le_of_ble_eq_true rfl) dX6_happen_43 ⟨(by show _ ≤ (5 : Nat); rw [hw9]; omega), (by show _ ≤ (805 : Nat); rw [hw9]; omega)⟩ hL (fun v9 H locs hp hL => ?_)
        rw [hw9] at hp
        obtain ⟨rfl, hN⟩ := hp
        refine k_more (cells' := 5) (slots' := 805) (by rw [hw9]; omega) (by rw [hw9]; omega) ?_
        exact k_iret hx hb hr hlocks ⟨rfl, kHap.mk ho h16 hc1 hE hEw hN⟩ hL dX6_happen_46
