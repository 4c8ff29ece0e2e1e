/-! the dock and the dock made anew, side by side -/
theorem k_sw {X : kX} {n : Nat → Nat → Nat} {ad L : Nat → Nat → Nat → Nat} {C : Nat → Nat → Nat → Nat → Int32} {fr : Nat → Option Cell} {H : Heap} {D E : KD} (h : k_W X n ad L (k_g (k_g C 0 D) 1 E) fr H) : k_W X n ad L (k_g (k_g C 1 E) 0 D) fr H := by
  rw [k_g_comm (by decide)]
  exact h
theorem k_sw1 {X : kX} {n : Nat → Nat → Nat} {ad L : Nat → Nat → Nat → Nat} {C : Nat → Nat → Nat → Nat → Int32} {fr : Nat → Option Cell} {H : Heap} {D E : KD} (h : k_W X n ad L (k_g (k_g C 1 E) 0 D) fr H) : k_W X n ad L (k_g (k_g C 0 D) 1 E) fr H := by
  rw [k_g_comm (by decide)]
  exact h
set_option maxHeartbeats 400000 in
set_option maxRecDepth 100000 in
theorem c_X6_isInvoicedAlike (X : kX) (l : Launch) {n : Nat → Nat → Nat} {ad L : Nat → Nat → Nat → Nat} {C : Nat → Nat → Nat → Nat → Int32} {fr : Nat → Option Cell} {nl nt ng : Nat} (hd0 : kDk n 0 nl nt ng) (hd1 : kDk n 1 nl nt ng) (D : KD) {ne : Nat} (hc : kCx n ne) {i : Nat} (hi : i < nl) (hnum : D 4 i 0 = nI i) : k_M X l yX6_isInvoicedAlike wsX6_isInvoicedAlike ({ frames := 4, cells := 0, slots := 0, locals := 76 }) [.ref (ad 5 16 0), .ref (ad 0 4 i), .ref (ad 1 0 0)] (k_W X n ad L (k_g (k_g C 0 D) 1 D) fr) (fun v H => v = some (.int 1) ∧ k_W X n ad L (k_g (k_g C 0 D) 1 D) fr H) 0 0 := by
  refine k_M.of (cc := cX6_isInvoicedAlike) (maxL := 5) (ret := some .boolean) (by decide) rfl (Nat.le_of_ble_eq_true rfl) ?_
  intro p e s m args below meth c ls hx hb hr hml hown hts hlocks hnm hK hW hl
  have hl8 := hd0.l8
  have hL : ∀ q ∈ ([] : List Loc), k_B X ≤ q.base := fun _ h => nomatch h
  have hl : lv_has ls 5 [(0, .ref (ad 5 16 0)), (1, .ref (ad 0 4 i)), (2, .ref (ad 1 0 0))] := hl
  have fX3 : ∀ w ∈ u_ws RX3 TX3 15, w.before args s = true := fun w h => hts w ((by decide +kernel : ∀ w ∈ u_ws RX3 TX3 15, w ∈ wsX6_isInvoicedAlike) w h)
  have fX0 : ∀ w ∈ u_ws RX0 TX0 5, w.before args s = true := fun w h => hts w ((by decide +kernel : ∀ w ∈ u_ws RX0 TX0 5, w ∈ wsX6_isInvoicedAlike) w h)
  have fX6 : ∀ w ∈ u_ws RX6 TX6 2, w.before args s = true := fun w h => hts w ((by decide +kernel : ∀ w ∈ u_ws RX6 TX6 2, w ∈ wsX6_isInvoicedAlike) w h)
  refine lv_aload_n hx hb dX6_isInvoicedAlike_0 rfl (lv_at hl 1 rfl) ?_
  refine k_get (g := 0) (K := RX3) (T := TX3) (N := 15) (v := .int (D 4 i 0)) (w := .int (nI i)) hx hb fX3 hown hK (k_sw hW) 4 i (hd0.lo hi) (fun _ => rfl) rfl 0 (by decide) (hts (.fieldLink RX6 127 "Crossdockery$Lorry" "number" "I") (by decide +kernel)) rfl rfl (congrArg Value.int hnum) dX6_isInvoicedAlike_1 ?_
  refine lv_if_lt (tgt := 21) hx hb dX6_isInvoicedAlike_4 (by decide) (fun h1 => absurd h1 (nI_pos (by omega))) (fun h1 => ?_)
  refine lv_aload_n hx hb dX6_isInvoicedAlike_7 rfl (lv_at hl 1 rfl) ?_
  refine k_get (g := 0) (K := RX3) (T := TX3) (N := 15) (v := .int (D 4 i 0)) (w := .int (nI i)) hx hb fX3 hown hK (k_sw hW) 4 i (hd0.lo hi) (fun _ => rfl) rfl 0 (by decide) (hts (.fieldLink RX6 127 "Crossdockery$Lorry" "number" "I") (by decide +kernel)) rfl rfl (congrArg Value.int hnum) dX6_isInvoicedAlike_8 ?_
  refine lv_aload_n hx hb dX6_isInvoicedAlike_11 rfl (lv_at hl 2 rfl) ?_
  refine k_get (g := 1) (K := RX0) (T := TX0) (N := 5) (v := .ref (ad 1 1 0)) (w := .ref (ad 1 1 0)) hx hb fX0 hown hK hW 0 0 hd1.o (fun _ => rfl) rfl 0 (by decide) (hts (.fieldLink RX6 34 "Crossdockery$Dock" "lorries" "Ljava/util/ArrayList;") (by decide +kernel)) rfl rfl rfl dX6_isInvoicedAlike_12 ?_
  refine k_callV (As := []) (rest := [.int (nI i)]) ⟨hx, hb, hml, hown, hts⟩ hK (c_size0 X l hd1) (cwV 0 hts gX6_isInvoicedAlike_Jx4a65c_size_8abf5 rfl rfl rfl (by decide +kernel) ⟨Nat.le_of_ble_eq_true rfl, Nat.le_of_ble_eq_true rfl⟩) (k_recv hK hW 1 0 (hd1.li (by decide)) (fun _ => rfl) rfl) hW rfl hl.1 rfl (Nat.le_of_ble_eq_true rfl) dX6_isInvoicedAlike_15 ⟨Nat.le_of_ble_eq_true rfl, Nat.le_of_ble_eq_true rfl⟩ hL (fun v9 H locs hp hL => ?_)
  obtain ⟨rfl, hW⟩ := hp
  refine lv_icmp_lt (tgt := 23) hx hb dX6_isInvoicedAlike_18 (by decide) (fun h2 => ?_) (fun h2 => absurd ((nI_ltI (by omega) (by omega)).mpr hi) h2)
  refine lv_aload_n hx hb dX6_isInvoicedAlike_23 rfl (lv_at hl 2 rfl) ?_
  refine k_get (g := 1) (K := RX0) (T := TX0) (N := 5) (v := .ref (ad 1 1 0)) (w := .ref (ad 1 1 0)) hx hb fX0 hown hK hW 0 0 hd1.o (fun _ => rfl) rfl 0 (by decide) (hts (.fieldLink RX6 34 "Crossdockery$Dock" "lorries" "Ljava/util/ArrayList;") (by decide +kernel)) rfl rfl rfl dX6_isInvoicedAlike_24 ?_
  refine lv_aload_n hx hb dX6_isInvoicedAlike_27 rfl (lv_at hl 1 rfl) ?_
  refine k_get (g := 0) (K := RX3) (T := TX3) (N := 15) (v := .int (D 4 i 0)) (w := .int (nI i)) hx hb fX3 hown hK (k_sw hW) 4 i (hd0.lo hi) (fun _ => rfl) rfl 0 (by decide) (hts (.fieldLink RX6 127 "Crossdockery$Lorry" "number" "I") (by decide +kernel)) rfl rfl (congrArg Value.int hnum) dX6_isInvoicedAlike_28 ?_
  refine k_callV (As := [.int (nI i)]) (rest := []) ⟨hx, hb, hml, hown, hts⟩ hK (c_get0 X l hd1 hW.cap (j := i) hi) (cwV 1 hts gX6_isInvoicedAlike_Jx4a65c_get_915e3 rfl rfl rfl (by decide +kernel) ⟨Nat.le_of_ble_eq_true rfl, Nat.le_of_ble_eq_true rfl⟩) (k_recv hK hW 1 0 (hd1.li (by decide)) (fun _ => rfl) rfl) hW rfl hl.1 rfl (Nat.le_of_ble_eq_true rfl) dX6_isInvoicedAlike_31 ⟨Nat.le_of_ble_eq_true rfl, Nat.le_of_ble_eq_true rfl⟩ hL (fun v9 H locs hp hL => ?_)
  obtain ⟨rfl, hW⟩ := hp
  refine k_cast' (K := RX3) (nm := RX3) hx hb hown (hts (.classLink RX6 55 RX3) (by decide +kernel)) hK (List.mem_of_getElem? (i := 4) rfl) (k_recv hK hW 4 i (hd1.lo hi) (fun _ => rfl) rfl) dX6_isInvoicedAlike_34 ?_
  refine lv_astore_n (lv' := [(3, .ref (ad 1 4 i)), (0, .ref (ad 5 16 0)), (1, .ref (ad 0 4 i)), (2, .ref (ad 1 0 0))]) hx hb dX6_isInvoicedAlike_37 rfl hl (by decide) rfl (fun ls hl => ?_)
  refine lv_iconst (v := (-1)) hx hb dX6_isInvoicedAlike_38 (by decide) ?_
  refine lv_istore (lv' := [(4, .int (-1)), (3, .ref (ad 1 4 i)), (0, .ref (ad 5 16 0)), (1, .ref (ad 0 4 i)), (2, .ref (ad 1 0 0))]) hx hb dX6_isInvoicedAlike_39 hl (by decide) rfl (fun ls hl => ?_)
  refine k_for (nl + 1) (fun k H locs ls => k_W X n ad L (k_g (k_g C 0 D) 1 D) fr H ∧ (∀ q ∈ locs, k_B X ≤ q.base) ∧ lv_has ls 5 [(4, .int (nI k - 1)), (3, .ref (ad 1 4 i)), (0, .ref (ad 5 16 0)), (1, .ref (ad 0 4 i)), (2, .ref (ad 1 0 0))]) 0 ⟨hW, hL, hl⟩ (Nat.zero_le _) (fun k hk ih H locs ls hI => ?_)
  obtain ⟨hW, hL, hl⟩ := hI
  refine lv_iload hx hb dX6_isInvoicedAlike_41 (lv_at hl 0 rfl) ?_
  refine lv_aload_n hx hb dX6_isInvoicedAlike_43 rfl (lv_at hl 2 rfl) ?_
  refine k_get (g := 5) (K := RX6) (T := TX6) (N := 2) (v := .ref (ad 0 0 0)) (w := .ref (ad 0 0 0)) hx hb fX6 hown hK (k_ev hW) 16 0 hc.o (fun _ => rfl) rfl 0 (by decide) (hts (.fieldLink RX6 12 "Crossdockery" "dock" "LCrossdockery$Dock;") (by decide +kernel)) rfl rfl rfl dX6_isInvoicedAlike_44 ?_
  refine k_get (g := 0) (K := RX0) (T := TX0) (N := 5) (v := .ref (ad 0 1 0)) (w := .ref (ad 0 1 0)) hx hb fX0 hown hK (k_sw hW) 0 0 hd0.o (fun _ => rfl) rfl 0 (by decide) (hts (.fieldLink RX6 34 "Crossdockery$Dock" "lorries" "Ljava/util/ArrayList;") (by decide +kernel)) rfl rfl rfl dX6_isInvoicedAlike_47 ?_
  refine k_callV (As := []) (rest := [.int (nI k - 1)]) ⟨hx, hb, hml, hown, hts⟩ hK (c_size0 X l hd0) (cwV 0 hts gX6_isInvoicedAlike_Jx4a65c_size_8abf5 rfl rfl rfl (by decide +kernel) ⟨Nat.le_of_ble_eq_true rfl, Nat.le_of_ble_eq_true rfl⟩) (k_recv hK (k_sw hW) 1 0 (hd0.li (by decide)) (fun _ => rfl) rfl) (k_sw hW) rfl hl.1 rfl (Nat.le_of_ble_eq_true rfl) dX6_isInvoicedAlike_50 ⟨Nat.le_of_ble_eq_true rfl, Nat.le_of_ble_eq_true rfl⟩ hL (fun v9 H locs hp hL => ?_)
  obtain ⟨rfl, hW⟩ := hp
  replace hW := k_sw1 hW
  refine lv_icmp_ge (tgt := 79) hx hb dX6_isInvoicedAlike_53 (by decide) (fun h3 => ?_) (fun h3 => ?_)
  ·
    refine lv_iconst (v := 1) hx hb dX6_isInvoicedAlike_79 (by decide) ?_
    exact k_zret hx hb hr (by decide) hlocks ⟨rfl, hW⟩ hL dX6_isInvoicedAlike_80
  ·
    have hlt := k_m1_nge (by omega) (by omega) h3
    refine lv_aload_n hx hb dX6_isInvoicedAlike_56 rfl (lv_at hl 3 rfl) ?_
    refine lv_iload hx hb dX6_isInvoicedAlike_57 (lv_at hl 0 rfl) ?_
    refine k_callV (As := [.int (nI k - 1)]) (rest := []) ⟨hx, hb, hml, hown, hts⟩ hK (c_X3_centsFrom X l hd0 D i hi (nI k - 1)) (cwV 1 hts gX6_isInvoicedAlike_X3_centsFrom rfl rfl rfl (by decide +kernel) ⟨Nat.le_of_ble_eq_true rfl, Nat.le_of_ble_eq_true rfl⟩) (k_recv hK (k_sw hW) 4 i (hd0.lo hi) (fun _ => rfl) rfl) (k_sw hW) rfl hl.1 rfl (Nat.le_of_ble_eq_true rfl) dX6_isInvoicedAlike_59 ⟨Nat.le_of_ble_eq_true rfl, Nat.le_of_ble_eq_true rfl⟩ hL (fun v9 H locs hp hL => ?_)
    obtain ⟨rfl, hW⟩ := hp
    replace hW := k_sw1 hW
    refine lv_aload_n hx hb dX6_isInvoicedAlike_62 rfl (lv_at hl 1 rfl) ?_
    refine lv_iload hx hb dX6_isInvoicedAlike_63 (lv_at hl 0 rfl) ?_
    refine k_callV (As := [.int (nI k - 1)]) (rest := [.int (s_X3_centsFrom D i (nI k - 1))]) ⟨hx, hb, hml, hown, hts⟩ hK (c_X3_centsFrom X l hd1 D i hi (nI k - 1)) (cwV 1 hts gX6_isInvoicedAlike_X3_centsFrom rfl rfl rfl (by decide +kernel) ⟨Nat.le_of_ble_eq_true rfl, Nat.le_of_ble_eq_true rfl⟩) (k_recv hK hW 4 i (hd1.lo hi) (fun _ => rfl) rfl) hW rfl hl.1 rfl (Nat.le_of_ble_eq_true rfl) dX6_isInvoicedAlike_65 ⟨Nat.le_of_ble_eq_true rfl, Nat.le_of_ble_eq_true rfl⟩ hL (fun v9 H locs hp hL => ?_)
    obtain ⟨rfl, hW⟩ := hp
    refine lv_icmp_eq (tgt := 73) hx hb dX6_isInvoicedAlike_68 (by decide) (fun _ => ?_) (fun h4 => absurd rfl h4)
    refine lv_iinc (v := nI (k + 1) - 1) (k := 0) (lv' := [(4, .int (nI (k + 1) - 1)), (3, .ref (ad 1 4 i)), (0, .ref (ad 5 16 0)), (1, .ref (ad 0 4 i)), (2, .ref (ad 1 0 0))]) hx hb dX6_isInvoicedAlike_73 hl rfl (k_m1_s _) (by decide) rfl (fun ls hl => ?_)
    refine lv_goto (tgt := 41) hx hb dX6_isInvoicedAlike_76 (by decide) ?_
    exact ih _ _ _ hlt ⟨hW, hL, hl⟩
def f_sound (D : KD) (nl nt ng k : Nat) (z : Int64) : Int64 := z + s_X0_balanceOf D nl nt ng (nI k)
set_option maxHeartbeats 400000 in
set_option maxRecDepth 100000 in
theorem c_X6_isSound (X : kX) (l : Launch) {n : Nat → Nat → Nat} {ad L : Nat → Nat → Nat → Nat} {C : Nat → Nat → Nat → Nat → Int32} {fr : Nat → Option Cell} {nl nt ng : Nat} (hd : kDk n 0 nl nt ng) (D : KD) {ne : Nat} (hc : kCx n ne) (hne : ne ≤ 512) (hn1 : ∀ r, n 1 r = 0) (hok : ∀ j, j < ne → kOk (kRun (C 5 19) j) (C 5 19 j)) (hrun : kRun (C 5 19) ne = (D, nl, nt, ng)) (hnum : ∀ i, i < nl → D 4 i 0 = nI i) (hsum : ∀ i, i < nl → D 4 i 8 = D 4 i 9 + s_X3_owedMinutes D i) (hbal : it (f_sound D nl nt ng) nl (s_X0_balanceOf D nl nt ng (-1)) = 0) : k_M X l yX6_isSound wsX6_isSound ({ frames := 10, cells := 89, slots := 970, locals := 256 }) [.ref (ad 5 16 0)] (k_W X n ad L (k_g C 0 D) fr) (fun v H => v = some (.int 1) ∧ k_W X n ad L (k_g C 0 D) fr H) 89 970 := by
  refine k_M.of (cc := cX6_isSound) (maxL := 6) (ret := some .boolean) (by decide) rfl (Nat.le_of_ble_eq_true rfl) ?_
  intro p e s m args below meth c ls hx hb hr hml hown hts hlocks hnm hK hW hl
  have hl8 := hd.l8
  have hW0 := hW
  have hL : ∀ q ∈ ([] : List Loc), k_B X ≤ q.base := fun _ h => nomatch h
  have hl : lv_has ls 6 [(0, .ref (ad 5 16 0))] := hl
  have fX3 : ∀ w ∈ u_ws RX3 TX3 15, w.before args s = true := fun w h => hts w ((by decide +kernel : ∀ w ∈ u_ws RX3 TX3 15, w ∈ wsX6_isSound) w h)
  have fX0 : ∀ w ∈ u_ws RX0 TX0 5, w.before args s = true := fun w h => hts w ((by decide +kernel : ∀ w ∈ u_ws RX0 TX0 5, w ∈ wsX6_isSound) w h)
  have fX6 : ∀ w ∈ u_ws RX6 TX6 2, w.before args s = true := fun w h => hts w ((by decide +kernel : ∀ w ∈ u_ws RX6 TX6 2, w ∈ wsX6_isSound) w h)
  refine lv_aload_n hx hb dX6_isSound_0 rfl (lv_at hl 0 rfl) ?_
  have hokA : ∀ j, j < ne → kOk (kRun (k_g C 0 D 5 19) j) (k_g C 0 D 5 19 j) := by rw [k_g_ne _ _ (by decide)]; exact hok
  refine k_callV (As := []) (rest := []) ⟨hx, hb, hml, hown, hts⟩ hK (c_X6_dockAnew X l hc hne hn1 hokA) (cwV 0 hts gX6_isSound_X6_dockAnew rfl rfl rfl (by decide +kernel) ⟨Nat.le_of_ble_eq_true rfl, Nat.le_of_ble_eq_true rfl⟩) (k_recv hK (k_ev hW) 16 0 hc.o (fun _ => rfl) rfl) hW rfl hl.1 rfl (Nat.le_of_ble_eq_true rfl) dX6_isSound_1 ⟨Nat.le_of_ble_eq_true rfl, Nat.le_of_ble_eq_true rfl⟩ hL (fun v9 H locs hp hL => ?_)
  obtain ⟨a9, rfl, n1, ad1, L1, ho, ha, hd1, h91, hwf1, hW7⟩ := hp
  subst ha
  rw [show kRun (k_g C 0 D 5 19) ne = (D, nl, nt, ng) by rw [k_g_ne _ _ (by decide)]; exact hrun] at hd1 hW7
  replace hd1 : kDk n1 1 nl nt ng := hd1
  replace hW : k_W X n1 ad1 L1 (k_g (k_g C 0 D) 1 D) fr H := hW7
  have hd0 : kDk n1 0 nl nt ng := by unfold kDk; rw [(ho 0 (by decide)).1]; exact hd
  have hc1 : kCx n1 ne := by unfold kCx; rw [(ho 5 (by decide)).1]; exact hc
  have h5 : ad1 5 = ad 5 := (ho 5 (by decide)).2.1
  rw [← h5] at hl
  refine lv_astore_n (lv' := [(1, .ref (ad1 1 0 0)), (0, .ref (ad1 5 16 0))]) hx hb dX6_isSound_4 rfl hl (by decide) rfl (fun ls hl => ?_)
  refine lv_aload_n hx hb dX6_isSound_5 rfl (lv_at hl 1 rfl) ?_
  refine k_get (g := 5) (K := RX6) (T := TX6) (N := 2) (v := .ref (ad1 0 0 0)) (w := .ref (ad1 0 0 0)) hx hb fX6 hown hK (k_ev hW) 16 0 hc1.o (fun _ => rfl) rfl 0 (by decide) (hts (.fieldLink RX6 12 "Crossdockery" "dock" "LCrossdockery$Dock;") (by decide +kernel)) rfl rfl rfl dX6_isSound_6 ?_
  refine lv_iconst (v := (-1)) hx hb dX6_isSound_9 (by decide) ?_
  refine k_callV (As := [.int (-1)]) (rest := []) ⟨hx, hb, hml, hown, hts⟩ hK (c_X0_balanceOf X l hd0 D (-1)) (cwV 1 hts gX6_isSound_X0_balanceOf rfl rfl rfl (by decide +kernel) ⟨Nat.le_of_ble_eq_true rfl, Nat.le_of_ble_eq_true rfl⟩) (k_recv hK (k_sw hW) 0 0 hd0.o (fun _ => rfl) rfl) (k_sw hW) rfl hl.1 rfl (Nat.le_of_ble_eq_true rfl) dX6_isSound_10 ⟨Nat.le_of_ble_eq_true rfl, Nat.le_of_ble_eq_true rfl⟩ hL (fun v9 H locs hp hL => ?_)
  obtain ⟨rfl, hW⟩ := hp
  replace hW := k_sw1 hW
  refine lv_lstore_n (lv' := [(2, .long (s_X0_balanceOf D nl nt ng (-1))), (1, .ref (ad1 1 0 0)), (0, .ref (ad1 5 16 0))]) hx hb dX6_isSound_13 rfl hl (by decide) rfl (fun ls hl => ?_)
  refine lv_iconst (v := 0) hx hb dX6_isSound_14 (by decide) ?_
  refine lv_istore (lv' := [(4, .int 0), (2, .long (s_X0_balanceOf D nl nt ng (-1))), (1, .ref (ad1 1 0 0)), (0, .ref (ad1 5 16 0))]) hx hb dX6_isSound_15 hl (by decide) rfl (fun ls hl => ?_)
  refine k_for nl (fun k H locs ls => k_W X n1 ad1 L1 (k_g (k_g C 0 D) 1 D) fr H ∧ (∀ q ∈ locs, k_B X ≤ q.base) ∧ lv_has ls 6 [(4, .int (nI k)), (2, .long (it (f_sound D nl nt ng) k (s_X0_balanceOf D nl nt ng (-1)))), (1, .ref (ad1 1 0 0)), (0, .ref (ad1 5 16 0))]) 0 ⟨hW, hL, hl⟩ (Nat.zero_le _) (fun k hk ih H locs ls hI => ?_)
  obtain ⟨hW, hL, hl⟩ := hI
  refine lv_iload hx hb dX6_isSound_17 (lv_at hl 0 rfl) ?_
  refine lv_aload_n hx hb dX6_isSound_19 rfl (lv_at hl 3 rfl) ?_
  refine k_get (g := 5) (K := RX6) (T := TX6) (N := 2) (v := .ref (ad1 0 0 0)) (w := .ref (ad1 0 0 0)) hx hb fX6 hown hK (k_ev hW) 16 0 hc1.o (fun _ => rfl) rfl 0 (by decide) (hts (.fieldLink RX6 12 "Crossdockery" "dock" "LCrossdockery$Dock;") (by decide +kernel)) rfl rfl rfl dX6_isSound_20 ?_
  refine k_get (g := 0) (K := RX0) (T := TX0) (N := 5) (v := .ref (ad1 0 1 0)) (w := .ref (ad1 0 1 0)) hx hb fX0 hown hK (k_sw hW) 0 0 hd0.o (fun _ => rfl) rfl 0 (by decide) (hts (.fieldLink RX6 34 "Crossdockery$Dock" "lorries" "Ljava/util/ArrayList;") (by decide +kernel)) rfl rfl rfl dX6_isSound_23 ?_
  refine k_callV (As := []) (rest := [.int (nI k)]) ⟨hx, hb, hml, hown, hts⟩ hK (c_size0 X l hd0) (cwV 0 hts gX6_isSound_Jx4a65c_size_8abf5 rfl rfl rfl (by decide +kernel) ⟨Nat.le_of_ble_eq_true rfl, Nat.le_of_ble_eq_true rfl⟩) (k_recv hK (k_sw hW) 1 0 (hd0.li (by decide)) (fun _ => rfl) rfl) (k_sw hW) rfl hl.1 rfl (Nat.le_of_ble_eq_true rfl) dX6_isSound_26 ⟨Nat.le_of_ble_eq_true rfl, Nat.le_of_ble_eq_true rfl⟩ hL (fun v9 H locs hp hL => ?_)
  obtain ⟨rfl, hW⟩ := hp
  replace hW := k_sw1 hW
  refine lv_icmp_ge (tgt := 98) hx hb dX6_isSound_29 (by decide) (fun h3 => ?_) (fun h3 => ?_)
  ·
    have hge := k_nI_ge (by omega) (by omega) h3
    obtain rfl : nl = k := by omega
    refine lv_lload_n hx hb dX6_isSound_98 rfl (lv_at hl 1 rfl) ?_
    refine lv_lconst (v := 0) hx hb dX6_isSound_99 (by decide) ?_
    refine W.lcmp hx hb dX6_isSound_100 ?_
    rw [hbal]
    refine W.eq (g2 := F0 m 101 ls [.int 0]) (by first | rfl | decide) ?_
    refine lv_if_ne (tgt := 108) hx hb dX6_isSound_101 (by decide) (fun h4 => absurd rfl h4) (fun _ => ?_)
    refine lv_iconst (v := 1) hx hb dX6_isSound_104 (by decide) ?_
    refine lv_goto (tgt := 109) hx hb dX6_isSound_105 (by decide) ?_
    refine k_more (cells' := 89) (slots' := 970) (Nat.le_of_ble_eq_true rfl) (Nat.le_of_ble_eq_true rfl) ?_
    exact k_zret hx hb hr (by decide) hlocks ⟨rfl, k_forget1 ho hn1 hW0.cap hW⟩ hL dX6_isSound_109
  ·
    have hlt := k_nI_nge (by omega) (by omega) h3
    refine lv_aload_n hx hb dX6_isSound_32 rfl (lv_at hl 3 rfl) ?_
    refine k_get (g := 5) (K := RX6) (T := TX6) (N := 2) (v := .ref (ad1 0 0 0)) (w := .ref (ad1 0 0 0)) hx hb fX6 hown hK (k_ev hW) 16 0 hc1.o (fun _ => rfl) rfl 0 (by decide) (hts (.fieldLink RX6 12 "Crossdockery" "dock" "LCrossdockery$Dock;") (by decide +kernel)) rfl rfl rfl dX6_isSound_33 ?_
    refine k_get (g := 0) (K := RX0) (T := TX0) (N := 5) (v := .ref (ad1 0 1 0)) (w := .ref (ad1 0 1 0)) hx hb fX0 hown hK (k_sw hW) 0 0 hd0.o (fun _ => rfl) rfl 0 (by decide) (hts (.fieldLink RX6 34 "Crossdockery$Dock" "lorries" "Ljava/util/ArrayList;") (by decide +kernel)) rfl rfl rfl dX6_isSound_36 ?_
    refine lv_iload hx hb dX6_isSound_39 (lv_at hl 0 rfl) ?_
    refine k_callV (As := [.int (nI k)]) (rest := []) ⟨hx, hb, hml, hown, hts⟩ hK (c_get0 X l hd0 (k_sw hW).cap (j := k) hlt) (cwV 1 hts gX6_isSound_Jx4a65c_get_915e3 rfl rfl rfl (by decide +kernel) ⟨Nat.le_of_ble_eq_true rfl, Nat.le_of_ble_eq_true rfl⟩) (k_recv hK (k_sw hW) 1 0 (hd0.li (by decide)) (fun _ => rfl) rfl) (k_sw hW) rfl hl.1 rfl (Nat.le_of_ble_eq_true rfl) dX6_isSound_41 ⟨Nat.le_of_ble_eq_true rfl, Nat.le_of_ble_eq_true rfl⟩ hL (fun v9 H locs hp hL => ?_)
    obtain ⟨rfl, hW⟩ := hp
    replace hW := k_sw1 hW
    refine k_cast' (K := RX3) (nm := RX3) hx hb hown (hts (.classLink RX6 55 RX3) (by decide +kernel)) hK (List.mem_of_getElem? (i := 4) rfl) (k_recv hK (k_sw hW) 4 k (hd0.lo hlt) (fun _ => rfl) rfl) dX6_isSound_44 ?_
    refine lv_astore (lv' := [(5, .ref (ad1 0 4 k)), (4, .int (nI k)), (2, .long (it (f_sound D nl nt ng) k (s_X0_balanceOf D nl nt ng (-1)))), (1, .ref (ad1 1 0 0)), (0, .ref (ad1 5 16 0))]) hx hb dX6_isSound_47 hl (by decide) rfl (fun ls hl => ?_)
    refine lv_aload hx hb dX6_isSound_49 (lv_at hl 0 rfl) ?_
    refine k_get (g := 0) (K := RX3) (T := TX3) (N := 15) (v := .int (D 4 k 8)) (w := .int (D 4 k 8)) hx hb fX3 hown hK (k_sw hW) 4 k (hd0.lo hlt) (fun _ => rfl) rfl 8 (by decide) (hts (.fieldLink RX6 159 "Crossdockery$Lorry" "waited" "I") (by decide +kernel)) rfl rfl rfl dX6_isSound_51 ?_
    refine lv_aload hx hb dX6_isSound_54 (lv_at hl 0 rfl) ?_
    refine k_get (g := 0) (K := RX3) (T := TX3) (N := 15) (v := .int (D 4 k 9)) (w := .int (D 4 k 9)) hx hb fX3 hown hK (k_sw hW) 4 k (hd0.lo hlt) (fun _ => rfl) rfl 9 (by decide) (hts (.fieldLink RX6 162 "Crossdockery$Lorry" "own" "I") (by decide +kernel)) rfl rfl rfl dX6_isSound_56 ?_
    refine lv_aload hx hb dX6_isSound_59 (lv_at hl 0 rfl) ?_
    refine k_callV (As := []) (rest := [.int (D 4 k 9), .int (D 4 k 8)]) ⟨hx, hb, hml, hown, hts⟩ hK (c_X3_owedMinutes X l hd0 D k hlt) (cwV 0 hts gX6_isSound_X3_owedMinutes rfl rfl rfl (by decide +kernel) ⟨Nat.le_of_ble_eq_true rfl, Nat.le_of_ble_eq_true rfl⟩) (k_recv hK (k_sw hW) 4 k (hd0.lo hlt) (fun _ => rfl) rfl) (k_sw hW) rfl hl.1 rfl (Nat.le_of_ble_eq_true rfl) dX6_isSound_61 ⟨Nat.le_of_ble_eq_true rfl, Nat.le_of_ble_eq_true rfl⟩ hL (fun v9 H locs hp hL => ?_)
    obtain ⟨rfl, hW⟩ := hp
    replace hW := k_sw1 hW
    refine lv_iadd hx hb dX6_isSound_64 ?_
    refine lv_icmp_ne (tgt := 78) hx hb dX6_isSound_65 (by decide) (fun h5 => absurd (hsum k hlt) h5) (fun _ => ?_)
    refine lv_aload_n hx hb dX6_isSound_68 rfl (lv_at hl 4 rfl) ?_
    refine lv_aload hx hb dX6_isSound_69 (lv_at hl 0 rfl) ?_
    refine lv_aload_n hx hb dX6_isSound_71 rfl (lv_at hl 3 rfl) ?_
    refine k_callV (As := [.ref (ad1 0 4 k), .ref (ad1 1 0 0)]) (rest := []) ⟨hx, hb, hml, hown, hts⟩ hK (c_X6_isInvoicedAlike X l hd0 hd1 D hc1 hlt (hnum k hlt)) (cwV 2 hts gX6_isSound_X6_isInvoicedAlike rfl rfl rfl (by decide +kernel) ⟨Nat.le_of_ble_eq_true rfl, Nat.le_of_ble_eq_true rfl⟩) (k_recv hK (k_ev hW) 16 0 hc1.o (fun _ => rfl) rfl) hW rfl hl.1 rfl (Nat.le_of_ble_eq_true rfl) dX6_isSound_72 ⟨Nat.le_of_ble_eq_true rfl, Nat.le_of_ble_eq_true rfl⟩ hL (fun v9 H locs hp hL => ?_)
    obtain ⟨rfl, hW⟩ := hp
    refine lv_if_ne (tgt := 80) hx hb dX6_isSound_75 (by decide) (fun _ => ?_) (fun h6 => absurd h6 (by decide))
    refine lv_lload_n hx hb dX6_isSound_80 rfl (lv_at hl 2 rfl) ?_
    refine lv_aload_n hx hb dX6_isSound_81 rfl (lv_at hl 4 rfl) ?_
    refine k_get (g := 5) (K := RX6) (T := TX6) (N := 2) (v := .ref (ad1 0 0 0)) (w := .ref (ad1 0 0 0)) hx hb fX6 hown hK (k_ev hW) 16 0 hc1.o (fun _ => rfl) rfl 0 (by decide) (hts (.fieldLink RX6 12 "Crossdockery" "dock" "LCrossdockery$Dock;") (by decide +kernel)) rfl rfl rfl dX6_isSound_82 ?_
    refine lv_iload hx hb dX6_isSound_85 (lv_at hl 1 rfl) ?_
    refine k_callV (As := [.int (nI k)]) (rest := [.long (it (f_sound D nl nt ng) k (s_X0_balanceOf D nl nt ng (-1)))]) ⟨hx, hb, hml, hown, hts⟩ hK (c_X0_balanceOf X l hd0 D (nI k)) (cwV 1 hts gX6_isSound_X0_balanceOf rfl rfl rfl (by decide +kernel) ⟨Nat.le_of_ble_eq_true rfl, Nat.le_of_ble_eq_true rfl⟩) (k_recv hK (k_sw hW) 0 0 hd0.o (fun _ => rfl) rfl) (k_sw hW) rfl hl.1 rfl (Nat.le_of_ble_eq_true rfl) dX6_isSound_87 ⟨Nat.le_of_ble_eq_true rfl, Nat.le_of_ble_eq_true rfl⟩ hL (fun v9 H locs hp hL => ?_)
    obtain ⟨rfl, hW⟩ := hp
    replace hW := k_sw1 hW
    refine lv_ladd hx hb dX6_isSound_90 ?_
    refine lv_lstore_n (lv' := [(2, .long (it (f_sound D nl nt ng) (k + 1) (s_X0_balanceOf D nl nt ng (-1)))), (5, .ref (ad1 0 4 k)), (4, .int (nI k)), (1, .ref (ad1 1 0 0)), (0, .ref (ad1 5 16 0))]) hx hb dX6_isSound_91 rfl hl (by decide) rfl (fun ls hl => ?_)
    refine lv_iinc (v := nI (k + 1)) (k := 2) (lv' := [(4, .int (nI (k + 1))), (2, .long (it (f_sound D nl nt ng) (k + 1) (s_X0_balanceOf D nl nt ng (-1)))), (5, .ref (ad1 0 4 k)), (1, .ref (ad1 1 0 0)), (0, .ref (ad1 5 16 0))]) hx hb dX6_isSound_92 hl rfl (nI_1 _) (by decide) rfl (fun ls hl => ?_)
    refine lv_goto (tgt := 17) hx hb dX6_isSound_95 (by decide) ?_
    exact ih _ _ _ hlt ⟨hW, hL, lv_sub hl [0, 1, 3, 4] rfl⟩
