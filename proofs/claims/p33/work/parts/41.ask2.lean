def s_x_leastWays (D : KD) (nl : Nat) (nt : Nat) (ng : Nat) : Int32 := 0
set_option maxHeartbeats 400000 in
set_option maxRecDepth 100000 in
theorem c_X6_leastWays (X : kX) (l : Launch) {n : Nat → Nat → Nat} {ad L : Nat → Nat → Nat → Nat} {C : Nat → Nat → Nat → Nat → Int32} {fr : Nat → Option Cell} {nl nt ng : Nat} (hd : kDk n 0 nl nt ng) (D : KD) {ne : Nat} (hc : kCx n ne) (hwf : cWF D nl nt) (h21 : n 0 21 = 0) (h22 : n 0 22 = 0) (hl9 : l.stackTraces = false) : k_X X l yX6_leastWays wsX6_leastWays ({ frames := 14, cells := 5, slots := 94, locals := 310 }) [.ref (ad 5 16 0)] (k_W X n ad L (k_g C 0 D) fr) (fun v H => s_x_leastWays D nl nt ng = 0 ∧ v = some (.int (s_plan D nl nt ng 21 0 5)) ∧ k_W X n ad L (k_g C 0 D) fr H) (fun _ _ => False) 5 94 := by
  refine k_X.of (cc := cX6_leastWays) (maxL := 2) (ret := (some .int)) (by decide) rfl (Nat.le_of_ble_eq_true rfl) ?_
  intro p e s m args below meth c ls hx hb hr hml hown hts hlocks hnm ht hK hW hl
  have hW0 := hW
  have hL : ∀ q ∈ ([] : List Loc), k_B X ≤ q.base := fun _ h => nomatch h
  have hl : lv_has ls 2 [(0, .ref (ad 5 16 0))] := hl
  have fX6 : ∀ w ∈ u_ws RX6 TX6 2, w.before args s = true := fun w h => hts w ((by decide +kernel : ∀ w ∈ u_ws RX6 TX6 2, w ∈ wsX6_leastWays) w h)
  have fX4 : ∀ w ∈ u_ws RX4 TX4 6, w.before args s = true := fun w h => hts w ((by decide +kernel : ∀ w ∈ u_ws RX4 TX4 6, w ∈ wsX6_leastWays) w h)
  have hl8 := hd.l8
  have ht16 := hd.t16
  have hg4 := hd.g4
  replace hW := k_N.of hW
  refine k_new (ci := 10) (K := RX4) (T := TX4) (N := 6) (fs := [.int 0, .null, .null, .null, .null, .int 0]) hx hb hts (by decide +kernel) tyX4 tyX4_ok hown (hts (.classLink RX6 203 RX4) (by decide +kernel)) (hts (.instantiable RX4 6) (by decide +kernel)) (hts (.initialized RX4) (by decide +kernel)) hK hW rfl (by decide) (Nat.le_of_ble_eq_true rfl) (Nat.le_of_ble_eq_true rfl) dX6_leastWays_0 (fun q1 H hW => ?_)
  refine lv_dup hx hb dX6_leastWays_3 rfl ?_
  refine lv_aload_n hx hb dX6_leastWays_4 rfl (lv_at hl 0 rfl) ?_
  refine k_get (g := 5) (K := RX6) (T := TX6) (N := 2) (v := .ref (ad 0 0 0)) (w := .ref (ad 0 0 0)) hx hb fX6 hown hK (k_ev hW.1) 16 0 hc.o (fun _ => rfl) rfl 0 (by decide) (hts (.fieldLink RX6 12 "Crossdockery" "dock" "LCrossdockery$Dock;") (by decide +kernel)) rfl rfl rfl dX6_leastWays_5 ?_
  refine k_callI (As := [.ref (ad 0 0 0)]) (rest := [.ref q1]) ⟨hx, hb, hml, hown, hts⟩ hK (c_X4_init X l hd D hwf h21 h22 q1) (cwI 1 hts gX6_leastWays_X4_init rfl rfl rfl (hts (.initialized RX4) (by decide +kernel)) (hts (.methodLink RX6 205 yX4_init) (by decide +kernel)) (hts (.instanceMethod yX4_init) (by decide +kernel)) rfl (by decide +kernel) ⟨Nat.le_of_ble_eq_true rfl, Nat.le_of_ble_eq_true rfl⟩) hW rfl hl.1 rfl (Nat.le_of_ble_eq_true rfl) dX6_leastWays_8 ⟨Nat.le_of_ble_eq_true rfl, Nat.le_of_ble_eq_true rfl⟩ hL (fun v9 H locs hp hL => ?_)
  obtain ⟨rfl, n1, ad1, ho, hr9, ha21, hd1, hpl, hW7⟩ := hp
  subst ha21
  replace hW := hW7
  refine lv_astore_n (lv' := [(1, .ref (ad1 0 21 0)), (0, .ref (ad 5 16 0))]) hx hb dX6_leastWays_11 rfl hl (by decide) rfl (fun ls hl => ?_)
  refine lv_aload_n hx hb dX6_leastWays_12 rfl (lv_at hl 0 rfl) ?_
  refine lv_iconst (v := 0) hx hb dX6_leastWays_13 (by decide) ?_
  refine lv_iconst (v := 0) hx hb dX6_leastWays_14 (by decide) ?_
  refine W.eq (g2 := F0 m 15 ls [.int 0, .int (nI 0), .ref (ad1 0 21 0)]) (by rw [nI_0]) ?_
  refine k_callSN (As := [.ref (ad1 0 21 0), .int (nI 0), .int 0]) (rest := []) ⟨hx, hb, hml, hown, hts⟩ hK (c_X4_search X l 9 hd1 hpl (s_X4_init D nl nt ng) nl 0 0 rfl hl8 (Nat.zero_le _) (congrFun (s_X4_init_21 D nl nt ng 0) 0) (by decide)) (va_cnB 3 hts gX6_leastWays_X4_search_n208 rfl rfl rfl (hK.nest (List.mem_of_getElem? (i := 1) rfl)) (hts (.initialized RX4) (by decide +kernel)) (by decide +kernel) ⟨Nat.le_of_ble_eq_true rfl, Nat.le_of_ble_eq_true rfl⟩) (hts (.static yX4_search) (by decide +kernel)) hW rfl hl.1 rfl (Nat.le_of_ble_eq_true rfl) dX6_leastWays_15 ⟨Nat.le_of_ble_eq_true rfl, Nat.le_of_ble_eq_true rfl⟩ hL (fun v9 H locs hp hL => ?_)
  obtain ⟨rfl, hW⟩ := hp
  replace hW : k_W X n1 ad1 L (k_g C 0 (s_plan D nl nt ng)) fr H := hW
  refine lv_aload_n hx hb dX6_leastWays_18 rfl (lv_at hl 0 rfl) ?_
  refine k_get (K := RX4) (T := TX4) (N := 6) (v := .int (s_plan D nl nt ng 21 0 5)) (w := .int (s_plan D nl nt ng 21 0 5)) hx hb fX4 hown hK hW 21 0 hpl.o (fun _ => rfl) rfl 5 (by decide) (hts (.fieldLink RX6 212 "Crossdockery$Plan" "least" "I") (by decide +kernel)) rfl rfl rfl dX6_leastWays_19 ?_
  replace hW := k_forgetP hd ho hr9 h21 h22 hW0.cap (fun r hr => s_plan_o D nl nt ng hr) hW
  refine k_more (cells' := 5) (slots' := 94) (Nat.le_of_ble_eq_true rfl) (Nat.le_of_ble_eq_true rfl) (vx_ret ?_)
  exact k_iret hx hb hr hlocks (⟨(by unfold s_x_leastWays; rfl), rfl, hW⟩) hL dX6_leastWays_22
theorem ha_X6_bestDoor_45 : ∀ w ∈ (vx_atS RX6 45 "java/lang/IllegalStateException" ["java/lang/RuntimeException", "java/lang/Exception"]).filter goodWord, w ∈ wsX6_bestDoor := fun _ h => List.mem_cons_of_mem _ (List.mem_append_left _ (List.mem_append_left _ (List.mem_append_right _ h)))
def s_x_bestDoor (D : KD) (nl : Nat) (nt : Nat) (ng : Nat) (lo : Int32) : Int32 := (if lo < 0 ∨ nl ≤ lo.toNatClampNeg then 1 else (if (D 4 lo.toNatClampNeg 5) = 101 then 0 else 2))
set_option maxHeartbeats 400000 in
set_option maxRecDepth 100000 in
theorem c_X6_bestDoor (X : kX) (l : Launch) {n : Nat → Nat → Nat} {ad L : Nat → Nat → Nat → Nat} {C : Nat → Nat → Nat → Nat → Int32} {fr : Nat → Option Cell} {nl nt ng : Nat} (hd : kDk n 0 nl nt ng) (D : KD) {ne : Nat} (hc : kCx n ne) (hwf : cWF D nl nt) (lo : Int32) (h21 : n 0 21 = 0) (h22 : n 0 22 = 0) (hl9 : l.stackTraces = false) : k_X X l yX6_bestDoor wsX6_bestDoor ({ frames := 14, cells := 6, slots := 100, locals := 310 }) [.ref (ad 5 16 0), .int lo] (k_W X n ad L (k_g C 0 D) fr) (fun v H => s_x_bestDoor D nl nt ng lo = 0 ∧ v = some (.int (s_X4_bestDoorOf (s_plan D nl nt ng) lo)) ∧ k_W X n ad L (k_g C 0 D) fr H) (fun E H => (E = "java/lang/IndexOutOfBoundsException" ∧ s_x_bestDoor D nl nt ng lo = 1 ∧ k_W X n ad L (k_g C 0 D) fr H) ∨ (E = "java/lang/IllegalStateException" ∧ s_x_bestDoor D nl nt ng lo = 2 ∧ k_W X n ad L (k_g C 0 D) fr H)) 6 100 := by
  refine k_X.of (cc := cX6_bestDoor) (maxL := 3) (ret := (some .int)) (by decide) rfl (Nat.le_of_ble_eq_true rfl) ?_
  intro p e s m args below meth c ls hx hb hr hml hown hts hlocks hnm ht hK hW hl
  have hW0 := hW
  have hL : ∀ q ∈ ([] : List Loc), k_B X ≤ q.base := fun _ h => nomatch h
  have hl : lv_has ls 3 [(0, .ref (ad 5 16 0)), (1, .int lo)] := hl
  have fX6 : ∀ w ∈ u_ws RX6 TX6 2, w.before args s = true := fun w h => hts w ((by decide +kernel : ∀ w ∈ u_ws RX6 TX6 2, w ∈ wsX6_bestDoor) w h)
  have fX4 : ∀ w ∈ u_ws RX4 TX4 6, w.before args s = true := fun w h => hts w ((by decide +kernel : ∀ w ∈ u_ws RX4 TX4 6, w ∈ wsX6_bestDoor) w h)
  have fX3 : ∀ w ∈ u_ws RX3 TX3 15, w.before args s = true := fun w h => hts w ((by decide +kernel : ∀ w ∈ u_ws RX3 TX3 15, w ∈ wsX6_bestDoor) w h)
  have hl8 := hd.l8
  have ht16 := hd.t16
  have hg4 := hd.g4
  refine lv_aload_n hx hb dX6_bestDoor_0 rfl (lv_at hl 0 rfl) ?_
  refine k_get (g := 5) (K := RX6) (T := TX6) (N := 2) (v := .ref (ad 0 0 0)) (w := .ref (ad 0 0 0)) hx hb fX6 hown hK (k_ev hW) 16 0 hc.o (fun _ => rfl) rfl 0 (by decide) (hts (.fieldLink RX6 12 "Crossdockery" "dock" "LCrossdockery$Dock;") (by decide +kernel)) rfl rfl rfl dX6_bestDoor_1 ?_
  refine lv_iload_n hx hb dX6_bestDoor_4 rfl (lv_at hl 1 rfl) ?_
  refine kx_callV (As := [.int lo]) (rest := []) ⟨hx, hb, hml, hown, hts⟩ hK (c_X0_existingLorry_x X l hd D lo hl9) (cwV 1 hts gX6_bestDoor_X0_existingLorry rfl rfl rfl (by decide +kernel) ⟨Nat.le_of_ble_eq_true rfl, Nat.le_of_ble_eq_true rfl⟩) (k_recv hK hW 0 0 hd.o (fun _ => rfl) rfl) hW rfl hl.1 rfl (Nat.le_of_ble_eq_true rfl) dX6_bestDoor_5 ⟨Nat.le_of_ble_eq_true rfl, Nat.le_of_ble_eq_true rfl⟩ hL (fun E ce q H locs hp hL hce hcv hcl => ?_) (fun v9 H locs hp hL => ?_)
  ·
    obtain ⟨rfl, c1, hW⟩ := hp
    replace c1 := k_vout c1
    exact k_outX ht hlocks hce hcv hcl (Or.inl ⟨rfl, (by unfold s_x_bestDoor; first | rfl | (simp only [if_pos c1]; done) | (simp only [if_pos c1]; rfl)), hW⟩) hL (Nat.le_of_ble_eq_true rfl) (Nat.le_of_ble_eq_true rfl)
  ·
    obtain ⟨c1, rfl, hW⟩ := hp
    refine k_get (K := RX3) (T := TX3) (N := 15) (v := .int (D 4 lo.toNatClampNeg 5)) (w := .int (D 4 lo.toNatClampNeg 5)) hx hb fX3 hown hK hW 4 lo.toNatClampNeg (hd.lo (vp_in.lt c1)) (fun _ => rfl) rfl 5 (by decide) (hts (.fieldLink RX6 77 "Crossdockery$Lorry" "state" "C") (by decide +kernel)) rfl rfl rfl dX6_bestDoor_8 ?_
    refine lv_bipush (v := 101) hx hb dX6_bestDoor_11 (by decide) ?_
    refine lv_icmp_eq (tgt := 26) hx hb dX6_bestDoor_13 (by decide) (fun c2 => ?_) (fun c2 => ?_)
    ·
      replace hW := k_N.of hW
      refine k_new (ci := 10) (K := RX4) (T := TX4) (N := 6) (fs := [.int 0, .null, .null, .null, .null, .int 0]) hx hb hts (by decide +kernel) tyX4 tyX4_ok hown (hts (.classLink RX6 203 RX4) (by decide +kernel)) (hts (.instantiable RX4 6) (by decide +kernel)) (hts (.initialized RX4) (by decide +kernel)) hK hW rfl (by decide) (Nat.le_of_ble_eq_true rfl) (Nat.le_of_ble_eq_true rfl) dX6_bestDoor_26 (fun q3 H hW => ?_)
      refine lv_dup hx hb dX6_bestDoor_29 rfl ?_
      refine lv_aload_n hx hb dX6_bestDoor_30 rfl (lv_at hl 0 rfl) ?_
      refine k_get (g := 5) (K := RX6) (T := TX6) (N := 2) (v := .ref (ad 0 0 0)) (w := .ref (ad 0 0 0)) hx hb fX6 hown hK (k_ev hW.1) 16 0 hc.o (fun _ => rfl) rfl 0 (by decide) (hts (.fieldLink RX6 12 "Crossdockery" "dock" "LCrossdockery$Dock;") (by decide +kernel)) rfl rfl rfl dX6_bestDoor_31 ?_
      refine k_callI (As := [.ref (ad 0 0 0)]) (rest := [.ref q3]) ⟨hx, hb, hml, hown, hts⟩ hK (c_X4_init X l hd D hwf h21 h22 q3) (cwI 1 hts gX6_bestDoor_X4_init rfl rfl rfl (hts (.initialized RX4) (by decide +kernel)) (hts (.methodLink RX6 205 yX4_init) (by decide +kernel)) (hts (.instanceMethod yX4_init) (by decide +kernel)) rfl (by decide +kernel) ⟨Nat.le_of_ble_eq_true rfl, Nat.le_of_ble_eq_true rfl⟩) hW rfl hl.1 rfl (Nat.le_of_ble_eq_true rfl) dX6_bestDoor_34 ⟨Nat.le_of_ble_eq_true rfl, Nat.le_of_ble_eq_true rfl⟩ hL (fun v9 H locs hp hL => ?_)
      obtain ⟨rfl, n1, ad1, ho, hr9, ha21, hd1, hpl, hW7⟩ := hp
      subst ha21
      replace hW := hW7
      refine lv_astore_n (lv' := [(2, .ref (ad1 0 21 0)), (0, .ref (ad 5 16 0)), (1, .int lo)]) hx hb dX6_bestDoor_37 rfl hl (by decide) rfl (fun ls hl => ?_)
      refine lv_aload_n hx hb dX6_bestDoor_38 rfl (lv_at hl 0 rfl) ?_
      refine lv_iconst (v := 0) hx hb dX6_bestDoor_39 (by decide) ?_
      refine lv_iconst (v := 0) hx hb dX6_bestDoor_40 (by decide) ?_
      refine W.eq (g2 := F0 m 41 ls [.int 0, .int (nI 0), .ref (ad1 0 21 0)]) (by rw [nI_0]) ?_
      refine k_callSN (As := [.ref (ad1 0 21 0), .int (nI 0), .int 0]) (rest := []) ⟨hx, hb, hml, hown, hts⟩ hK (c_X4_search X l 9 hd1 hpl (s_X4_init D nl nt ng) nl 0 0 rfl hl8 (Nat.zero_le _) (congrFun (s_X4_init_21 D nl nt ng 0) 0) (by decide)) (va_cnB 3 hts gX6_bestDoor_X4_search_n208 rfl rfl rfl (hK.nest (List.mem_of_getElem? (i := 1) rfl)) (hts (.initialized RX4) (by decide +kernel)) (by decide +kernel) ⟨Nat.le_of_ble_eq_true rfl, Nat.le_of_ble_eq_true rfl⟩) (hts (.static yX4_search) (by decide +kernel)) hW rfl hl.1 rfl (Nat.le_of_ble_eq_true rfl) dX6_bestDoor_41 ⟨Nat.le_of_ble_eq_true rfl, Nat.le_of_ble_eq_true rfl⟩ hL (fun v9 H locs hp hL => ?_)
      obtain ⟨rfl, hW⟩ := hp
      replace hW : k_W X n1 ad1 L (k_g C 0 (s_plan D nl nt ng)) fr H := hW
      refine lv_aload_n hx hb dX6_bestDoor_44 rfl (lv_at hl 0 rfl) ?_
      refine lv_iload_n hx hb dX6_bestDoor_45 rfl (lv_at hl 2 rfl) ?_
      refine k_callV (As := [.int lo]) (rest := []) ⟨hx, hb, hml, hown, hts⟩ hK (c_X4_bestDoorOf X l hd1 (s_plan D nl nt ng) hpl lo) (cwV 1 hts gX6_bestDoor_X4_bestDoorOf rfl rfl rfl (by decide +kernel) ⟨Nat.le_of_ble_eq_true rfl, Nat.le_of_ble_eq_true rfl⟩) (k_recv hK hW 21 0 hpl.o (fun _ => rfl) rfl) hW rfl hl.1 rfl (Nat.le_of_ble_eq_true rfl) dX6_bestDoor_46 ⟨Nat.le_of_ble_eq_true rfl, Nat.le_of_ble_eq_true rfl⟩ hL (fun v9 H locs hp hL => ?_)
      obtain ⟨rfl, hW⟩ := hp
      replace hW := k_forgetP hd ho hr9 h21 h22 hW0.cap (fun r hr => s_plan_o D nl nt ng hr) hW
      refine k_more (cells' := 6) (slots' := 100) (Nat.le_of_ble_eq_true rfl) (Nat.le_of_ble_eq_true rfl) (vx_ret ?_)
      exact k_iret hx hb hr hlocks (⟨(by unfold s_x_bestDoor; first | rfl | (simp only [if_neg c1, if_pos c2]; done) | (simp only [if_neg c1, if_pos c2]; rfl)), rfl, hW⟩) hL dX6_bestDoor_49
    ·
      exact k_throw (own := RX6) (cls := "java/lang/IllegalStateException") (text := "the lorry is not expected") (ik := 41) (is := 81) (ic := 45) hx hb hl9 15 hown (by decide +kernel) hK rfl (hts (.classLink RX6 41 "java/lang/IllegalStateException") (by decide +kernel)) (hts (.initialized "java/lang/IllegalStateException") (by decide +kernel)) (fun w hw => hts w (ha_X6_bestDoor_45 w hw)) bad_RX6_45 og_RX6_41_45 hW0 hW hL (hl.1.trans hml.symm) dX6_bestDoor_16 dX6_bestDoor_19 dX6_bestDoor_20 dX6_bestDoor_22 dX6_bestDoor_25 ht (Nat.le_of_ble_eq_true rfl) (Nat.le_of_ble_eq_true rfl) (Nat.le_of_ble_eq_true rfl) (Nat.le_of_ble_eq_true rfl) hlocks (fun H1 hW => Or.inr (⟨rfl, (by unfold s_x_bestDoor; first | rfl | (simp only [if_neg c1, if_neg c2]; done) | (simp only [if_neg c1, if_neg c2]; rfl)), hW⟩)) (Nat.le_of_ble_eq_true rfl) (Nat.le_of_ble_eq_true rfl)
def s_x_invoiceAnew (D : KD) (nl : Nat) (nt : Nat) (ng : Nat) (de : Int32) (lo : Int32) : Int32 := (if s_x_requireDebtor D nl nt ng de = 0 then (if lo < 0 ∨ nl ≤ lo.toNatClampNeg then 1 else 0) else 1)
set_option maxHeartbeats 400000 in
set_option maxRecDepth 100000 in
theorem c_X6_invoiceAnew (X : kX) (l : Launch) {n : Nat → Nat → Nat} {ad L : Nat → Nat → Nat → Nat} {C : Nat → Nat → Nat → Nat → Int32} {fr : Nat → Option Cell} {nl nt ng : Nat} (hd : kDk n 0 nl nt ng) (D : KD) {ne : Nat} (hc : kCx n ne) (de : Int32) (lo : Int32) (hne : ne ≤ 512) (hn1 : ∀ r, n 1 r = 0) (hok : ∀ j, j < ne → kOk (kRun (C 5 19) j) (C 5 19 j)) (hrun : kRun (C 5 19) ne = (D, nl, nt, ng)) (hl9 : l.stackTraces = false) : k_X X l yX6_invoiceAnew wsX6_invoiceAnew ({ frames := 10, cells := 91, slots := 982, locals := 256 }) [.ref (ad 5 16 0), .int de, .int lo] (k_W X n ad L (k_g C 0 D) fr) (fun v H => s_x_invoiceAnew D nl nt ng de lo = 0 ∧ v = some (.int (s_X3_centsFrom D lo.toNatClampNeg de)) ∧ k_W X n ad L (k_g C 0 D) fr H) (fun E H => (E = "java/lang/IndexOutOfBoundsException" ∧ s_x_invoiceAnew D nl nt ng de lo = 1 ∧ k_W X n ad L (k_g C 0 D) fr H)) 91 982 := by
  refine k_X.of (cc := cX6_invoiceAnew) (maxL := 3) (ret := (some .int)) (by decide) rfl (Nat.le_of_ble_eq_true rfl) ?_
  intro p e s m args below meth c ls hx hb hr hml hown hts hlocks hnm ht hK hW hl
  have hW0 := hW
  have hL : ∀ q ∈ ([] : List Loc), k_B X ≤ q.base := fun _ h => nomatch h
  have hl : lv_has ls 3 [(0, .ref (ad 5 16 0)), (1, .int de), (2, .int lo)] := hl
  have fX6 : ∀ w ∈ u_ws RX6 TX6 2, w.before args s = true := fun w h => hts w ((by decide +kernel : ∀ w ∈ u_ws RX6 TX6 2, w ∈ wsX6_invoiceAnew) w h)
  have hl8 := hd.l8
  have ht16 := hd.t16
  have hg4 := hd.g4
  refine lv_aload_n hx hb dX6_invoiceAnew_0 rfl (lv_at hl 0 rfl) ?_
  refine lv_iload_n hx hb dX6_invoiceAnew_1 rfl (lv_at hl 1 rfl) ?_
  refine kx_callV (As := [.int de]) (rest := []) ⟨hx, hb, hml, hown, hts⟩ hK (c_X6_requireDebtor X l hd D hc de hl9) (cwV 1 hts gX6_invoiceAnew_X6_requireDebtor rfl rfl rfl (by decide +kernel) ⟨Nat.le_of_ble_eq_true rfl, Nat.le_of_ble_eq_true rfl⟩) (k_recv hK (k_ev hW) 16 0 hc.o (fun _ => rfl) rfl) hW rfl hl.1 rfl (Nat.le_of_ble_eq_true rfl) dX6_invoiceAnew_2 ⟨Nat.le_of_ble_eq_true rfl, Nat.le_of_ble_eq_true rfl⟩ hL (fun E ce q H locs hp hL hce hcv hcl => ?_) (fun v9 H locs hp hL => ?_)
  ·
    obtain ⟨rfl, c1, hW⟩ := hp
    replace c1 := k_one0 c1
    exact k_outX ht hlocks hce hcv hcl (⟨rfl, (by unfold s_x_invoiceAnew; first | rfl | (simp only [if_neg c1]; done) | (simp only [if_neg c1]; rfl)), hW⟩) hL (Nat.le_of_ble_eq_true rfl) (Nat.le_of_ble_eq_true rfl)
  ·
    obtain ⟨c1, rfl, hW⟩ := hp
    refine lv_aload_n hx hb dX6_invoiceAnew_5 rfl (lv_at hl 0 rfl) ?_
    refine k_get (g := 5) (K := RX6) (T := TX6) (N := 2) (v := .ref (ad 0 0 0)) (w := .ref (ad 0 0 0)) hx hb fX6 hown hK (k_ev hW) 16 0 hc.o (fun _ => rfl) rfl 0 (by decide) (hts (.fieldLink RX6 12 "Crossdockery" "dock" "LCrossdockery$Dock;") (by decide +kernel)) rfl rfl rfl dX6_invoiceAnew_6 ?_
    refine lv_iload_n hx hb dX6_invoiceAnew_9 rfl (lv_at hl 2 rfl) ?_
    refine kx_callV (As := [.int lo]) (rest := []) ⟨hx, hb, hml, hown, hts⟩ hK (c_X0_existingLorry_x X l hd D lo hl9) (cwV 1 hts gX6_invoiceAnew_X0_existingLorry rfl rfl rfl (by decide +kernel) ⟨Nat.le_of_ble_eq_true rfl, Nat.le_of_ble_eq_true rfl⟩) (k_recv hK hW 0 0 hd.o (fun _ => rfl) rfl) hW rfl hl.1 rfl (Nat.le_of_ble_eq_true rfl) dX6_invoiceAnew_10 ⟨Nat.le_of_ble_eq_true rfl, Nat.le_of_ble_eq_true rfl⟩ hL (fun E ce q H locs hp hL hce hcv hcl => ?_) (fun v9 H locs hp hL => ?_)
    ·
      obtain ⟨rfl, c2, hW⟩ := hp
      replace c2 := k_vout c2
      exact k_outX ht hlocks hce hcv hcl (⟨rfl, (by unfold s_x_invoiceAnew; first | rfl | (simp only [if_pos c1, if_pos c2]; done) | (simp only [if_pos c1, if_pos c2]; rfl)), hW⟩) hL (Nat.le_of_ble_eq_true rfl) (Nat.le_of_ble_eq_true rfl)
    ·
      obtain ⟨c2, rfl, hW⟩ := hp
      refine lv_pop hx hb dX6_invoiceAnew_13 rfl ?_
      refine lv_aload_n hx hb dX6_invoiceAnew_14 rfl (lv_at hl 0 rfl) ?_
      have hokA : ∀ j, j < ne → kOk (kRun (k_g C 0 D 5 19) j) (k_g C 0 D 5 19 j) := by rw [k_g_ne _ _ (by decide)]; exact hok
      refine k_callV (As := []) (rest := []) ⟨hx, hb, hml, hown, hts⟩ hK (c_X6_dockAnew X l hc hne hn1 hokA) (cwV 0 hts gX6_invoiceAnew_X6_dockAnew rfl rfl rfl (by decide +kernel) ⟨Nat.le_of_ble_eq_true rfl, Nat.le_of_ble_eq_true rfl⟩) (k_recv hK (k_ev hW) 16 0 hc.o (fun _ => rfl) rfl) hW rfl hl.1 rfl (Nat.le_of_ble_eq_true rfl) dX6_invoiceAnew_15 ⟨Nat.le_of_ble_eq_true rfl, Nat.le_of_ble_eq_true rfl⟩ hL (fun v9 H locs hp hL => ?_)
      obtain ⟨a9, rfl, n1, ad1, L1, ho, ha, hd1, h91, hwf1, hW7⟩ := hp
      subst ha
      rw [show kRun (k_g C 0 D 5 19) ne = (D, nl, nt, ng) by rw [k_g_ne _ _ (by decide)]; exact hrun] at hd1 hW7
      replace hd1 : kDk n1 1 nl nt ng := hd1
      replace hW : k_W X n1 ad1 L1 (k_g (k_g C 0 D) 1 D) fr H := hW7
      refine lv_iload_n hx hb dX6_invoiceAnew_18 rfl (lv_at hl 2 rfl) ?_
      refine k_callV (As := [.int lo]) (rest := []) ⟨hx, hb, hml, hown, hts⟩ hK (c_X0_existingLorry_v X l hd1 D c2) (cwV 1 hts gX6_invoiceAnew_X0_existingLorry rfl rfl rfl (by decide +kernel) ⟨Nat.le_of_ble_eq_true rfl, Nat.le_of_ble_eq_true rfl⟩) (k_recv hK hW 0 0 hd1.o (fun _ => rfl) rfl) hW rfl hl.1 rfl (Nat.le_of_ble_eq_true rfl) dX6_invoiceAnew_19 ⟨Nat.le_of_ble_eq_true rfl, Nat.le_of_ble_eq_true rfl⟩ hL (fun v9 H locs hp hL => ?_)
      obtain ⟨rfl, hW⟩ := hp
      refine lv_iload_n hx hb dX6_invoiceAnew_22 rfl (lv_at hl 1 rfl) ?_
      refine k_callV (As := [.int de]) (rest := []) ⟨hx, hb, hml, hown, hts⟩ hK (c_X3_centsFrom X l hd1 D lo.toNatClampNeg (vp_in.lt c2) de) (cwV 1 hts gX6_invoiceAnew_X3_centsFrom rfl rfl rfl (by decide +kernel) ⟨Nat.le_of_ble_eq_true rfl, Nat.le_of_ble_eq_true rfl⟩) (k_recv hK hW 4 lo.toNatClampNeg (hd1.lo (vp_in.lt c2)) (fun _ => rfl) rfl) hW rfl hl.1 rfl (Nat.le_of_ble_eq_true rfl) dX6_invoiceAnew_23 ⟨Nat.le_of_ble_eq_true rfl, Nat.le_of_ble_eq_true rfl⟩ hL (fun v9 H locs hp hL => ?_)
      obtain ⟨rfl, hW⟩ := hp
      replace hW := k_forget1 ho hn1 hW0.cap hW
      refine k_more (cells' := 91) (slots' := 982) (Nat.le_of_ble_eq_true rfl) (Nat.le_of_ble_eq_true rfl) (vx_ret ?_)
      exact k_iret hx hb hr hlocks (⟨(by unfold s_x_invoiceAnew; first | rfl | (simp only [if_pos c1, if_neg c2]; done) | (simp only [if_pos c1, if_neg c2]; rfl)), rfl, hW⟩) hL dX6_invoiceAnew_26
