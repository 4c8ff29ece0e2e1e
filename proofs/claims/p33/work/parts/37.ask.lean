def s_x_now (D : KD) (nl : Nat) (nt : Nat) (ng : Nat) : Int32 := 0
set_option maxHeartbeats 400000 in
set_option maxRecDepth 100000 in
theorem c_X6_now (X : kX) (l : Launch) {n : Nat → Nat → Nat} {ad L : Nat → Nat → Nat → Nat} {C : Nat → Nat → Nat → Nat → Int32} {fr : Nat → Option Cell} {nl nt ng : Nat} (hd : kDk n 0 nl nt ng) (D : KD) {ne : Nat} (hc : kCx n ne) (hl9 : l.stackTraces = false) : k_X X l yX6_now wsX6_now ({ frames := 1, cells := 0, slots := 0, locals := 12 }) [.ref (ad 5 16 0)] (k_W X n ad L (k_g C 0 D) fr) (fun v H => s_x_now D nl nt ng = 0 ∧ v = some (.int (D 0 0 4)) ∧ k_W X n ad L (k_g C 0 D) fr H) (fun _ _ => False) 0 0 := by
  refine k_X.of (cc := cX6_now) (maxL := 1) (ret := (some .int)) (by decide) rfl (Nat.le_of_ble_eq_true rfl) ?_
  intro p e s m args below meth c ls hx hb hr hml hown hts hlocks hnm ht hK hW hl
  have hW0 := hW
  have hL : ∀ q ∈ ([] : List Loc), k_B X ≤ q.base := fun _ h => nomatch h
  have hl : lv_has ls 1 [(0, .ref (ad 5 16 0))] := hl
  have fX6 : ∀ w ∈ u_ws RX6 TX6 2, w.before args s = true := fun w h => hts w ((by decide +kernel : ∀ w ∈ u_ws RX6 TX6 2, w ∈ wsX6_now) w h)
  have fX0 : ∀ w ∈ u_ws RX0 TX0 5, w.before args s = true := fun w h => hts w ((by decide +kernel : ∀ w ∈ u_ws RX0 TX0 5, w ∈ wsX6_now) w h)
  have hl8 := hd.l8
  have ht16 := hd.t16
  have hg4 := hd.g4
  refine lv_aload_n hx hb dX6_now_0 rfl (lv_at hl 0 rfl) ?_
  refine k_get (g := 5) (K := RX6) (T := TX6) (N := 2) (v := .ref (ad 0 0 0)) (w := .ref (ad 0 0 0)) hx hb fX6 hown hK (k_ev hW) 16 0 hc.o (fun _ => rfl) rfl 0 (by decide) (hts (.fieldLink RX6 12 "Crossdockery" "dock" "LCrossdockery$Dock;") (by decide +kernel)) rfl rfl rfl dX6_now_1 ?_
  refine k_get (K := RX0) (T := TX0) (N := 5) (v := .int (D 0 0 4)) (w := .int (D 0 0 4)) hx hb fX0 hown hK hW 0 0 hd.o (fun _ => rfl) rfl 4 (by decide) (hts (.fieldLink RX6 110 "Crossdockery$Dock" "minute" "I") (by decide +kernel)) rfl rfl rfl dX6_now_4 ?_
  refine k_more (cells' := 0) (slots' := 0) (Nat.le_of_ble_eq_true rfl) (Nat.le_of_ble_eq_true rfl) (vx_ret ?_)
  exact k_iret hx hb hr hlocks (⟨(by unfold s_x_now; rfl), rfl, hW⟩) hL dX6_now_7
def s_x_power (D : KD) (nl : Nat) (nt : Nat) (ng : Nat) (d : Int32) : Int32 := (if s_x_requireDoor d = 0 then 0 else 1)
set_option maxHeartbeats 400000 in
set_option maxRecDepth 100000 in
theorem c_X6_power (X : kX) (l : Launch) {n : Nat → Nat → Nat} {ad L : Nat → Nat → Nat → Nat} {C : Nat → Nat → Nat → Nat → Int32} {fr : Nat → Option Cell} {nl nt ng : Nat} (hd : kDk n 0 nl nt ng) (D : KD) {ne : Nat} (hc : kCx n ne) (d : Int32) (hl9 : l.stackTraces = false) : k_X X l yX6_power wsX6_power ({ frames := 7, cells := 1, slots := 6, locals := 110 }) [.ref (ad 5 16 0), .int d] (k_W X n ad L (k_g C 0 D) fr) (fun v H => s_x_power D nl nt ng d = 0 ∧ v = some (.int (s_X0_powerAt D nl nt ng d)) ∧ k_W X n ad L (k_g C 0 D) fr H) (fun E H => (E = "java/lang/IndexOutOfBoundsException" ∧ s_x_power D nl nt ng d = 1 ∧ k_W X n ad L (k_g C 0 D) fr H)) 1 6 := by
  refine k_X.of (cc := cX6_power) (maxL := 2) (ret := (some .int)) (by decide) rfl (Nat.le_of_ble_eq_true rfl) ?_
  intro p e s m args below meth c ls hx hb hr hml hown hts hlocks hnm ht hK hW hl
  have hW0 := hW
  have hL : ∀ q ∈ ([] : List Loc), k_B X ≤ q.base := fun _ h => nomatch h
  have hl : lv_has ls 2 [(0, .ref (ad 5 16 0)), (1, .int d)] := hl
  have fX6 : ∀ w ∈ u_ws RX6 TX6 2, w.before args s = true := fun w h => hts w ((by decide +kernel : ∀ w ∈ u_ws RX6 TX6 2, w ∈ wsX6_power) w h)
  have hl8 := hd.l8
  have ht16 := hd.t16
  have hg4 := hd.g4
  refine lv_iload_n hx hb dX6_power_0 rfl (lv_at hl 1 rfl) ?_
  refine kx_callS (As := [.int d]) (rest := []) ⟨hx, hb, hml, hown, hts⟩ hK (c_X6_requireDoor X l D d hl9) (cwS 1 hts gX6_power_X6_requireDoor rfl rfl rfl (by decide +kernel) ⟨Nat.le_of_ble_eq_true rfl, Nat.le_of_ble_eq_true rfl⟩) hW rfl hl.1 rfl (Nat.le_of_ble_eq_true rfl) dX6_power_1 ⟨Nat.le_of_ble_eq_true rfl, Nat.le_of_ble_eq_true rfl⟩ hL (fun E ce q H locs hp hL hce hcv hcl => ?_) (fun v9 H locs hp hL => ?_)
  ·
    obtain ⟨rfl, c1, hW⟩ := hp
    replace c1 := k_one0 c1
    exact k_outX ht hlocks hce hcv hcl (⟨rfl, (by unfold s_x_power; first | rfl | (simp only [if_neg c1]; done) | (simp only [if_neg c1]; rfl)), hW⟩) hL (Nat.le_of_ble_eq_true rfl) (Nat.le_of_ble_eq_true rfl)
  ·
    obtain ⟨c1, rfl, hW⟩ := hp
    refine lv_aload_n hx hb dX6_power_4 rfl (lv_at hl 0 rfl) ?_
    refine k_get (g := 5) (K := RX6) (T := TX6) (N := 2) (v := .ref (ad 0 0 0)) (w := .ref (ad 0 0 0)) hx hb fX6 hown hK (k_ev hW) 16 0 hc.o (fun _ => rfl) rfl 0 (by decide) (hts (.fieldLink RX6 12 "Crossdockery" "dock" "LCrossdockery$Dock;") (by decide +kernel)) rfl rfl rfl dX6_power_5 ?_
    refine lv_iload_n hx hb dX6_power_8 rfl (lv_at hl 1 rfl) ?_
    refine k_callV (As := [.int d]) (rest := []) ⟨hx, hb, hml, hown, hts⟩ hK (c_X0_powerAt X l hd D d) (cwV 1 hts gX6_power_X0_powerAt rfl rfl rfl (by decide +kernel) ⟨Nat.le_of_ble_eq_true rfl, Nat.le_of_ble_eq_true rfl⟩) (k_recv hK hW 0 0 hd.o (fun _ => rfl) rfl) hW rfl hl.1 rfl (Nat.le_of_ble_eq_true rfl) dX6_power_9 ⟨Nat.le_of_ble_eq_true rfl, Nat.le_of_ble_eq_true rfl⟩ hL (fun v9 H locs hp hL => ?_)
    obtain ⟨rfl, hW⟩ := hp
    refine k_more (cells' := 1) (slots' := 6) (Nat.le_of_ble_eq_true rfl) (Nat.le_of_ble_eq_true rfl) (vx_ret ?_)
    exact k_iret hx hb hr hlocks (⟨(by unfold s_x_power; first | rfl | (simp only [if_pos c1]; done) | (simp only [if_pos c1]; rfl)), rfl, hW⟩) hL dX6_power_12
def s_x_stateOf (D : KD) (nl : Nat) (nt : Nat) (ng : Nat) (lo : Int32) : Int32 := (if lo < 0 ∨ nl ≤ lo.toNatClampNeg then 1 else 0)
set_option maxHeartbeats 400000 in
set_option maxRecDepth 100000 in
theorem c_X6_stateOf (X : kX) (l : Launch) {n : Nat → Nat → Nat} {ad L : Nat → Nat → Nat → Nat} {C : Nat → Nat → Nat → Nat → Int32} {fr : Nat → Option Cell} {nl nt ng : Nat} (hd : kDk n 0 nl nt ng) (D : KD) {ne : Nat} (hc : kCx n ne) (lo : Int32) (hst : ∀ i, i < nl → narrow .char (.int (D 4 i 5)) = .int (D 4 i 5)) (hl9 : l.stackTraces = false) : k_X X l yX6_stateOf wsX6_stateOf ({ frames := 7, cells := 1, slots := 6, locals := 111 }) [.ref (ad 5 16 0), .int lo] (k_W X n ad L (k_g C 0 D) fr) (fun v H => s_x_stateOf D nl nt ng lo = 0 ∧ v = some (.int (D 4 lo.toNatClampNeg 5)) ∧ k_W X n ad L (k_g C 0 D) fr H) (fun E H => (E = "java/lang/IndexOutOfBoundsException" ∧ s_x_stateOf D nl nt ng lo = 1 ∧ k_W X n ad L (k_g C 0 D) fr H)) 1 6 := by
  refine k_X.of (cc := cX6_stateOf) (maxL := 2) (ret := (some .char)) (by decide) rfl (Nat.le_of_ble_eq_true rfl) ?_
  intro p e s m args below meth c ls hx hb hr hml hown hts hlocks hnm ht hK hW hl
  have hW0 := hW
  have hL : ∀ q ∈ ([] : List Loc), k_B X ≤ q.base := fun _ h => nomatch h
  have hl : lv_has ls 2 [(0, .ref (ad 5 16 0)), (1, .int lo)] := hl
  have fX6 : ∀ w ∈ u_ws RX6 TX6 2, w.before args s = true := fun w h => hts w ((by decide +kernel : ∀ w ∈ u_ws RX6 TX6 2, w ∈ wsX6_stateOf) w h)
  have fX3 : ∀ w ∈ u_ws RX3 TX3 15, w.before args s = true := fun w h => hts w ((by decide +kernel : ∀ w ∈ u_ws RX3 TX3 15, w ∈ wsX6_stateOf) w h)
  have hl8 := hd.l8
  have ht16 := hd.t16
  have hg4 := hd.g4
  refine lv_aload_n hx hb dX6_stateOf_0 rfl (lv_at hl 0 rfl) ?_
  refine k_get (g := 5) (K := RX6) (T := TX6) (N := 2) (v := .ref (ad 0 0 0)) (w := .ref (ad 0 0 0)) hx hb fX6 hown hK (k_ev hW) 16 0 hc.o (fun _ => rfl) rfl 0 (by decide) (hts (.fieldLink RX6 12 "Crossdockery" "dock" "LCrossdockery$Dock;") (by decide +kernel)) rfl rfl rfl dX6_stateOf_1 ?_
  refine lv_iload_n hx hb dX6_stateOf_4 rfl (lv_at hl 1 rfl) ?_
  refine kx_callV (As := [.int lo]) (rest := []) ⟨hx, hb, hml, hown, hts⟩ hK (c_X0_existingLorry_x X l hd D lo hl9) (cwV 1 hts gX6_stateOf_X0_existingLorry rfl rfl rfl (by decide +kernel) ⟨Nat.le_of_ble_eq_true rfl, Nat.le_of_ble_eq_true rfl⟩) (k_recv hK hW 0 0 hd.o (fun _ => rfl) rfl) hW rfl hl.1 rfl (Nat.le_of_ble_eq_true rfl) dX6_stateOf_5 ⟨Nat.le_of_ble_eq_true rfl, Nat.le_of_ble_eq_true rfl⟩ hL (fun E ce q H locs hp hL hce hcv hcl => ?_) (fun v9 H locs hp hL => ?_)
  ·
    obtain ⟨rfl, c1, hW⟩ := hp
    replace c1 := k_vout c1
    exact k_outX ht hlocks hce hcv hcl (⟨rfl, (by unfold s_x_stateOf; first | rfl | (simp only [if_pos c1]; done) | (simp only [if_pos c1]; rfl)), hW⟩) hL (Nat.le_of_ble_eq_true rfl) (Nat.le_of_ble_eq_true rfl)
  ·
    obtain ⟨c1, rfl, hW⟩ := hp
    refine k_get (K := RX3) (T := TX3) (N := 15) (v := .int (D 4 lo.toNatClampNeg 5)) (w := .int (D 4 lo.toNatClampNeg 5)) hx hb fX3 hown hK hW 4 lo.toNatClampNeg (hd.lo (vp_in.lt c1)) (fun _ => rfl) rfl 5 (by decide) (hts (.fieldLink RX6 77 "Crossdockery$Lorry" "state" "C") (by decide +kernel)) rfl rfl rfl dX6_stateOf_8 ?_
    refine k_more (cells' := 1) (slots' := 6) (Nat.le_of_ble_eq_true rfl) (Nat.le_of_ble_eq_true rfl) (vx_ret ?_)
    exact k_zret hx hb hr (hst _ (vp_in.lt (by assumption))) hlocks (⟨(by unfold s_x_stateOf; first | rfl | (simp only [if_neg c1]; done) | (simp only [if_neg c1]; rfl)), rfl, hW⟩) hL dX6_stateOf_11
theorem ha_X6_lorryAt_126 : ∀ w ∈ (vx_atSN RX6 126 "java/util/NoSuchElementException" ["java/lang/RuntimeException", "java/lang/Exception"]).filter goodWord, w ∈ wsX6_lorryAtN := fun _ h => List.mem_cons_of_mem _ (List.mem_append_left _ (List.mem_append_right _ h))
theorem bad_RX6_126 : ∀ w ∈ (vx_atSN RX6 126 "java/util/NoSuchElementException" ["java/lang/RuntimeException", "java/lang/Exception"]).filter (fun w => !goodWord w), w ∈ k_nw := by decide +kernel
theorem og_RX6_122_126 : ∀ w ∈ Cond.classLink RX6 122 "java/util/NoSuchElementException" :: Cond.initialized "java/util/NoSuchElementException" :: vx_atSN RX6 126 "java/util/NoSuchElementException" ["java/lang/RuntimeException", "java/lang/Exception"], vx_ot w = true := by decide +kernel
def s_x_lorryAt (D : KD) (nl : Nat) (nt : Nat) (ng : Nat) (d : Int32) : Int32 := (if s_x_requireDoor d = 0 then (if (s_X0_standingAt D d) = (-1) then 2 else 0) else 1)
set_option maxHeartbeats 400000 in
set_option maxRecDepth 100000 in
theorem c_X6_lorryAt (X : kX) (l : Launch) {n : Nat → Nat → Nat} {ad L : Nat → Nat → Nat → Nat} {C : Nat → Nat → Nat → Nat → Int32} {fr : Nat → Option Cell} {nl nt ng : Nat} (hd : kDk n 0 nl nt ng) (D : KD) {ne : Nat} (hc : kCx n ne) (hwf : cWF D nl nt) (d : Int32) (hl9 : l.stackTraces = false) : k_X X l yX6_lorryAt wsX6_lorryAtN ({ frames := 7, cells := 2, slots := 12, locals := 110 }) [.ref (ad 5 16 0), .int d] (k_W X n ad L (k_g C 0 D) fr) (fun v H => s_x_lorryAt D nl nt ng d = 0 ∧ v = some (.int (D 4 ((s_X0_standingAt D d).toNatClampNeg) 0)) ∧ k_W X n ad L (k_g C 0 D) fr H) (fun E H => (E = "java/lang/IndexOutOfBoundsException" ∧ s_x_lorryAt D nl nt ng d = 1 ∧ k_W X n ad L (k_g C 0 D) fr H) ∨ (E = "java/util/NoSuchElementException" ∧ s_x_lorryAt D nl nt ng d = 2 ∧ k_W X n ad L (k_g C 0 D) fr H)) 2 12 := by
  refine k_X.of (cc := cX6_lorryAt) (maxL := 3) (ret := (some .int)) (by decide) rfl (Nat.le_of_ble_eq_true rfl) ?_
  intro p e s m args below meth c ls hx hb hr hml hown hts hlocks hnm ht hK hW hl
  have hW0 := hW
  have hL : ∀ q ∈ ([] : List Loc), k_B X ≤ q.base := fun _ h => nomatch h
  have hl : lv_has ls 3 [(0, .ref (ad 5 16 0)), (1, .int d)] := hl
  have fX6 : ∀ w ∈ u_ws RX6 TX6 2, w.before args s = true := fun w h => hts w ((by decide +kernel : ∀ w ∈ u_ws RX6 TX6 2, w ∈ wsX6_lorryAtN) w h)
  have fX3 : ∀ w ∈ u_ws RX3 TX3 15, w.before args s = true := fun w h => hts w ((by decide +kernel : ∀ w ∈ u_ws RX3 TX3 15, w ∈ wsX6_lorryAtN) w h)
  have hl8 := hd.l8
  have ht16 := hd.t16
  have hg4 := hd.g4
  refine lv_iload_n hx hb dX6_lorryAt_0 rfl (lv_at hl 1 rfl) ?_
  refine kx_callS (As := [.int d]) (rest := []) ⟨hx, hb, hml, hown, hts⟩ hK (c_X6_requireDoor X l D d hl9) (cwS 1 hts gX6_lorryAtN_X6_requireDoor rfl rfl rfl (by decide +kernel) ⟨Nat.le_of_ble_eq_true rfl, Nat.le_of_ble_eq_true rfl⟩) hW rfl hl.1 rfl (Nat.le_of_ble_eq_true rfl) dX6_lorryAt_1 ⟨Nat.le_of_ble_eq_true rfl, Nat.le_of_ble_eq_true rfl⟩ hL (fun E ce q H locs hp hL hce hcv hcl => ?_) (fun v9 H locs hp hL => ?_)
  ·
    obtain ⟨rfl, c1, hW⟩ := hp
    replace c1 := k_one0 c1
    exact k_outX ht hlocks hce hcv hcl (Or.inl ⟨rfl, (by unfold s_x_lorryAt; first | rfl | (simp only [if_neg c1]; done) | (simp only [if_neg c1]; rfl)), hW⟩) hL (Nat.le_of_ble_eq_true rfl) (Nat.le_of_ble_eq_true rfl)
  ·
    obtain ⟨c1, rfl, hW⟩ := hp
    refine lv_aload_n hx hb dX6_lorryAt_4 rfl (lv_at hl 0 rfl) ?_
    refine k_get (g := 5) (K := RX6) (T := TX6) (N := 2) (v := .ref (ad 0 0 0)) (w := .ref (ad 0 0 0)) hx hb fX6 hown hK (k_ev hW) 16 0 hc.o (fun _ => rfl) rfl 0 (by decide) (hts (.fieldLink RX6 12 "Crossdockery" "dock" "LCrossdockery$Dock;") (by decide +kernel)) rfl rfl rfl dX6_lorryAt_5 ?_
    refine lv_iload_n hx hb dX6_lorryAt_8 rfl (lv_at hl 1 rfl) ?_
    refine k_callV (As := [.int d]) (rest := []) ⟨hx, hb, hml, hown, hts⟩ hK (c_X0_standingAt X l hd D hwf d) (cwV 1 hts gX6_lorryAtN_X0_standingAt rfl rfl rfl (by decide +kernel) ⟨Nat.le_of_ble_eq_true rfl, Nat.le_of_ble_eq_true rfl⟩) (k_recv hK hW 0 0 hd.o (fun _ => rfl) rfl) hW rfl hl.1 rfl (Nat.le_of_ble_eq_true rfl) dX6_lorryAt_9 ⟨Nat.le_of_ble_eq_true rfl, Nat.le_of_ble_eq_true rfl⟩ hL (fun v9 H locs hp hL => ?_)
    obtain ⟨rfl, hW⟩ := hp
    refine k_opt (fun o2 => ?_) (fun o2 => ?_)
    ·
      refine lv_astore_nN (lv' := [(2, .null), (0, .ref (ad 5 16 0)), (1, .int d)]) hx hb dX6_lorryAt_12 rfl hl (by decide) rfl (fun ls hl => ?_)
      refine lv_aload_nN hx hb dX6_lorryAt_13 rfl (lv_at hl 0 rfl) ?_
      refine lv_ifnonnullN hx hb dX6_lorryAt_14 ?_
      exact k_throwN (own := RX6) (cls := "java/util/NoSuchElementException") (text := "no lorry is at the door") (ik := 122) (is := 124) (ic := 126) hx hb hl9 3 hown (by decide +kernel) hK rfl (hts (.classLink RX6 122 "java/util/NoSuchElementException") (by decide +kernel)) (hts (.initialized "java/util/NoSuchElementException") (by decide +kernel)) (fun w hw => hts w (ha_X6_lorryAt_126 w hw)) bad_RX6_126 og_RX6_122_126 hW0 hW hL (hl.1.trans hml.symm) dX6_lorryAt_17 dX6_lorryAt_20 dX6_lorryAt_21 dX6_lorryAt_23 dX6_lorryAt_26 ht (Nat.le_of_ble_eq_true rfl) (Nat.le_of_ble_eq_true rfl) (Nat.le_of_ble_eq_true rfl) (Nat.le_of_ble_eq_true rfl) hlocks (fun H1 hW => Or.inr (⟨rfl, (by unfold s_x_lorryAt; first | rfl | (simp only [if_pos c1, if_pos o2]; done) | (simp only [if_pos c1, if_pos o2]; rfl)), hW⟩)) (Nat.le_of_ble_eq_true rfl) (Nat.le_of_ble_eq_true rfl)
    ·
      have hi_o2 : vp_in (s_X0_standingAt D d) nl := (cIN_standingAt hwf o2)
      refine lv_astore_n (lv' := [(2, .ref (ad 0 4 ((s_X0_standingAt D d).toNatClampNeg))), (0, .ref (ad 5 16 0)), (1, .int d)]) hx hb dX6_lorryAt_12 rfl hl (by decide) rfl (fun ls hl => ?_)
      refine lv_aload_n hx hb dX6_lorryAt_13 rfl (lv_at hl 0 rfl) ?_
      refine lv_ifnonnull (tgt := 27) hx hb dX6_lorryAt_14 (by decide) ?_
      refine lv_aload_n hx hb dX6_lorryAt_27 rfl (lv_at hl 0 rfl) ?_
      refine k_get (K := RX3) (T := TX3) (N := 15) (v := .int (D 4 ((s_X0_standingAt D d).toNatClampNeg) 0)) (w := .int (D 4 ((s_X0_standingAt D d).toNatClampNeg) 0)) hx hb fX3 hown hK hW 4 ((s_X0_standingAt D d).toNatClampNeg) (hd.lo hi_o2.lt) (fun _ => rfl) rfl 0 (by decide) (hts (.fieldLink RX6 127 "Crossdockery$Lorry" "number" "I") (by decide +kernel)) rfl rfl rfl dX6_lorryAt_28 ?_
      refine k_more (cells' := 2) (slots' := 12) (Nat.le_of_ble_eq_true rfl) (Nat.le_of_ble_eq_true rfl) (vx_ret ?_)
      exact k_iret hx hb hr hlocks (⟨(by unfold s_x_lorryAt; first | rfl | (simp only [if_pos c1, if_neg o2]; done) | (simp only [if_pos c1, if_neg o2]; rfl)), rfl, hW⟩) hL dX6_lorryAt_31
theorem ha_X6_inQueue_126 : ∀ w ∈ (vx_atSN RX6 126 "java/util/NoSuchElementException" ["java/lang/RuntimeException", "java/lang/Exception"]).filter goodWord, w ∈ wsX6_inQueueN := fun _ h => List.mem_cons_of_mem _ (List.mem_append_left _ (List.mem_append_right _ h))
def s_x_inQueue (D : KD) (nl : Nat) (nt : Nat) (ng : Nat) (d : Int32) (pq : Int32) : Int32 := (if s_x_requireDoor d = 0 then (if (s_X0_queuedFor D nl nt ng d pq) = (-1) then 2 else 0) else 1)
set_option maxHeartbeats 400000 in
set_option maxRecDepth 100000 in
theorem c_X6_inQueue (X : kX) (l : Launch) {n : Nat → Nat → Nat} {ad L : Nat → Nat → Nat → Nat} {C : Nat → Nat → Nat → Nat → Int32} {fr : Nat → Option Cell} {nl nt ng : Nat} (hd : kDk n 0 nl nt ng) (D : KD) {ne : Nat} (hc : kCx n ne) (d : Int32) (pq : Int32) (hl9 : l.stackTraces = false) : k_X X l yX6_inQueue wsX6_inQueueN ({ frames := 7, cells := 2, slots := 12, locals := 124 }) [.ref (ad 5 16 0), .int d, .int pq] (k_W X n ad L (k_g C 0 D) fr) (fun v H => s_x_inQueue D nl nt ng d pq = 0 ∧ v = some (.int (D 4 ((s_X0_queuedFor D nl nt ng d pq).toNatClampNeg) 0)) ∧ k_W X n ad L (k_g C 0 D) fr H) (fun E H => (E = "java/lang/IndexOutOfBoundsException" ∧ s_x_inQueue D nl nt ng d pq = 1 ∧ k_W X n ad L (k_g C 0 D) fr H) ∨ (E = "java/util/NoSuchElementException" ∧ s_x_inQueue D nl nt ng d pq = 2 ∧ k_W X n ad L (k_g C 0 D) fr H)) 2 12 := by
  refine k_X.of (cc := cX6_inQueue) (maxL := 4) (ret := (some .int)) (by decide) rfl (Nat.le_of_ble_eq_true rfl) ?_
  intro p e s m args below meth c ls hx hb hr hml hown hts hlocks hnm ht hK hW hl
  have hW0 := hW
  have hL : ∀ q ∈ ([] : List Loc), k_B X ≤ q.base := fun _ h => nomatch h
  have hl : lv_has ls 4 [(0, .ref (ad 5 16 0)), (1, .int d), (2, .int pq)] := hl
  have fX6 : ∀ w ∈ u_ws RX6 TX6 2, w.before args s = true := fun w h => hts w ((by decide +kernel : ∀ w ∈ u_ws RX6 TX6 2, w ∈ wsX6_inQueueN) w h)
  have fX3 : ∀ w ∈ u_ws RX3 TX3 15, w.before args s = true := fun w h => hts w ((by decide +kernel : ∀ w ∈ u_ws RX3 TX3 15, w ∈ wsX6_inQueueN) w h)
  have hl8 := hd.l8
  have ht16 := hd.t16
  have hg4 := hd.g4
  refine lv_iload_n hx hb dX6_inQueue_0 rfl (lv_at hl 1 rfl) ?_
  refine kx_callS (As := [.int d]) (rest := []) ⟨hx, hb, hml, hown, hts⟩ hK (c_X6_requireDoor X l D d hl9) (cwS 1 hts gX6_inQueueN_X6_requireDoor rfl rfl rfl (by decide +kernel) ⟨Nat.le_of_ble_eq_true rfl, Nat.le_of_ble_eq_true rfl⟩) hW rfl hl.1 rfl (Nat.le_of_ble_eq_true rfl) dX6_inQueue_1 ⟨Nat.le_of_ble_eq_true rfl, Nat.le_of_ble_eq_true rfl⟩ hL (fun E ce q H locs hp hL hce hcv hcl => ?_) (fun v9 H locs hp hL => ?_)
  ·
    obtain ⟨rfl, c1, hW⟩ := hp
    replace c1 := k_one0 c1
    exact k_outX ht hlocks hce hcv hcl (Or.inl ⟨rfl, (by unfold s_x_inQueue; first | rfl | (simp only [if_neg c1]; done) | (simp only [if_neg c1]; rfl)), hW⟩) hL (Nat.le_of_ble_eq_true rfl) (Nat.le_of_ble_eq_true rfl)
  ·
    obtain ⟨c1, rfl, hW⟩ := hp
    refine lv_aload_n hx hb dX6_inQueue_4 rfl (lv_at hl 0 rfl) ?_
    refine k_get (g := 5) (K := RX6) (T := TX6) (N := 2) (v := .ref (ad 0 0 0)) (w := .ref (ad 0 0 0)) hx hb fX6 hown hK (k_ev hW) 16 0 hc.o (fun _ => rfl) rfl 0 (by decide) (hts (.fieldLink RX6 12 "Crossdockery" "dock" "LCrossdockery$Dock;") (by decide +kernel)) rfl rfl rfl dX6_inQueue_5 ?_
    refine lv_iload_n hx hb dX6_inQueue_8 rfl (lv_at hl 1 rfl) ?_
    refine lv_iload_n hx hb dX6_inQueue_9 rfl (lv_at hl 2 rfl) ?_
    refine k_callV (As := [.int d, .int pq]) (rest := []) ⟨hx, hb, hml, hown, hts⟩ hK (c_X0_queuedFor X l hd D d pq) (cwV 2 hts gX6_inQueueN_X0_queuedFor rfl rfl rfl (by decide +kernel) ⟨Nat.le_of_ble_eq_true rfl, Nat.le_of_ble_eq_true rfl⟩) (k_recv hK hW 0 0 hd.o (fun _ => rfl) rfl) hW rfl hl.1 rfl (Nat.le_of_ble_eq_true rfl) dX6_inQueue_10 ⟨Nat.le_of_ble_eq_true rfl, Nat.le_of_ble_eq_true rfl⟩ hL (fun v9 H locs hp hL => ?_)
    obtain ⟨rfl, hW⟩ := hp
    refine k_opt (fun o2 => ?_) (fun o2 => ?_)
    ·
      refine lv_astore_nN (lv' := [(3, .null), (0, .ref (ad 5 16 0)), (1, .int d), (2, .int pq)]) hx hb dX6_inQueue_13 rfl hl (by decide) rfl (fun ls hl => ?_)
      refine lv_aload_nN hx hb dX6_inQueue_14 rfl (lv_at hl 0 rfl) ?_
      refine lv_ifnonnullN hx hb dX6_inQueue_15 ?_
      exact k_throwN (own := RX6) (cls := "java/util/NoSuchElementException") (text := "no such place in the queue") (ik := 122) (is := 134) (ic := 126) hx hb hl9 4 hown (by decide +kernel) hK rfl (hts (.classLink RX6 122 "java/util/NoSuchElementException") (by decide +kernel)) (hts (.initialized "java/util/NoSuchElementException") (by decide +kernel)) (fun w hw => hts w (ha_X6_inQueue_126 w hw)) bad_RX6_126 og_RX6_122_126 hW0 hW hL (hl.1.trans hml.symm) dX6_inQueue_18 dX6_inQueue_21 dX6_inQueue_22 dX6_inQueue_24 dX6_inQueue_27 ht (Nat.le_of_ble_eq_true rfl) (Nat.le_of_ble_eq_true rfl) (Nat.le_of_ble_eq_true rfl) (Nat.le_of_ble_eq_true rfl) hlocks (fun H1 hW => Or.inr (⟨rfl, (by unfold s_x_inQueue; first | rfl | (simp only [if_pos c1, if_pos o2]; done) | (simp only [if_pos c1, if_pos o2]; rfl)), hW⟩)) (Nat.le_of_ble_eq_true rfl) (Nat.le_of_ble_eq_true rfl)
    ·
      have hi_o2 : vp_in (s_X0_queuedFor D nl nt ng d pq) nl := (cIN_queuedFor hd.l8 o2)
      refine lv_astore_n (lv' := [(3, .ref (ad 0 4 ((s_X0_queuedFor D nl nt ng d pq).toNatClampNeg))), (0, .ref (ad 5 16 0)), (1, .int d), (2, .int pq)]) hx hb dX6_inQueue_13 rfl hl (by decide) rfl (fun ls hl => ?_)
      refine lv_aload_n hx hb dX6_inQueue_14 rfl (lv_at hl 0 rfl) ?_
      refine lv_ifnonnull (tgt := 28) hx hb dX6_inQueue_15 (by decide) ?_
      refine lv_aload_n hx hb dX6_inQueue_28 rfl (lv_at hl 0 rfl) ?_
      refine k_get (K := RX3) (T := TX3) (N := 15) (v := .int (D 4 ((s_X0_queuedFor D nl nt ng d pq).toNatClampNeg) 0)) (w := .int (D 4 ((s_X0_queuedFor D nl nt ng d pq).toNatClampNeg) 0)) hx hb fX3 hown hK hW 4 ((s_X0_queuedFor D nl nt ng d pq).toNatClampNeg) (hd.lo hi_o2.lt) (fun _ => rfl) rfl 0 (by decide) (hts (.fieldLink RX6 127 "Crossdockery$Lorry" "number" "I") (by decide +kernel)) rfl rfl rfl dX6_inQueue_29 ?_
      refine k_more (cells' := 2) (slots' := 12) (Nat.le_of_ble_eq_true rfl) (Nat.le_of_ble_eq_true rfl) (vx_ret ?_)
      exact k_iret hx hb hr hlocks (⟨(by unfold s_x_inQueue; first | rfl | (simp only [if_pos c1, if_neg o2]; done) | (simp only [if_pos c1, if_neg o2]; rfl)), rfl, hW⟩) hL dX6_inQueue_32
def s_x_unloaded (D : KD) (nl : Nat) (nt : Nat) (ng : Nat) (t : Int32) : Int32 := (if t < 0 ∨ nt ≤ t.toNatClampNeg then 1 else 0)
set_option maxHeartbeats 400000 in
set_option maxRecDepth 100000 in
theorem c_X6_unloaded (X : kX) (l : Launch) {n : Nat → Nat → Nat} {ad L : Nat → Nat → Nat → Nat} {C : Nat → Nat → Nat → Nat → Int32} {fr : Nat → Option Cell} {nl nt ng : Nat} (hd : kDk n 0 nl nt ng) (D : KD) {ne : Nat} (hc : kCx n ne) (t : Int32) (hl9 : l.stackTraces = false) : k_X X l yX6_unloaded wsX6_unloaded ({ frames := 7, cells := 1, slots := 6, locals := 111 }) [.ref (ad 5 16 0), .int t] (k_W X n ad L (k_g C 0 D) fr) (fun v H => s_x_unloaded D nl nt ng t = 0 ∧ v = some (.int (D 5 t.toNatClampNeg 3)) ∧ k_W X n ad L (k_g C 0 D) fr H) (fun E H => (E = "java/lang/IndexOutOfBoundsException" ∧ s_x_unloaded D nl nt ng t = 1 ∧ k_W X n ad L (k_g C 0 D) fr H)) 1 6 := by
  refine k_X.of (cc := cX6_unloaded) (maxL := 2) (ret := (some .int)) (by decide) rfl (Nat.le_of_ble_eq_true rfl) ?_
  intro p e s m args below meth c ls hx hb hr hml hown hts hlocks hnm ht hK hW hl
  have hW0 := hW
  have hL : ∀ q ∈ ([] : List Loc), k_B X ≤ q.base := fun _ h => nomatch h
  have hl : lv_has ls 2 [(0, .ref (ad 5 16 0)), (1, .int t)] := hl
  have fX6 : ∀ w ∈ u_ws RX6 TX6 2, w.before args s = true := fun w h => hts w ((by decide +kernel : ∀ w ∈ u_ws RX6 TX6 2, w ∈ wsX6_unloaded) w h)
  have fX5 : ∀ w ∈ u_ws RX5 TX5 7, w.before args s = true := fun w h => hts w ((by decide +kernel : ∀ w ∈ u_ws RX5 TX5 7, w ∈ wsX6_unloaded) w h)
  have hl8 := hd.l8
  have ht16 := hd.t16
  have hg4 := hd.g4
  refine lv_aload_n hx hb dX6_unloaded_0 rfl (lv_at hl 0 rfl) ?_
  refine k_get (g := 5) (K := RX6) (T := TX6) (N := 2) (v := .ref (ad 0 0 0)) (w := .ref (ad 0 0 0)) hx hb fX6 hown hK (k_ev hW) 16 0 hc.o (fun _ => rfl) rfl 0 (by decide) (hts (.fieldLink RX6 12 "Crossdockery" "dock" "LCrossdockery$Dock;") (by decide +kernel)) rfl rfl rfl dX6_unloaded_1 ?_
  refine lv_iload_n hx hb dX6_unloaded_4 rfl (lv_at hl 1 rfl) ?_
  refine kx_callV (As := [.int t]) (rest := []) ⟨hx, hb, hml, hown, hts⟩ hK (c_X0_existingTransfer_x X l hd D t hl9) (cwV 1 hts gX6_unloaded_X0_existingTransfer rfl rfl rfl (by decide +kernel) ⟨Nat.le_of_ble_eq_true rfl, Nat.le_of_ble_eq_true rfl⟩) (k_recv hK hW 0 0 hd.o (fun _ => rfl) rfl) hW rfl hl.1 rfl (Nat.le_of_ble_eq_true rfl) dX6_unloaded_5 ⟨Nat.le_of_ble_eq_true rfl, Nat.le_of_ble_eq_true rfl⟩ hL (fun E ce q H locs hp hL hce hcv hcl => ?_) (fun v9 H locs hp hL => ?_)
  ·
    obtain ⟨rfl, c1, hW⟩ := hp
    replace c1 := k_vout c1
    exact k_outX ht hlocks hce hcv hcl (⟨rfl, (by unfold s_x_unloaded; first | rfl | (simp only [if_pos c1]; done) | (simp only [if_pos c1]; rfl)), hW⟩) hL (Nat.le_of_ble_eq_true rfl) (Nat.le_of_ble_eq_true rfl)
  ·
    obtain ⟨c1, rfl, hW⟩ := hp
    refine k_get (K := RX5) (T := TX5) (N := 7) (v := .int (D 5 t.toNatClampNeg 3)) (w := .int (D 5 t.toNatClampNeg 3)) hx hb fX5 hown hK hW 5 t.toNatClampNeg (hd.tr (vp_in.lt c1)) (fun _ => rfl) rfl 3 (by decide) (hts (.fieldLink RX6 140 "Crossdockery$Transfer" "unloaded" "I") (by decide +kernel)) rfl rfl rfl dX6_unloaded_8 ?_
    refine k_more (cells' := 1) (slots' := 6) (Nat.le_of_ble_eq_true rfl) (Nat.le_of_ble_eq_true rfl) (vx_ret ?_)
    exact k_iret hx hb hr hlocks (⟨(by unfold s_x_unloaded; first | rfl | (simp only [if_neg c1]; done) | (simp only [if_neg c1]; rfl)), rfl, hW⟩) hL dX6_unloaded_11
def s_x_ready (D : KD) (nl : Nat) (nt : Nat) (ng : Nat) (t : Int32) : Int32 := (if t < 0 ∨ nt ≤ t.toNatClampNeg then 1 else 0)
set_option maxHeartbeats 400000 in
set_option maxRecDepth 100000 in
theorem c_X6_ready (X : kX) (l : Launch) {n : Nat → Nat → Nat} {ad L : Nat → Nat → Nat → Nat} {C : Nat → Nat → Nat → Nat → Int32} {fr : Nat → Option Cell} {nl nt ng : Nat} (hd : kDk n 0 nl nt ng) (D : KD) {ne : Nat} (hc : kCx n ne) (t : Int32) (hl9 : l.stackTraces = false) : k_X X l yX6_ready wsX6_ready ({ frames := 7, cells := 1, slots := 6, locals := 111 }) [.ref (ad 5 16 0), .int t] (k_W X n ad L (k_g C 0 D) fr) (fun v H => s_x_ready D nl nt ng t = 0 ∧ v = some (.int (D 5 t.toNatClampNeg 4)) ∧ k_W X n ad L (k_g C 0 D) fr H) (fun E H => (E = "java/lang/IndexOutOfBoundsException" ∧ s_x_ready D nl nt ng t = 1 ∧ k_W X n ad L (k_g C 0 D) fr H)) 1 6 := by
  refine k_X.of (cc := cX6_ready) (maxL := 2) (ret := (some .int)) (by decide) rfl (Nat.le_of_ble_eq_true rfl) ?_
  intro p e s m args below meth c ls hx hb hr hml hown hts hlocks hnm ht hK hW hl
  have hW0 := hW
  have hL : ∀ q ∈ ([] : List Loc), k_B X ≤ q.base := fun _ h => nomatch h
  have hl : lv_has ls 2 [(0, .ref (ad 5 16 0)), (1, .int t)] := hl
  have fX6 : ∀ w ∈ u_ws RX6 TX6 2, w.before args s = true := fun w h => hts w ((by decide +kernel : ∀ w ∈ u_ws RX6 TX6 2, w ∈ wsX6_ready) w h)
  have fX5 : ∀ w ∈ u_ws RX5 TX5 7, w.before args s = true := fun w h => hts w ((by decide +kernel : ∀ w ∈ u_ws RX5 TX5 7, w ∈ wsX6_ready) w h)
  have hl8 := hd.l8
  have ht16 := hd.t16
  have hg4 := hd.g4
  refine lv_aload_n hx hb dX6_ready_0 rfl (lv_at hl 0 rfl) ?_
  refine k_get (g := 5) (K := RX6) (T := TX6) (N := 2) (v := .ref (ad 0 0 0)) (w := .ref (ad 0 0 0)) hx hb fX6 hown hK (k_ev hW) 16 0 hc.o (fun _ => rfl) rfl 0 (by decide) (hts (.fieldLink RX6 12 "Crossdockery" "dock" "LCrossdockery$Dock;") (by decide +kernel)) rfl rfl rfl dX6_ready_1 ?_
  refine lv_iload_n hx hb dX6_ready_4 rfl (lv_at hl 1 rfl) ?_
  refine kx_callV (As := [.int t]) (rest := []) ⟨hx, hb, hml, hown, hts⟩ hK (c_X0_existingTransfer_x X l hd D t hl9) (cwV 1 hts gX6_ready_X0_existingTransfer rfl rfl rfl (by decide +kernel) ⟨Nat.le_of_ble_eq_true rfl, Nat.le_of_ble_eq_true rfl⟩) (k_recv hK hW 0 0 hd.o (fun _ => rfl) rfl) hW rfl hl.1 rfl (Nat.le_of_ble_eq_true rfl) dX6_ready_5 ⟨Nat.le_of_ble_eq_true rfl, Nat.le_of_ble_eq_true rfl⟩ hL (fun E ce q H locs hp hL hce hcv hcl => ?_) (fun v9 H locs hp hL => ?_)
  ·
    obtain ⟨rfl, c1, hW⟩ := hp
    replace c1 := k_vout c1
    exact k_outX ht hlocks hce hcv hcl (⟨rfl, (by unfold s_x_ready; first | rfl | (simp only [if_pos c1]; done) | (simp only [if_pos c1]; rfl)), hW⟩) hL (Nat.le_of_ble_eq_true rfl) (Nat.le_of_ble_eq_true rfl)
  ·
    obtain ⟨c1, rfl, hW⟩ := hp
    refine k_get (K := RX5) (T := TX5) (N := 7) (v := .int (D 5 t.toNatClampNeg 4)) (w := .int (D 5 t.toNatClampNeg 4)) hx hb fX5 hown hK hW 5 t.toNatClampNeg (hd.tr (vp_in.lt c1)) (fun _ => rfl) rfl 4 (by decide) (hts (.fieldLink RX6 145 "Crossdockery$Transfer" "ready" "I") (by decide +kernel)) rfl rfl rfl dX6_ready_8 ?_
    refine k_more (cells' := 1) (slots' := 6) (Nat.le_of_ble_eq_true rfl) (Nat.le_of_ble_eq_true rfl) (vx_ret ?_)
    exact k_iret hx hb hr hlocks (⟨(by unfold s_x_ready; first | rfl | (simp only [if_neg c1]; done) | (simp only [if_neg c1]; rfl)), rfl, hW⟩) hL dX6_ready_11
def s_x_loaded (D : KD) (nl : Nat) (nt : Nat) (ng : Nat) (t : Int32) : Int32 := (if t < 0 ∨ nt ≤ t.toNatClampNeg then 1 else 0)
set_option maxHeartbeats 400000 in
set_option maxRecDepth 100000 in
theorem c_X6_loaded (X : kX) (l : Launch) {n : Nat → Nat → Nat} {ad L : Nat → Nat → Nat → Nat} {C : Nat → Nat → Nat → Nat → Int32} {fr : Nat → Option Cell} {nl nt ng : Nat} (hd : kDk n 0 nl nt ng) (D : KD) {ne : Nat} (hc : kCx n ne) (t : Int32) (hl9 : l.stackTraces = false) : k_X X l yX6_loaded wsX6_loaded ({ frames := 7, cells := 1, slots := 6, locals := 111 }) [.ref (ad 5 16 0), .int t] (k_W X n ad L (k_g C 0 D) fr) (fun v H => s_x_loaded D nl nt ng t = 0 ∧ v = some (.int (D 5 t.toNatClampNeg 5)) ∧ k_W X n ad L (k_g C 0 D) fr H) (fun E H => (E = "java/lang/IndexOutOfBoundsException" ∧ s_x_loaded D nl nt ng t = 1 ∧ k_W X n ad L (k_g C 0 D) fr H)) 1 6 := by
  refine k_X.of (cc := cX6_loaded) (maxL := 2) (ret := (some .int)) (by decide) rfl (Nat.le_of_ble_eq_true rfl) ?_
  intro p e s m args below meth c ls hx hb hr hml hown hts hlocks hnm ht hK hW hl
  have hW0 := hW
  have hL : ∀ q ∈ ([] : List Loc), k_B X ≤ q.base := fun _ h => nomatch h
  have hl : lv_has ls 2 [(0, .ref (ad 5 16 0)), (1, .int t)] := hl
  have fX6 : ∀ w ∈ u_ws RX6 TX6 2, w.before args s = true := fun w h => hts w ((by decide +kernel : ∀ w ∈ u_ws RX6 TX6 2, w ∈ wsX6_loaded) w h)
  have fX5 : ∀ w ∈ u_ws RX5 TX5 7, w.before args s = true := fun w h => hts w ((by decide +kernel : ∀ w ∈ u_ws RX5 TX5 7, w ∈ wsX6_loaded) w h)
  have hl8 := hd.l8
  have ht16 := hd.t16
  have hg4 := hd.g4
  refine lv_aload_n hx hb dX6_loaded_0 rfl (lv_at hl 0 rfl) ?_
  refine k_get (g := 5) (K := RX6) (T := TX6) (N := 2) (v := .ref (ad 0 0 0)) (w := .ref (ad 0 0 0)) hx hb fX6 hown hK (k_ev hW) 16 0 hc.o (fun _ => rfl) rfl 0 (by decide) (hts (.fieldLink RX6 12 "Crossdockery" "dock" "LCrossdockery$Dock;") (by decide +kernel)) rfl rfl rfl dX6_loaded_1 ?_
  refine lv_iload_n hx hb dX6_loaded_4 rfl (lv_at hl 1 rfl) ?_
  refine kx_callV (As := [.int t]) (rest := []) ⟨hx, hb, hml, hown, hts⟩ hK (c_X0_existingTransfer_x X l hd D t hl9) (cwV 1 hts gX6_loaded_X0_existingTransfer rfl rfl rfl (by decide +kernel) ⟨Nat.le_of_ble_eq_true rfl, Nat.le_of_ble_eq_true rfl⟩) (k_recv hK hW 0 0 hd.o (fun _ => rfl) rfl) hW rfl hl.1 rfl (Nat.le_of_ble_eq_true rfl) dX6_loaded_5 ⟨Nat.le_of_ble_eq_true rfl, Nat.le_of_ble_eq_true rfl⟩ hL (fun E ce q H locs hp hL hce hcv hcl => ?_) (fun v9 H locs hp hL => ?_)
  ·
    obtain ⟨rfl, c1, hW⟩ := hp
    replace c1 := k_vout c1
    exact k_outX ht hlocks hce hcv hcl (⟨rfl, (by unfold s_x_loaded; first | rfl | (simp only [if_pos c1]; done) | (simp only [if_pos c1]; rfl)), hW⟩) hL (Nat.le_of_ble_eq_true rfl) (Nat.le_of_ble_eq_true rfl)
  ·
    obtain ⟨c1, rfl, hW⟩ := hp
    refine k_get (K := RX5) (T := TX5) (N := 7) (v := .int (D 5 t.toNatClampNeg 5)) (w := .int (D 5 t.toNatClampNeg 5)) hx hb fX5 hown hK hW 5 t.toNatClampNeg (hd.tr (vp_in.lt c1)) (fun _ => rfl) rfl 5 (by decide) (hts (.fieldLink RX6 148 "Crossdockery$Transfer" "loaded" "I") (by decide +kernel)) rfl rfl rfl dX6_loaded_8 ?_
    refine k_more (cells' := 1) (slots' := 6) (Nat.le_of_ble_eq_true rfl) (Nat.le_of_ble_eq_true rfl) (vx_ret ?_)
    exact k_iret hx hb hr hlocks (⟨(by unfold s_x_loaded; first | rfl | (simp only [if_neg c1]; done) | (simp only [if_neg c1]; rfl)), rfl, hW⟩) hL dX6_loaded_11
theorem ha_X6_leftAt_126 : ∀ w ∈ (vx_atSN RX6 126 "java/util/NoSuchElementException" ["java/lang/RuntimeException", "java/lang/Exception"]).filter goodWord, w ∈ wsX6_leftAtN := fun _ h => List.mem_cons_of_mem _ (List.mem_append_left _ (List.mem_append_right _ h))
def s_x_leftAt (D : KD) (nl : Nat) (nt : Nat) (ng : Nat) (lo : Int32) : Int32 := (if lo < 0 ∨ nl ≤ lo.toNatClampNeg then 1 else (if (D 4 lo.toNatClampNeg 5) = 108 then 0 else 2))
set_option maxHeartbeats 400000 in
set_option maxRecDepth 100000 in
theorem c_X6_leftAt (X : kX) (l : Launch) {n : Nat → Nat → Nat} {ad L : Nat → Nat → Nat → Nat} {C : Nat → Nat → Nat → Nat → Int32} {fr : Nat → Option Cell} {nl nt ng : Nat} (hd : kDk n 0 nl nt ng) (D : KD) {ne : Nat} (hc : kCx n ne) (lo : Int32) (hl9 : l.stackTraces = false) : k_X X l yX6_leftAt wsX6_leftAtN ({ frames := 7, cells := 2, slots := 12, locals := 111 }) [.ref (ad 5 16 0), .int lo] (k_W X n ad L (k_g C 0 D) fr) (fun v H => s_x_leftAt D nl nt ng lo = 0 ∧ v = some (.int (D 4 lo.toNatClampNeg 7)) ∧ k_W X n ad L (k_g C 0 D) fr H) (fun E H => (E = "java/lang/IndexOutOfBoundsException" ∧ s_x_leftAt D nl nt ng lo = 1 ∧ k_W X n ad L (k_g C 0 D) fr H) ∨ (E = "java/util/NoSuchElementException" ∧ s_x_leftAt D nl nt ng lo = 2 ∧ k_W X n ad L (k_g C 0 D) fr H)) 2 12 := by
  refine k_X.of (cc := cX6_leftAt) (maxL := 3) (ret := (some .int)) (by decide) rfl (Nat.le_of_ble_eq_true rfl) ?_
  intro p e s m args below meth c ls hx hb hr hml hown hts hlocks hnm ht hK hW hl
  have hW0 := hW
  have hL : ∀ q ∈ ([] : List Loc), k_B X ≤ q.base := fun _ h => nomatch h
  have hl : lv_has ls 3 [(0, .ref (ad 5 16 0)), (1, .int lo)] := hl
  have fX6 : ∀ w ∈ u_ws RX6 TX6 2, w.before args s = true := fun w h => hts w ((by decide +kernel : ∀ w ∈ u_ws RX6 TX6 2, w ∈ wsX6_leftAtN) w h)
  have fX3 : ∀ w ∈ u_ws RX3 TX3 15, w.before args s = true := fun w h => hts w ((by decide +kernel : ∀ w ∈ u_ws RX3 TX3 15, w ∈ wsX6_leftAtN) w h)
  have hl8 := hd.l8
  have ht16 := hd.t16
  have hg4 := hd.g4
  refine lv_aload_n hx hb dX6_leftAt_0 rfl (lv_at hl 0 rfl) ?_
  refine k_get (g := 5) (K := RX6) (T := TX6) (N := 2) (v := .ref (ad 0 0 0)) (w := .ref (ad 0 0 0)) hx hb fX6 hown hK (k_ev hW) 16 0 hc.o (fun _ => rfl) rfl 0 (by decide) (hts (.fieldLink RX6 12 "Crossdockery" "dock" "LCrossdockery$Dock;") (by decide +kernel)) rfl rfl rfl dX6_leftAt_1 ?_
  refine lv_iload_n hx hb dX6_leftAt_4 rfl (lv_at hl 1 rfl) ?_
  refine kx_callV (As := [.int lo]) (rest := []) ⟨hx, hb, hml, hown, hts⟩ hK (c_X0_existingLorry_x X l hd D lo hl9) (cwV 1 hts gX6_leftAtN_X0_existingLorry rfl rfl rfl (by decide +kernel) ⟨Nat.le_of_ble_eq_true rfl, Nat.le_of_ble_eq_true rfl⟩) (k_recv hK hW 0 0 hd.o (fun _ => rfl) rfl) hW rfl hl.1 rfl (Nat.le_of_ble_eq_true rfl) dX6_leftAt_5 ⟨Nat.le_of_ble_eq_true rfl, Nat.le_of_ble_eq_true rfl⟩ hL (fun E ce q H locs hp hL hce hcv hcl => ?_) (fun v9 H locs hp hL => ?_)
  ·
    obtain ⟨rfl, c1, hW⟩ := hp
    replace c1 := k_vout c1
    exact k_outX ht hlocks hce hcv hcl (Or.inl ⟨rfl, (by unfold s_x_leftAt; first | rfl | (simp only [if_pos c1]; done) | (simp only [if_pos c1]; rfl)), hW⟩) hL (Nat.le_of_ble_eq_true rfl) (Nat.le_of_ble_eq_true rfl)
  ·
    obtain ⟨c1, rfl, hW⟩ := hp
    refine lv_astore_n (lv' := [(2, .ref (ad 0 4 lo.toNatClampNeg)), (0, .ref (ad 5 16 0)), (1, .int lo)]) hx hb dX6_leftAt_8 rfl hl (by decide) rfl (fun ls hl => ?_)
    refine lv_aload_n hx hb dX6_leftAt_9 rfl (lv_at hl 0 rfl) ?_
    refine k_get (K := RX3) (T := TX3) (N := 15) (v := .int (D 4 lo.toNatClampNeg 5)) (w := .int (D 4 lo.toNatClampNeg 5)) hx hb fX3 hown hK hW 4 lo.toNatClampNeg (hd.lo (vp_in.lt c1)) (fun _ => rfl) rfl 5 (by decide) (hts (.fieldLink RX6 77 "Crossdockery$Lorry" "state" "C") (by decide +kernel)) rfl rfl rfl dX6_leftAt_10 ?_
    refine lv_bipush (v := 108) hx hb dX6_leftAt_13 (by decide) ?_
    refine lv_icmp_eq (tgt := 28) hx hb dX6_leftAt_15 (by decide) (fun c2 => ?_) (fun c2 => ?_)
    ·
      refine lv_aload_n hx hb dX6_leftAt_28 rfl (lv_at hl 0 rfl) ?_
      refine k_get (K := RX3) (T := TX3) (N := 15) (v := .int (D 4 lo.toNatClampNeg 7)) (w := .int (D 4 lo.toNatClampNeg 7)) hx hb fX3 hown hK hW 4 lo.toNatClampNeg (hd.lo (vp_in.lt c1)) (fun _ => rfl) rfl 7 (by decide) (hts (.fieldLink RX6 153 "Crossdockery$Lorry" "leftAt" "I") (by decide +kernel)) rfl rfl rfl dX6_leftAt_29 ?_
      refine k_more (cells' := 2) (slots' := 12) (Nat.le_of_ble_eq_true rfl) (Nat.le_of_ble_eq_true rfl) (vx_ret ?_)
      exact k_iret hx hb hr hlocks (⟨(by unfold s_x_leftAt; first | rfl | (simp only [if_neg c1, if_pos c2]; done) | (simp only [if_neg c1, if_pos c2]; rfl)), rfl, hW⟩) hL dX6_leftAt_32
    ·
      exact k_throwN (own := RX6) (cls := "java/util/NoSuchElementException") (text := "the lorry has not left") (ik := 122) (is := 151) (ic := 126) hx hb hl9 5 hown (by decide +kernel) hK rfl (hts (.classLink RX6 122 "java/util/NoSuchElementException") (by decide +kernel)) (hts (.initialized "java/util/NoSuchElementException") (by decide +kernel)) (fun w hw => hts w (ha_X6_leftAt_126 w hw)) bad_RX6_126 og_RX6_122_126 hW0 hW hL (hl.1.trans hml.symm) dX6_leftAt_18 dX6_leftAt_21 dX6_leftAt_22 dX6_leftAt_24 dX6_leftAt_27 ht (Nat.le_of_ble_eq_true rfl) (Nat.le_of_ble_eq_true rfl) (Nat.le_of_ble_eq_true rfl) (Nat.le_of_ble_eq_true rfl) hlocks (fun H1 hW => Or.inr (⟨rfl, (by unfold s_x_leftAt; first | rfl | (simp only [if_neg c1, if_neg c2]; done) | (simp only [if_neg c1, if_neg c2]; rfl)), hW⟩)) (Nat.le_of_ble_eq_true rfl) (Nat.le_of_ble_eq_true rfl)
def s_x_leftBehind (D : KD) (nl : Nat) (nt : Nat) (ng : Nat) : Int32 := 0
set_option maxHeartbeats 400000 in
set_option maxRecDepth 100000 in
theorem c_X6_leftBehind (X : kX) (l : Launch) {n : Nat → Nat → Nat} {ad L : Nat → Nat → Nat → Nat} {C : Nat → Nat → Nat → Nat → Int32} {fr : Nat → Option Cell} {nl nt ng : Nat} (hd : kDk n 0 nl nt ng) (D : KD) {ne : Nat} (hc : kCx n ne) (hwf : cWF D nl nt) (hl9 : l.stackTraces = false) : k_X X l yX6_leftBehind wsX6_leftBehind ({ frames := 5, cells := 0, slots := 0, locals := 99 }) [.ref (ad 5 16 0)] (k_W X n ad L (k_g C 0 D) fr) (fun v H => s_x_leftBehind D nl nt ng = 0 ∧ v = some (.int (s_X0_unitsLeftBehind D nl nt ng)) ∧ k_W X n ad L (k_g C 0 D) fr H) (fun _ _ => False) 0 0 := by
  refine k_X.of (cc := cX6_leftBehind) (maxL := 1) (ret := (some .int)) (by decide) rfl (Nat.le_of_ble_eq_true rfl) ?_
  intro p e s m args below meth c ls hx hb hr hml hown hts hlocks hnm ht hK hW hl
  have hW0 := hW
  have hL : ∀ q ∈ ([] : List Loc), k_B X ≤ q.base := fun _ h => nomatch h
  have hl : lv_has ls 1 [(0, .ref (ad 5 16 0))] := hl
  have fX6 : ∀ w ∈ u_ws RX6 TX6 2, w.before args s = true := fun w h => hts w ((by decide +kernel : ∀ w ∈ u_ws RX6 TX6 2, w ∈ wsX6_leftBehind) w h)
  have hl8 := hd.l8
  have ht16 := hd.t16
  have hg4 := hd.g4
  refine lv_aload_n hx hb dX6_leftBehind_0 rfl (lv_at hl 0 rfl) ?_
  refine k_get (g := 5) (K := RX6) (T := TX6) (N := 2) (v := .ref (ad 0 0 0)) (w := .ref (ad 0 0 0)) hx hb fX6 hown hK (k_ev hW) 16 0 hc.o (fun _ => rfl) rfl 0 (by decide) (hts (.fieldLink RX6 12 "Crossdockery" "dock" "LCrossdockery$Dock;") (by decide +kernel)) rfl rfl rfl dX6_leftBehind_1 ?_
  refine k_callV (As := []) (rest := []) ⟨hx, hb, hml, hown, hts⟩ hK (c_X0_unitsLeftBehind X l hd D hwf) (cwV 0 hts gX6_leftBehind_X0_unitsLeftBehind rfl rfl rfl (by decide +kernel) ⟨Nat.le_of_ble_eq_true rfl, Nat.le_of_ble_eq_true rfl⟩) (k_recv hK hW 0 0 hd.o (fun _ => rfl) rfl) hW rfl hl.1 rfl (Nat.le_of_ble_eq_true rfl) dX6_leftBehind_4 ⟨Nat.le_of_ble_eq_true rfl, Nat.le_of_ble_eq_true rfl⟩ hL (fun v9 H locs hp hL => ?_)
  obtain ⟨rfl, hW⟩ := hp
  refine k_more (cells' := 0) (slots' := 0) (Nat.le_of_ble_eq_true rfl) (Nat.le_of_ble_eq_true rfl) (vx_ret ?_)
  exact k_iret hx hb hr hlocks (⟨(by unfold s_x_leftBehind; rfl), rfl, hW⟩) hL dX6_leftBehind_7
def s_x_waited (D : KD) (nl : Nat) (nt : Nat) (ng : Nat) (lo : Int32) : Int32 := (if lo < 0 ∨ nl ≤ lo.toNatClampNeg then 1 else 0)
set_option maxHeartbeats 400000 in
set_option maxRecDepth 100000 in
theorem c_X6_waited (X : kX) (l : Launch) {n : Nat → Nat → Nat} {ad L : Nat → Nat → Nat → Nat} {C : Nat → Nat → Nat → Nat → Int32} {fr : Nat → Option Cell} {nl nt ng : Nat} (hd : kDk n 0 nl nt ng) (D : KD) {ne : Nat} (hc : kCx n ne) (lo : Int32) (hl9 : l.stackTraces = false) : k_X X l yX6_waited wsX6_waited ({ frames := 7, cells := 1, slots := 6, locals := 111 }) [.ref (ad 5 16 0), .int lo] (k_W X n ad L (k_g C 0 D) fr) (fun v H => s_x_waited D nl nt ng lo = 0 ∧ v = some (.int (D 4 lo.toNatClampNeg 8)) ∧ k_W X n ad L (k_g C 0 D) fr H) (fun E H => (E = "java/lang/IndexOutOfBoundsException" ∧ s_x_waited D nl nt ng lo = 1 ∧ k_W X n ad L (k_g C 0 D) fr H)) 1 6 := by
  refine k_X.of (cc := cX6_waited) (maxL := 2) (ret := (some .int)) (by decide) rfl (Nat.le_of_ble_eq_true rfl) ?_
  intro p e s m args below meth c ls hx hb hr hml hown hts hlocks hnm ht hK hW hl
  have hW0 := hW
  have hL : ∀ q ∈ ([] : List Loc), k_B X ≤ q.base := fun _ h => nomatch h
  have hl : lv_has ls 2 [(0, .ref (ad 5 16 0)), (1, .int lo)] := hl
  have fX6 : ∀ w ∈ u_ws RX6 TX6 2, w.before args s = true := fun w h => hts w ((by decide +kernel : ∀ w ∈ u_ws RX6 TX6 2, w ∈ wsX6_waited) w h)
  have fX3 : ∀ w ∈ u_ws RX3 TX3 15, w.before args s = true := fun w h => hts w ((by decide +kernel : ∀ w ∈ u_ws RX3 TX3 15, w ∈ wsX6_waited) w h)
  have hl8 := hd.l8
  have ht16 := hd.t16
  have hg4 := hd.g4
  refine lv_aload_n hx hb dX6_waited_0 rfl (lv_at hl 0 rfl) ?_
  refine k_get (g := 5) (K := RX6) (T := TX6) (N := 2) (v := .ref (ad 0 0 0)) (w := .ref (ad 0 0 0)) hx hb fX6 hown hK (k_ev hW) 16 0 hc.o (fun _ => rfl) rfl 0 (by decide) (hts (.fieldLink RX6 12 "Crossdockery" "dock" "LCrossdockery$Dock;") (by decide +kernel)) rfl rfl rfl dX6_waited_1 ?_
  refine lv_iload_n hx hb dX6_waited_4 rfl (lv_at hl 1 rfl) ?_
  refine kx_callV (As := [.int lo]) (rest := []) ⟨hx, hb, hml, hown, hts⟩ hK (c_X0_existingLorry_x X l hd D lo hl9) (cwV 1 hts gX6_waited_X0_existingLorry rfl rfl rfl (by decide +kernel) ⟨Nat.le_of_ble_eq_true rfl, Nat.le_of_ble_eq_true rfl⟩) (k_recv hK hW 0 0 hd.o (fun _ => rfl) rfl) hW rfl hl.1 rfl (Nat.le_of_ble_eq_true rfl) dX6_waited_5 ⟨Nat.le_of_ble_eq_true rfl, Nat.le_of_ble_eq_true rfl⟩ hL (fun E ce q H locs hp hL hce hcv hcl => ?_) (fun v9 H locs hp hL => ?_)
  ·
    obtain ⟨rfl, c1, hW⟩ := hp
    replace c1 := k_vout c1
    exact k_outX ht hlocks hce hcv hcl (⟨rfl, (by unfold s_x_waited; first | rfl | (simp only [if_pos c1]; done) | (simp only [if_pos c1]; rfl)), hW⟩) hL (Nat.le_of_ble_eq_true rfl) (Nat.le_of_ble_eq_true rfl)
  ·
    obtain ⟨c1, rfl, hW⟩ := hp
    refine k_get (K := RX3) (T := TX3) (N := 15) (v := .int (D 4 lo.toNatClampNeg 8)) (w := .int (D 4 lo.toNatClampNeg 8)) hx hb fX3 hown hK hW 4 lo.toNatClampNeg (hd.lo (vp_in.lt c1)) (fun _ => rfl) rfl 8 (by decide) (hts (.fieldLink RX6 159 "Crossdockery$Lorry" "waited" "I") (by decide +kernel)) rfl rfl rfl dX6_waited_8 ?_
    refine k_more (cells' := 1) (slots' := 6) (Nat.le_of_ble_eq_true rfl) (Nat.le_of_ble_eq_true rfl) (vx_ret ?_)
    exact k_iret hx hb hr hlocks (⟨(by unfold s_x_waited; first | rfl | (simp only [if_neg c1]; done) | (simp only [if_neg c1]; rfl)), rfl, hW⟩) hL dX6_waited_11
def s_x_ownMinutes (D : KD) (nl : Nat) (nt : Nat) (ng : Nat) (lo : Int32) : Int32 := (if lo < 0 ∨ nl ≤ lo.toNatClampNeg then 1 else 0)
set_option maxHeartbeats 400000 in
set_option maxRecDepth 100000 in
theorem c_X6_ownMinutes (X : kX) (l : Launch) {n : Nat → Nat → Nat} {ad L : Nat → Nat → Nat → Nat} {C : Nat → Nat → Nat → Nat → Int32} {fr : Nat → Option Cell} {nl nt ng : Nat} (hd : kDk n 0 nl nt ng) (D : KD) {ne : Nat} (hc : kCx n ne) (lo : Int32) (hl9 : l.stackTraces = false) : k_X X l yX6_ownMinutes wsX6_ownMinutes ({ frames := 7, cells := 1, slots := 6, locals := 111 }) [.ref (ad 5 16 0), .int lo] (k_W X n ad L (k_g C 0 D) fr) (fun v H => s_x_ownMinutes D nl nt ng lo = 0 ∧ v = some (.int (D 4 lo.toNatClampNeg 9)) ∧ k_W X n ad L (k_g C 0 D) fr H) (fun E H => (E = "java/lang/IndexOutOfBoundsException" ∧ s_x_ownMinutes D nl nt ng lo = 1 ∧ k_W X n ad L (k_g C 0 D) fr H)) 1 6 := by
  refine k_X.of (cc := cX6_ownMinutes) (maxL := 2) (ret := (some .int)) (by decide) rfl (Nat.le_of_ble_eq_true rfl) ?_
  intro p e s m args below meth c ls hx hb hr hml hown hts hlocks hnm ht hK hW hl
  have hW0 := hW
  have hL : ∀ q ∈ ([] : List Loc), k_B X ≤ q.base := fun _ h => nomatch h
  have hl : lv_has ls 2 [(0, .ref (ad 5 16 0)), (1, .int lo)] := hl
  have fX6 : ∀ w ∈ u_ws RX6 TX6 2, w.before args s = true := fun w h => hts w ((by decide +kernel : ∀ w ∈ u_ws RX6 TX6 2, w ∈ wsX6_ownMinutes) w h)
  have fX3 : ∀ w ∈ u_ws RX3 TX3 15, w.before args s = true := fun w h => hts w ((by decide +kernel : ∀ w ∈ u_ws RX3 TX3 15, w ∈ wsX6_ownMinutes) w h)
  have hl8 := hd.l8
  have ht16 := hd.t16
  have hg4 := hd.g4
  refine lv_aload_n hx hb dX6_ownMinutes_0 rfl (lv_at hl 0 rfl) ?_
  refine k_get (g := 5) (K := RX6) (T := TX6) (N := 2) (v := .ref (ad 0 0 0)) (w := .ref (ad 0 0 0)) hx hb fX6 hown hK (k_ev hW) 16 0 hc.o (fun _ => rfl) rfl 0 (by decide) (hts (.fieldLink RX6 12 "Crossdockery" "dock" "LCrossdockery$Dock;") (by decide +kernel)) rfl rfl rfl dX6_ownMinutes_1 ?_
  refine lv_iload_n hx hb dX6_ownMinutes_4 rfl (lv_at hl 1 rfl) ?_
  refine kx_callV (As := [.int lo]) (rest := []) ⟨hx, hb, hml, hown, hts⟩ hK (c_X0_existingLorry_x X l hd D lo hl9) (cwV 1 hts gX6_ownMinutes_X0_existingLorry rfl rfl rfl (by decide +kernel) ⟨Nat.le_of_ble_eq_true rfl, Nat.le_of_ble_eq_true rfl⟩) (k_recv hK hW 0 0 hd.o (fun _ => rfl) rfl) hW rfl hl.1 rfl (Nat.le_of_ble_eq_true rfl) dX6_ownMinutes_5 ⟨Nat.le_of_ble_eq_true rfl, Nat.le_of_ble_eq_true rfl⟩ hL (fun E ce q H locs hp hL hce hcv hcl => ?_) (fun v9 H locs hp hL => ?_)
  ·
    obtain ⟨rfl, c1, hW⟩ := hp
    replace c1 := k_vout c1
    exact k_outX ht hlocks hce hcv hcl (⟨rfl, (by unfold s_x_ownMinutes; first | rfl | (simp only [if_pos c1]; done) | (simp only [if_pos c1]; rfl)), hW⟩) hL (Nat.le_of_ble_eq_true rfl) (Nat.le_of_ble_eq_true rfl)
  ·
    obtain ⟨c1, rfl, hW⟩ := hp
    refine k_get (K := RX3) (T := TX3) (N := 15) (v := .int (D 4 lo.toNatClampNeg 9)) (w := .int (D 4 lo.toNatClampNeg 9)) hx hb fX3 hown hK hW 4 lo.toNatClampNeg (hd.lo (vp_in.lt c1)) (fun _ => rfl) rfl 9 (by decide) (hts (.fieldLink RX6 162 "Crossdockery$Lorry" "own" "I") (by decide +kernel)) rfl rfl rfl dX6_ownMinutes_8 ?_
    refine k_more (cells' := 1) (slots' := 6) (Nat.le_of_ble_eq_true rfl) (Nat.le_of_ble_eq_true rfl) (vx_ret ?_)
    exact k_iret hx hb hr hlocks (⟨(by unfold s_x_ownMinutes; first | rfl | (simp only [if_neg c1]; done) | (simp only [if_neg c1]; rfl)), rfl, hW⟩) hL dX6_ownMinutes_11
theorem ha_X6_debtor_126 : ∀ w ∈ (vx_atSN RX6 126 "java/util/NoSuchElementException" ["java/lang/RuntimeException", "java/lang/Exception"]).filter goodWord, w ∈ wsX6_debtorN := fun _ h => List.mem_cons_of_mem _ (List.mem_append_left _ (List.mem_append_right _ h))
def s_x_debtor (D : KD) (nl : Nat) (nt : Nat) (ng : Nat) (lo : Int32) : Int32 := (if lo < 0 ∨ nl ≤ lo.toNatClampNeg then 1 else (if (D 4 lo.toNatClampNeg 11) = 0 then 2 else 0))
set_option maxHeartbeats 400000 in
set_option maxRecDepth 100000 in
theorem c_X6_debtor (X : kX) (l : Launch) {n : Nat → Nat → Nat} {ad L : Nat → Nat → Nat → Nat} {C : Nat → Nat → Nat → Nat → Int32} {fr : Nat → Option Cell} {nl nt ng : Nat} (hd : kDk n 0 nl nt ng) (D : KD) {ne : Nat} (hc : kCx n ne) (lo : Int32) (hl9 : l.stackTraces = false) : k_X X l yX6_debtor wsX6_debtorN ({ frames := 7, cells := 2, slots := 12, locals := 111 }) [.ref (ad 5 16 0), .int lo] (k_W X n ad L (k_g C 0 D) fr) (fun v H => s_x_debtor D nl nt ng lo = 0 ∧ v = some (.int (D 4 lo.toNatClampNeg 12)) ∧ k_W X n ad L (k_g C 0 D) fr H) (fun E H => (E = "java/lang/IndexOutOfBoundsException" ∧ s_x_debtor D nl nt ng lo = 1 ∧ k_W X n ad L (k_g C 0 D) fr H) ∨ (E = "java/util/NoSuchElementException" ∧ s_x_debtor D nl nt ng lo = 2 ∧ k_W X n ad L (k_g C 0 D) fr H)) 2 12 := by
  refine k_X.of (cc := cX6_debtor) (maxL := 3) (ret := (some .int)) (by decide) rfl (Nat.le_of_ble_eq_true rfl) ?_
  intro p e s m args below meth c ls hx hb hr hml hown hts hlocks hnm ht hK hW hl
  have hW0 := hW
  have hL : ∀ q ∈ ([] : List Loc), k_B X ≤ q.base := fun _ h => nomatch h
  have hl : lv_has ls 3 [(0, .ref (ad 5 16 0)), (1, .int lo)] := hl
  have fX6 : ∀ w ∈ u_ws RX6 TX6 2, w.before args s = true := fun w h => hts w ((by decide +kernel : ∀ w ∈ u_ws RX6 TX6 2, w ∈ wsX6_debtorN) w h)
  have fX3 : ∀ w ∈ u_ws RX3 TX3 15, w.before args s = true := fun w h => hts w ((by decide +kernel : ∀ w ∈ u_ws RX3 TX3 15, w ∈ wsX6_debtorN) w h)
  have hl8 := hd.l8
  have ht16 := hd.t16
  have hg4 := hd.g4
  refine lv_aload_n hx hb dX6_debtor_0 rfl (lv_at hl 0 rfl) ?_
  refine k_get (g := 5) (K := RX6) (T := TX6) (N := 2) (v := .ref (ad 0 0 0)) (w := .ref (ad 0 0 0)) hx hb fX6 hown hK (k_ev hW) 16 0 hc.o (fun _ => rfl) rfl 0 (by decide) (hts (.fieldLink RX6 12 "Crossdockery" "dock" "LCrossdockery$Dock;") (by decide +kernel)) rfl rfl rfl dX6_debtor_1 ?_
  refine lv_iload_n hx hb dX6_debtor_4 rfl (lv_at hl 1 rfl) ?_
  refine kx_callV (As := [.int lo]) (rest := []) ⟨hx, hb, hml, hown, hts⟩ hK (c_X0_existingLorry_x X l hd D lo hl9) (cwV 1 hts gX6_debtorN_X0_existingLorry rfl rfl rfl (by decide +kernel) ⟨Nat.le_of_ble_eq_true rfl, Nat.le_of_ble_eq_true rfl⟩) (k_recv hK hW 0 0 hd.o (fun _ => rfl) rfl) hW rfl hl.1 rfl (Nat.le_of_ble_eq_true rfl) dX6_debtor_5 ⟨Nat.le_of_ble_eq_true rfl, Nat.le_of_ble_eq_true rfl⟩ hL (fun E ce q H locs hp hL hce hcv hcl => ?_) (fun v9 H locs hp hL => ?_)
  ·
    obtain ⟨rfl, c1, hW⟩ := hp
    replace c1 := k_vout c1
    exact k_outX ht hlocks hce hcv hcl (Or.inl ⟨rfl, (by unfold s_x_debtor; first | rfl | (simp only [if_pos c1]; done) | (simp only [if_pos c1]; rfl)), hW⟩) hL (Nat.le_of_ble_eq_true rfl) (Nat.le_of_ble_eq_true rfl)
  ·
    obtain ⟨c1, rfl, hW⟩ := hp
    refine lv_astore_n (lv' := [(2, .ref (ad 0 4 lo.toNatClampNeg)), (0, .ref (ad 5 16 0)), (1, .int lo)]) hx hb dX6_debtor_8 rfl hl (by decide) rfl (fun ls hl => ?_)
    refine lv_aload_n hx hb dX6_debtor_9 rfl (lv_at hl 0 rfl) ?_
    refine k_get (K := RX3) (T := TX3) (N := 15) (v := .int (D 4 lo.toNatClampNeg 11)) (w := .int (D 4 lo.toNatClampNeg 11)) hx hb fX3 hown hK hW 4 lo.toNatClampNeg (hd.lo (vp_in.lt c1)) (fun _ => rfl) rfl 11 (by decide) (hts (.fieldLink RX6 165 "Crossdockery$Lorry" "hasJustWaited" "Z") (by decide +kernel)) rfl rfl rfl dX6_debtor_10 ?_
    refine lv_if_ne (tgt := 26) hx hb dX6_debtor_13 (by decide) (fun c2 => ?_) (fun c2 => ?_)
    ·
      refine lv_aload_n hx hb dX6_debtor_26 rfl (lv_at hl 0 rfl) ?_
      refine k_get (K := RX3) (T := TX3) (N := 15) (v := .int (D 4 lo.toNatClampNeg 12)) (w := .int (D 4 lo.toNatClampNeg 12)) hx hb fX3 hown hK hW 4 lo.toNatClampNeg (hd.lo (vp_in.lt c1)) (fun _ => rfl) rfl 12 (by decide) (hts (.fieldLink RX6 170 "Crossdockery$Lorry" "lastDebtor" "I") (by decide +kernel)) rfl rfl rfl dX6_debtor_27 ?_
      refine k_more (cells' := 2) (slots' := 12) (Nat.le_of_ble_eq_true rfl) (Nat.le_of_ble_eq_true rfl) (vx_ret ?_)
      exact k_iret hx hb hr hlocks (⟨(by unfold s_x_debtor; first | rfl | (simp only [if_neg c1, if_neg c2]; done) | (simp only [if_neg c1, if_neg c2]; rfl)), rfl, hW⟩) hL dX6_debtor_30
    ·
      exact k_throwN (own := RX6) (cls := "java/util/NoSuchElementException") (text := "the lorry did not wait in the last minute") (ik := 122) (is := 168) (ic := 126) hx hb hl9 6 hown (by decide +kernel) hK rfl (hts (.classLink RX6 122 "java/util/NoSuchElementException") (by decide +kernel)) (hts (.initialized "java/util/NoSuchElementException") (by decide +kernel)) (fun w hw => hts w (ha_X6_debtor_126 w hw)) bad_RX6_126 og_RX6_122_126 hW0 hW hL (hl.1.trans hml.symm) dX6_debtor_16 dX6_debtor_19 dX6_debtor_20 dX6_debtor_22 dX6_debtor_25 ht (Nat.le_of_ble_eq_true rfl) (Nat.le_of_ble_eq_true rfl) (Nat.le_of_ble_eq_true rfl) (Nat.le_of_ble_eq_true rfl) hlocks (fun H1 hW => Or.inr (⟨rfl, (by unfold s_x_debtor; first | rfl | (simp only [if_neg c1, if_pos c2]; done) | (simp only [if_neg c1, if_pos c2]; rfl)), hW⟩)) (Nat.le_of_ble_eq_true rfl) (Nat.le_of_ble_eq_true rfl)
def s_x_requireDebtor (D : KD) (nl : Nat) (nt : Nat) (ng : Nat) (de : Int32) : Int32 := (if de = (-1) then 0 else (if de < 0 ∨ nl ≤ de.toNatClampNeg then 1 else 0))
set_option maxHeartbeats 400000 in
set_option maxRecDepth 100000 in
theorem c_X6_requireDebtor (X : kX) (l : Launch) {n : Nat → Nat → Nat} {ad L : Nat → Nat → Nat → Nat} {C : Nat → Nat → Nat → Nat → Int32} {fr : Nat → Option Cell} {nl nt ng : Nat} (hd : kDk n 0 nl nt ng) (D : KD) {ne : Nat} (hc : kCx n ne) (de : Int32) (hl9 : l.stackTraces = false) : k_X X l yX6_requireDebtor wsX6_requireDebtor ({ frames := 7, cells := 1, slots := 6, locals := 111 }) [.ref (ad 5 16 0), .int de] (k_W X n ad L (k_g C 0 D) fr) (fun v H => s_x_requireDebtor D nl nt ng de = 0 ∧ v = none ∧ k_W X n ad L (k_g C 0 D) fr H) (fun E H => (E = "java/lang/IndexOutOfBoundsException" ∧ s_x_requireDebtor D nl nt ng de = 1 ∧ k_W X n ad L (k_g C 0 D) fr H)) 1 6 := by
  refine k_X.of (cc := cX6_requireDebtor) (maxL := 2) (ret := none) (by decide) rfl (Nat.le_of_ble_eq_true rfl) ?_
  intro p e s m args below meth c ls hx hb hr hml hown hts hlocks hnm ht hK hW hl
  have hW0 := hW
  have hL : ∀ q ∈ ([] : List Loc), k_B X ≤ q.base := fun _ h => nomatch h
  have hl : lv_has ls 2 [(0, .ref (ad 5 16 0)), (1, .int de)] := hl
  have fX6 : ∀ w ∈ u_ws RX6 TX6 2, w.before args s = true := fun w h => hts w ((by decide +kernel : ∀ w ∈ u_ws RX6 TX6 2, w ∈ wsX6_requireDebtor) w h)
  have hl8 := hd.l8
  have ht16 := hd.t16
  have hg4 := hd.g4
  refine lv_iload_n hx hb dX6_requireDebtor_0 rfl (lv_at hl 1 rfl) ?_
  refine lv_iconst (v := (-1)) hx hb dX6_requireDebtor_1 (by decide) ?_
  refine lv_icmp_eq (tgt := 14) hx hb dX6_requireDebtor_2 (by decide) (fun c1 => ?_) (fun c1 => ?_)
  ·
    refine k_more (cells' := 1) (slots' := 6) (Nat.le_of_ble_eq_true rfl) (Nat.le_of_ble_eq_true rfl) (vx_ret ?_)
    exact k_vret hx hb hr hlocks (⟨(by unfold s_x_requireDebtor; first | rfl | (simp only [if_pos c1]; done) | (simp only [if_pos c1]; rfl)), rfl, hW⟩) hL dX6_requireDebtor_14
  ·
    refine lv_aload_n hx hb dX6_requireDebtor_5 rfl (lv_at hl 0 rfl) ?_
    refine k_get (g := 5) (K := RX6) (T := TX6) (N := 2) (v := .ref (ad 0 0 0)) (w := .ref (ad 0 0 0)) hx hb fX6 hown hK (k_ev hW) 16 0 hc.o (fun _ => rfl) rfl 0 (by decide) (hts (.fieldLink RX6 12 "Crossdockery" "dock" "LCrossdockery$Dock;") (by decide +kernel)) rfl rfl rfl dX6_requireDebtor_6 ?_
    refine lv_iload_n hx hb dX6_requireDebtor_9 rfl (lv_at hl 1 rfl) ?_
    refine kx_callV (As := [.int de]) (rest := []) ⟨hx, hb, hml, hown, hts⟩ hK (c_X0_existingLorry_x X l hd D de hl9) (cwV 1 hts gX6_requireDebtor_X0_existingLorry rfl rfl rfl (by decide +kernel) ⟨Nat.le_of_ble_eq_true rfl, Nat.le_of_ble_eq_true rfl⟩) (k_recv hK hW 0 0 hd.o (fun _ => rfl) rfl) hW rfl hl.1 rfl (Nat.le_of_ble_eq_true rfl) dX6_requireDebtor_10 ⟨Nat.le_of_ble_eq_true rfl, Nat.le_of_ble_eq_true rfl⟩ hL (fun E ce q H locs hp hL hce hcv hcl => ?_) (fun v9 H locs hp hL => ?_)
    ·
      obtain ⟨rfl, c2, hW⟩ := hp
      replace c2 := k_vout c2
      exact k_outX ht hlocks hce hcv hcl (⟨rfl, (by unfold s_x_requireDebtor; first | rfl | (simp only [if_neg c1, if_pos c2]; done) | (simp only [if_neg c1, if_pos c2]; rfl)), hW⟩) hL (Nat.le_of_ble_eq_true rfl) (Nat.le_of_ble_eq_true rfl)
    ·
      obtain ⟨c2, rfl, hW⟩ := hp
      refine lv_pop hx hb dX6_requireDebtor_13 rfl ?_
      refine k_more (cells' := 1) (slots' := 6) (Nat.le_of_ble_eq_true rfl) (Nat.le_of_ble_eq_true rfl) (vx_ret ?_)
      exact k_vret hx hb hr hlocks (⟨(by unfold s_x_requireDebtor; first | rfl | (simp only [if_neg c1, if_neg c2]; done) | (simp only [if_neg c1, if_neg c2]; rfl)), rfl, hW⟩) hL dX6_requireDebtor_14
def s_x_invoice (D : KD) (nl : Nat) (nt : Nat) (ng : Nat) (de : Int32) (lo : Int32) : Int32 := (if s_x_requireDebtor D nl nt ng de = 0 then (if lo < 0 ∨ nl ≤ lo.toNatClampNeg then 1 else 0) else 1)
set_option maxHeartbeats 400000 in
set_option maxRecDepth 100000 in
theorem c_X6_invoice (X : kX) (l : Launch) {n : Nat → Nat → Nat} {ad L : Nat → Nat → Nat → Nat} {C : Nat → Nat → Nat → Nat → Int32} {fr : Nat → Option Cell} {nl nt ng : Nat} (hd : kDk n 0 nl nt ng) (D : KD) {ne : Nat} (hc : kCx n ne) (de : Int32) (lo : Int32) (hl9 : l.stackTraces = false) : k_X X l yX6_invoice wsX6_invoice ({ frames := 8, cells := 2, slots := 12, locals := 132 }) [.ref (ad 5 16 0), .int de, .int lo] (k_W X n ad L (k_g C 0 D) fr) (fun v H => s_x_invoice D nl nt ng de lo = 0 ∧ v = some (.int (s_X3_centsFrom D lo.toNatClampNeg de)) ∧ k_W X n ad L (k_g C 0 D) fr H) (fun E H => (E = "java/lang/IndexOutOfBoundsException" ∧ s_x_invoice D nl nt ng de lo = 1 ∧ k_W X n ad L (k_g C 0 D) fr H)) 2 12 := by
  refine k_X.of (cc := cX6_invoice) (maxL := 3) (ret := (some .int)) (by decide) rfl (Nat.le_of_ble_eq_true rfl) ?_
  intro p e s m args below meth c ls hx hb hr hml hown hts hlocks hnm ht hK hW hl
  have hW0 := hW
  have hL : ∀ q ∈ ([] : List Loc), k_B X ≤ q.base := fun _ h => nomatch h
  have hl : lv_has ls 3 [(0, .ref (ad 5 16 0)), (1, .int de), (2, .int lo)] := hl
  have fX6 : ∀ w ∈ u_ws RX6 TX6 2, w.before args s = true := fun w h => hts w ((by decide +kernel : ∀ w ∈ u_ws RX6 TX6 2, w ∈ wsX6_invoice) w h)
  have hl8 := hd.l8
  have ht16 := hd.t16
  have hg4 := hd.g4
  refine lv_aload_n hx hb dX6_invoice_0 rfl (lv_at hl 0 rfl) ?_
  refine lv_iload_n hx hb dX6_invoice_1 rfl (lv_at hl 1 rfl) ?_
  refine kx_callV (As := [.int de]) (rest := []) ⟨hx, hb, hml, hown, hts⟩ hK (c_X6_requireDebtor X l hd D hc de hl9) (cwV 1 hts gX6_invoice_X6_requireDebtor rfl rfl rfl (by decide +kernel) ⟨Nat.le_of_ble_eq_true rfl, Nat.le_of_ble_eq_true rfl⟩) (k_recv hK (k_ev hW) 16 0 hc.o (fun _ => rfl) rfl) hW rfl hl.1 rfl (Nat.le_of_ble_eq_true rfl) dX6_invoice_2 ⟨Nat.le_of_ble_eq_true rfl, Nat.le_of_ble_eq_true rfl⟩ hL (fun E ce q H locs hp hL hce hcv hcl => ?_) (fun v9 H locs hp hL => ?_)
  ·
    obtain ⟨rfl, c1, hW⟩ := hp
    replace c1 := k_one0 c1
    exact k_outX ht hlocks hce hcv hcl (⟨rfl, (by unfold s_x_invoice; first | rfl | (simp only [if_neg c1]; done) | (simp only [if_neg c1]; rfl)), hW⟩) hL (Nat.le_of_ble_eq_true rfl) (Nat.le_of_ble_eq_true rfl)
  ·
    obtain ⟨c1, rfl, hW⟩ := hp
    refine lv_aload_n hx hb dX6_invoice_5 rfl (lv_at hl 0 rfl) ?_
    refine k_get (g := 5) (K := RX6) (T := TX6) (N := 2) (v := .ref (ad 0 0 0)) (w := .ref (ad 0 0 0)) hx hb fX6 hown hK (k_ev hW) 16 0 hc.o (fun _ => rfl) rfl 0 (by decide) (hts (.fieldLink RX6 12 "Crossdockery" "dock" "LCrossdockery$Dock;") (by decide +kernel)) rfl rfl rfl dX6_invoice_6 ?_
    refine lv_iload_n hx hb dX6_invoice_9 rfl (lv_at hl 2 rfl) ?_
    refine kx_callV (As := [.int lo]) (rest := []) ⟨hx, hb, hml, hown, hts⟩ hK (c_X0_existingLorry_x X l hd D lo hl9) (cwV 1 hts gX6_invoice_X0_existingLorry rfl rfl rfl (by decide +kernel) ⟨Nat.le_of_ble_eq_true rfl, Nat.le_of_ble_eq_true rfl⟩) (k_recv hK hW 0 0 hd.o (fun _ => rfl) rfl) hW rfl hl.1 rfl (Nat.le_of_ble_eq_true rfl) dX6_invoice_10 ⟨Nat.le_of_ble_eq_true rfl, Nat.le_of_ble_eq_true rfl⟩ hL (fun E ce q H locs hp hL hce hcv hcl => ?_) (fun v9 H locs hp hL => ?_)
    ·
      obtain ⟨rfl, c2, hW⟩ := hp
      replace c2 := k_vout c2
      exact k_outX ht hlocks hce hcv hcl (⟨rfl, (by unfold s_x_invoice; first | rfl | (simp only [if_pos c1, if_pos c2]; done) | (simp only [if_pos c1, if_pos c2]; rfl)), hW⟩) hL (Nat.le_of_ble_eq_true rfl) (Nat.le_of_ble_eq_true rfl)
    ·
      obtain ⟨c2, rfl, hW⟩ := hp
      refine lv_iload_n hx hb dX6_invoice_13 rfl (lv_at hl 1 rfl) ?_
      refine k_callV (As := [.int de]) (rest := []) ⟨hx, hb, hml, hown, hts⟩ hK (c_X3_centsFrom X l hd D lo.toNatClampNeg (vp_in.lt c2) de) (cwV 1 hts gX6_invoice_X3_centsFrom rfl rfl rfl (by decide +kernel) ⟨Nat.le_of_ble_eq_true rfl, Nat.le_of_ble_eq_true rfl⟩) (k_recv hK hW 4 lo.toNatClampNeg (hd.lo (vp_in.lt c2)) (fun _ => rfl) rfl) hW rfl hl.1 rfl (Nat.le_of_ble_eq_true rfl) dX6_invoice_14 ⟨Nat.le_of_ble_eq_true rfl, Nat.le_of_ble_eq_true rfl⟩ hL (fun v9 H locs hp hL => ?_)
      obtain ⟨rfl, hW⟩ := hp
      refine k_more (cells' := 2) (slots' := 12) (Nat.le_of_ble_eq_true rfl) (Nat.le_of_ble_eq_true rfl) (vx_ret ?_)
      exact k_iret hx hb hr hlocks (⟨(by unfold s_x_invoice; first | rfl | (simp only [if_pos c1, if_neg c2]; done) | (simp only [if_pos c1, if_neg c2]; rfl)), rfl, hW⟩) hL dX6_invoice_17
def s_x_balance (D : KD) (nl : Nat) (nt : Nat) (ng : Nat) (who : Int32) : Int32 := (if s_x_requireDebtor D nl nt ng who = 0 then 0 else 1)
set_option maxHeartbeats 400000 in
set_option maxRecDepth 100000 in
theorem c_X6_balance (X : kX) (l : Launch) {n : Nat → Nat → Nat} {ad L : Nat → Nat → Nat → Nat} {C : Nat → Nat → Nat → Nat → Int32} {fr : Nat → Option Cell} {nl nt ng : Nat} (hd : kDk n 0 nl nt ng) (D : KD) {ne : Nat} (hc : kCx n ne) (who : Int32) (hl9 : l.stackTraces = false) : k_X X l yX6_balance wsX6_balance ({ frames := 8, cells := 1, slots := 6, locals := 132 }) [.ref (ad 5 16 0), .int who] (k_W X n ad L (k_g C 0 D) fr) (fun v H => s_x_balance D nl nt ng who = 0 ∧ v = some (.long (s_X0_balanceOf D nl nt ng who)) ∧ k_W X n ad L (k_g C 0 D) fr H) (fun E H => (E = "java/lang/IndexOutOfBoundsException" ∧ s_x_balance D nl nt ng who = 1 ∧ k_W X n ad L (k_g C 0 D) fr H)) 1 6 := by
  refine k_X.of (cc := cX6_balance) (maxL := 2) (ret := (some .long)) (by decide) rfl (Nat.le_of_ble_eq_true rfl) ?_
  intro p e s m args below meth c ls hx hb hr hml hown hts hlocks hnm ht hK hW hl
  have hW0 := hW
  have hL : ∀ q ∈ ([] : List Loc), k_B X ≤ q.base := fun _ h => nomatch h
  have hl : lv_has ls 2 [(0, .ref (ad 5 16 0)), (1, .int who)] := hl
  have fX6 : ∀ w ∈ u_ws RX6 TX6 2, w.before args s = true := fun w h => hts w ((by decide +kernel : ∀ w ∈ u_ws RX6 TX6 2, w ∈ wsX6_balance) w h)
  have hl8 := hd.l8
  have ht16 := hd.t16
  have hg4 := hd.g4
  refine lv_aload_n hx hb dX6_balance_0 rfl (lv_at hl 0 rfl) ?_
  refine lv_iload_n hx hb dX6_balance_1 rfl (lv_at hl 1 rfl) ?_
  refine kx_callV (As := [.int who]) (rest := []) ⟨hx, hb, hml, hown, hts⟩ hK (c_X6_requireDebtor X l hd D hc who hl9) (cwV 1 hts gX6_balance_X6_requireDebtor rfl rfl rfl (by decide +kernel) ⟨Nat.le_of_ble_eq_true rfl, Nat.le_of_ble_eq_true rfl⟩) (k_recv hK (k_ev hW) 16 0 hc.o (fun _ => rfl) rfl) hW rfl hl.1 rfl (Nat.le_of_ble_eq_true rfl) dX6_balance_2 ⟨Nat.le_of_ble_eq_true rfl, Nat.le_of_ble_eq_true rfl⟩ hL (fun E ce q H locs hp hL hce hcv hcl => ?_) (fun v9 H locs hp hL => ?_)
  ·
    obtain ⟨rfl, c1, hW⟩ := hp
    replace c1 := k_one0 c1
    exact k_outX ht hlocks hce hcv hcl (⟨rfl, (by unfold s_x_balance; first | rfl | (simp only [if_neg c1]; done) | (simp only [if_neg c1]; rfl)), hW⟩) hL (Nat.le_of_ble_eq_true rfl) (Nat.le_of_ble_eq_true rfl)
  ·
    obtain ⟨c1, rfl, hW⟩ := hp
    refine lv_aload_n hx hb dX6_balance_5 rfl (lv_at hl 0 rfl) ?_
    refine k_get (g := 5) (K := RX6) (T := TX6) (N := 2) (v := .ref (ad 0 0 0)) (w := .ref (ad 0 0 0)) hx hb fX6 hown hK (k_ev hW) 16 0 hc.o (fun _ => rfl) rfl 0 (by decide) (hts (.fieldLink RX6 12 "Crossdockery" "dock" "LCrossdockery$Dock;") (by decide +kernel)) rfl rfl rfl dX6_balance_6 ?_
    refine lv_iload_n hx hb dX6_balance_9 rfl (lv_at hl 1 rfl) ?_
    refine k_callV (As := [.int who]) (rest := []) ⟨hx, hb, hml, hown, hts⟩ hK (c_X0_balanceOf X l hd D who) (cwV 1 hts gX6_balance_X0_balanceOf rfl rfl rfl (by decide +kernel) ⟨Nat.le_of_ble_eq_true rfl, Nat.le_of_ble_eq_true rfl⟩) (k_recv hK hW 0 0 hd.o (fun _ => rfl) rfl) hW rfl hl.1 rfl (Nat.le_of_ble_eq_true rfl) dX6_balance_10 ⟨Nat.le_of_ble_eq_true rfl, Nat.le_of_ble_eq_true rfl⟩ hL (fun v9 H locs hp hL => ?_)
    obtain ⟨rfl, hW⟩ := hp
    refine k_more (cells' := 1) (slots' := 6) (Nat.le_of_ble_eq_true rfl) (Nat.le_of_ble_eq_true rfl) (vx_ret ?_)
    exact k_lret hx hb hr hlocks (⟨(by unfold s_x_balance; first | rfl | (simp only [if_pos c1]; done) | (simp only [if_pos c1]; rfl)), rfl, hW⟩) hL dX6_balance_13
def s_x_ways (D : KD) (nl : Nat) (nt : Nat) (ng : Nat) : Int32 := 0
set_option maxHeartbeats 400000 in
set_option maxRecDepth 100000 in
theorem c_X6_ways (X : kX) (l : Launch) {n : Nat → Nat → Nat} {ad L : Nat → Nat → Nat → Nat} {C : Nat → Nat → Nat → Nat → Int32} {fr : Nat → Option Cell} {nl nt ng : Nat} (hd : kDk n 0 nl nt ng) (D : KD) {ne : Nat} (hc : kCx n ne) (hwf : cWF D nl nt) (hl9 : l.stackTraces = false) : k_X X l yX6_ways wsX6_ways ({ frames := 5, cells := 0, slots := 0, locals := 98 }) [.ref (ad 5 16 0)] (k_W X n ad L (k_g C 0 D) fr) (fun v H => s_x_ways D nl nt ng = 0 ∧ v = some (.int (s_X0_waysOfTransfers D nl nt ng)) ∧ k_W X n ad L (k_g C 0 D) fr H) (fun _ _ => False) 0 0 := by
  refine k_X.of (cc := cX6_ways) (maxL := 1) (ret := (some .int)) (by decide) rfl (Nat.le_of_ble_eq_true rfl) ?_
  intro p e s m args below meth c ls hx hb hr hml hown hts hlocks hnm ht hK hW hl
  have hW0 := hW
  have hL : ∀ q ∈ ([] : List Loc), k_B X ≤ q.base := fun _ h => nomatch h
  have hl : lv_has ls 1 [(0, .ref (ad 5 16 0))] := hl
  have fX6 : ∀ w ∈ u_ws RX6 TX6 2, w.before args s = true := fun w h => hts w ((by decide +kernel : ∀ w ∈ u_ws RX6 TX6 2, w ∈ wsX6_ways) w h)
  have hl8 := hd.l8
  have ht16 := hd.t16
  have hg4 := hd.g4
  refine lv_aload_n hx hb dX6_ways_0 rfl (lv_at hl 0 rfl) ?_
  refine k_get (g := 5) (K := RX6) (T := TX6) (N := 2) (v := .ref (ad 0 0 0)) (w := .ref (ad 0 0 0)) hx hb fX6 hown hK (k_ev hW) 16 0 hc.o (fun _ => rfl) rfl 0 (by decide) (hts (.fieldLink RX6 12 "Crossdockery" "dock" "LCrossdockery$Dock;") (by decide +kernel)) rfl rfl rfl dX6_ways_1 ?_
  refine k_callV (As := []) (rest := []) ⟨hx, hb, hml, hown, hts⟩ hK (c_X0_waysOfTransfers X l hd D hwf) (cwV 0 hts gX6_ways_X0_waysOfTransfers rfl rfl rfl (by decide +kernel) ⟨Nat.le_of_ble_eq_true rfl, Nat.le_of_ble_eq_true rfl⟩) (k_recv hK hW 0 0 hd.o (fun _ => rfl) rfl) hW rfl hl.1 rfl (Nat.le_of_ble_eq_true rfl) dX6_ways_4 ⟨Nat.le_of_ble_eq_true rfl, Nat.le_of_ble_eq_true rfl⟩ hL (fun v9 H locs hp hL => ?_)
  obtain ⟨rfl, hW⟩ := hp
  refine k_more (cells' := 0) (slots' := 0) (Nat.le_of_ble_eq_true rfl) (Nat.le_of_ble_eq_true rfl) (vx_ret ?_)
  exact k_iret hx hb hr hlocks (⟨(by unfold s_x_ways; rfl), rfl, hW⟩) hL dX6_ways_7
