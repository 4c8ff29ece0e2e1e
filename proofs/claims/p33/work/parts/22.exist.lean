set_option maxHeartbeats 400000 in
set_option maxRecDepth 100000 in
theorem c_X0_existingLorry (X : kX) (l : Launch) {n : Nat → Nat → Nat} {ad L : Nat → Nat → Nat → Nat} {C : Nat → Nat → Nat → Nat → Int32} {fr : Nat → Option Cell} {g : Nat} {nl nt ng : Nat} (hd : kDk n g nl nt ng) (D : KD) {j : Nat} (h_j : j < nl) : k_M X l yX0_existingLorry wsX0_existingLorry ({ frames := 4, cells := 0, slots := 0, locals := 76 }) [.ref (ad g 0 0), .int (nI j)] (k_W X n ad L (k_g C g D) fr) (fun v H => v = some (.ref (ad g 4 j)) ∧ k_W X n ad L (k_g C g D) fr H) 0 0 := by
  refine k_M.of (cc := cX0_existingLorry) (maxL := 2) (ret := (some (.object "Crossdockery$Lorry"))) (by decide) rfl (Nat.le_of_ble_eq_true rfl) ?_
  intro p e s m args below meth c ls hx hb hr hml hown hts hlocks hnm hK hW hl
  have hL : ∀ q ∈ ([] : List Loc), k_B X ≤ q.base := fun _ h => nomatch h
  have hl : lv_has ls 2 [(0, .ref (ad g 0 0)), (1, .int (nI j))] := hl
  have fX0 : ∀ w ∈ u_ws RX0 TX0 5, w.before args s = true := fun w h => hts w ((by decide +kernel : ∀ w ∈ u_ws RX0 TX0 5, w ∈ wsX0_existingLorry) w h)
  have hl8 := hd.l8
  have ht16 := hd.t16
  have hg4 := hd.g4
  refine lv_iload_n hx hb dX0_existingLorry_0 rfl (lv_at hl 1 rfl) ?_
  refine lv_if_lt (tgt := 15) hx hb dX0_existingLorry_1 (by decide) (fun c1 => ?_) (fun c1 => ?_)
  ·
    exact absurd c1 (nI_pos (by omega))
  ·
    refine lv_iload_n hx hb dX0_existingLorry_4 rfl (lv_at hl 1 rfl) ?_
    refine lv_aload_n hx hb dX0_existingLorry_5 rfl (lv_at hl 0 rfl) ?_
    refine k_get (K := RX0) (T := TX0) (N := 5) (v := .ref (ad g 1 0)) (w := .ref (ad g 1 0)) hx hb fX0 hown hK hW 0 0 hd.o (fun _ => rfl) rfl 0 (by decide) (hts (.fieldLink RX0 12 "Crossdockery$Dock" "lorries" "Ljava/util/ArrayList;") (by decide +kernel)) rfl rfl rfl dX0_existingLorry_6 ?_
    refine k_callV (As := []) (rest := [.int (nI j)]) ⟨hx, hb, hml, hown, hts⟩ hK (c_size0 X l hd) (cwV 0 hts gX0_existingLorry_Jx4a65c_size_8abf5 rfl rfl rfl (by decide +kernel) ⟨Nat.le_of_ble_eq_true rfl, Nat.le_of_ble_eq_true rfl⟩) (k_recv hK hW 1 0 (hd.li (by decide)) (fun _ => rfl) rfl) hW rfl hl.1 rfl (Nat.le_of_ble_eq_true rfl) dX0_existingLorry_9 ⟨Nat.le_of_ble_eq_true rfl, Nat.le_of_ble_eq_true rfl⟩ hL (fun v9 H locs hp hL => ?_)
    obtain ⟨rfl, hW⟩ := hp
    refine lv_icmp_lt (tgt := 25) hx hb dX0_existingLorry_12 (by decide) (fun c2 => ?_) (fun c2 => ?_)
    ·
      refine lv_aload_n hx hb dX0_existingLorry_25 rfl (lv_at hl 0 rfl) ?_
      refine k_get (K := RX0) (T := TX0) (N := 5) (v := .ref (ad g 1 0)) (w := .ref (ad g 1 0)) hx hb fX0 hown hK hW 0 0 hd.o (fun _ => rfl) rfl 0 (by decide) (hts (.fieldLink RX0 12 "Crossdockery$Dock" "lorries" "Ljava/util/ArrayList;") (by decide +kernel)) rfl rfl rfl dX0_existingLorry_26 ?_
      refine lv_iload_n hx hb dX0_existingLorry_29 rfl (lv_at hl 1 rfl) ?_
      refine k_callV (As := [.int (nI j)]) (rest := []) ⟨hx, hb, hml, hown, hts⟩ hK (c_get0 X l hd hW.cap (j := j) (by omega)) (cwV 1 hts gX0_existingLorry_Jx4a65c_get_915e3 rfl rfl rfl (by decide +kernel) ⟨Nat.le_of_ble_eq_true rfl, Nat.le_of_ble_eq_true rfl⟩) (k_recv hK hW 1 0 (hd.li (by decide)) (fun _ => rfl) rfl) hW rfl hl.1 rfl (Nat.le_of_ble_eq_true rfl) dX0_existingLorry_30 ⟨Nat.le_of_ble_eq_true rfl, Nat.le_of_ble_eq_true rfl⟩ hL (fun v9 H locs hp hL => ?_)
      obtain ⟨rfl, hW⟩ := hp
      refine k_cast' (K := RX3) (nm := RX3) hx hb hown (hts (.classLink RX0 24 RX3) (by decide +kernel)) hK (List.mem_of_getElem? (i := 4) rfl) (k_recv hK hW 4 j (hd.lo (show j < nl by omega)) (fun _ => rfl) rfl) dX0_existingLorry_33 ?_
      exact k_aret (v := some (ad g 4 j)) hx hb hr hlocks (⟨rfl, hW⟩) hL dX0_existingLorry_36
    ·
      exact absurd ((nI_ltI (by omega) (by omega)).mpr h_j) c2
theorem c_X0_existingLorry_v (X : kX) (l : Launch) {n : Nat → Nat → Nat} {ad L : Nat → Nat → Nat → Nat} {C : Nat → Nat → Nat → Nat → Int32} {fr : Nat → Option Cell} {g : Nat} {nl nt ng : Nat} (hd : kDk n g nl nt ng) (D : KD) {x : Int32} (h_x : vp_in x nl) : k_M X l yX0_existingLorry wsX0_existingLorry ({ frames := 4, cells := 0, slots := 0, locals := 76 }) [.ref (ad g 0 0), .int x] (k_W X n ad L (k_g C g D) fr) (fun v H => v = some (.ref (ad g 4 x.toNatClampNeg)) ∧ k_W X n ad L (k_g C g D) fr H) 0 0 := by
  have hl8 := hd.l8
  have ht16 := hd.t16
  have hg4 := hd.g4
  obtain ⟨j, hj, rfl⟩ := vp_in_of h_x (by omega)
  rw [nI_clamp (by omega)]
  exact c_X0_existingLorry X l hd D hj
set_option maxHeartbeats 400000 in
set_option maxRecDepth 100000 in
theorem c_X0_existingTransfer (X : kX) (l : Launch) {n : Nat → Nat → Nat} {ad L : Nat → Nat → Nat → Nat} {C : Nat → Nat → Nat → Nat → Int32} {fr : Nat → Option Cell} {g : Nat} {nl nt ng : Nat} (hd : kDk n g nl nt ng) (D : KD) {j : Nat} (h_j : j < nt) : k_M X l yX0_existingTransfer wsX0_existingTransfer ({ frames := 4, cells := 0, slots := 0, locals := 76 }) [.ref (ad g 0 0), .int (nI j)] (k_W X n ad L (k_g C g D) fr) (fun v H => v = some (.ref (ad g 5 j)) ∧ k_W X n ad L (k_g C g D) fr H) 0 0 := by
  refine k_M.of (cc := cX0_existingTransfer) (maxL := 2) (ret := (some (.object "Crossdockery$Transfer"))) (by decide) rfl (Nat.le_of_ble_eq_true rfl) ?_
  intro p e s m args below meth c ls hx hb hr hml hown hts hlocks hnm hK hW hl
  have hL : ∀ q ∈ ([] : List Loc), k_B X ≤ q.base := fun _ h => nomatch h
  have hl : lv_has ls 2 [(0, .ref (ad g 0 0)), (1, .int (nI j))] := hl
  have fX0 : ∀ w ∈ u_ws RX0 TX0 5, w.before args s = true := fun w h => hts w ((by decide +kernel : ∀ w ∈ u_ws RX0 TX0 5, w ∈ wsX0_existingTransfer) w h)
  have hl8 := hd.l8
  have ht16 := hd.t16
  have hg4 := hd.g4
  refine lv_iload_n hx hb dX0_existingTransfer_0 rfl (lv_at hl 1 rfl) ?_
  refine lv_if_lt (tgt := 15) hx hb dX0_existingTransfer_1 (by decide) (fun c1 => ?_) (fun c1 => ?_)
  ·
    exact absurd c1 (nI_pos (by omega))
  ·
    refine lv_iload_n hx hb dX0_existingTransfer_4 rfl (lv_at hl 1 rfl) ?_
    refine lv_aload_n hx hb dX0_existingTransfer_5 rfl (lv_at hl 0 rfl) ?_
    refine k_get (K := RX0) (T := TX0) (N := 5) (v := .ref (ad g 1 1)) (w := .ref (ad g 1 1)) hx hb fX0 hown hK hW 0 0 hd.o (fun _ => rfl) rfl 1 (by decide) (hts (.fieldLink RX0 18 "Crossdockery$Dock" "transfers" "Ljava/util/ArrayList;") (by decide +kernel)) rfl rfl rfl dX0_existingTransfer_6 ?_
    refine k_callV (As := []) (rest := [.int (nI j)]) ⟨hx, hb, hml, hown, hts⟩ hK (c_size1 X l hd) (cwV 0 hts gX0_existingTransfer_Jx4a65c_size_8abf5 rfl rfl rfl (by decide +kernel) ⟨Nat.le_of_ble_eq_true rfl, Nat.le_of_ble_eq_true rfl⟩) (k_recv hK hW 1 1 (hd.li (by decide)) (fun _ => rfl) rfl) hW rfl hl.1 rfl (Nat.le_of_ble_eq_true rfl) dX0_existingTransfer_9 ⟨Nat.le_of_ble_eq_true rfl, Nat.le_of_ble_eq_true rfl⟩ hL (fun v9 H locs hp hL => ?_)
    obtain ⟨rfl, hW⟩ := hp
    refine lv_icmp_lt (tgt := 25) hx hb dX0_existingTransfer_12 (by decide) (fun c2 => ?_) (fun c2 => ?_)
    ·
      refine lv_aload_n hx hb dX0_existingTransfer_25 rfl (lv_at hl 0 rfl) ?_
      refine k_get (K := RX0) (T := TX0) (N := 5) (v := .ref (ad g 1 1)) (w := .ref (ad g 1 1)) hx hb fX0 hown hK hW 0 0 hd.o (fun _ => rfl) rfl 1 (by decide) (hts (.fieldLink RX0 18 "Crossdockery$Dock" "transfers" "Ljava/util/ArrayList;") (by decide +kernel)) rfl rfl rfl dX0_existingTransfer_26 ?_
      refine lv_iload_n hx hb dX0_existingTransfer_29 rfl (lv_at hl 1 rfl) ?_
      refine k_callV (As := [.int (nI j)]) (rest := []) ⟨hx, hb, hml, hown, hts⟩ hK (c_get1 X l hd hW.cap (j := j) (by omega)) (cwV 1 hts gX0_existingTransfer_Jx4a65c_get_915e3 rfl rfl rfl (by decide +kernel) ⟨Nat.le_of_ble_eq_true rfl, Nat.le_of_ble_eq_true rfl⟩) (k_recv hK hW 1 1 (hd.li (by decide)) (fun _ => rfl) rfl) hW rfl hl.1 rfl (Nat.le_of_ble_eq_true rfl) dX0_existingTransfer_30 ⟨Nat.le_of_ble_eq_true rfl, Nat.le_of_ble_eq_true rfl⟩ hL (fun v9 H locs hp hL => ?_)
      obtain ⟨rfl, hW⟩ := hp
      refine k_cast' (K := RX5) (nm := RX5) hx hb hown (hts (.classLink RX0 47 RX5) (by decide +kernel)) hK (List.mem_of_getElem? (i := 5) rfl) (k_recv hK hW 5 j (hd.tr (show j < nt by omega)) (fun _ => rfl) rfl) dX0_existingTransfer_33 ?_
      exact k_aret (v := some (ad g 5 j)) hx hb hr hlocks (⟨rfl, hW⟩) hL dX0_existingTransfer_36
    ·
      exact absurd ((nI_ltI (by omega) (by omega)).mpr h_j) c2
theorem c_X0_existingTransfer_v (X : kX) (l : Launch) {n : Nat → Nat → Nat} {ad L : Nat → Nat → Nat → Nat} {C : Nat → Nat → Nat → Nat → Int32} {fr : Nat → Option Cell} {g : Nat} {nl nt ng : Nat} (hd : kDk n g nl nt ng) (D : KD) {x : Int32} (h_x : vp_in x nt) : k_M X l yX0_existingTransfer wsX0_existingTransfer ({ frames := 4, cells := 0, slots := 0, locals := 76 }) [.ref (ad g 0 0), .int x] (k_W X n ad L (k_g C g D) fr) (fun v H => v = some (.ref (ad g 5 x.toNatClampNeg)) ∧ k_W X n ad L (k_g C g D) fr H) 0 0 := by
  have hl8 := hd.l8
  have ht16 := hd.t16
  have hg4 := hd.g4
  obtain ⟨j, hj, rfl⟩ := vp_in_of h_x (by omega)
  rw [nI_clamp (by omega)]
  exact c_X0_existingTransfer X l hd D hj
set_option maxHeartbeats 400000 in
set_option maxRecDepth 100000 in
theorem c_X0_existingGang (X : kX) (l : Launch) {n : Nat → Nat → Nat} {ad L : Nat → Nat → Nat → Nat} {C : Nat → Nat → Nat → Nat → Int32} {fr : Nat → Option Cell} {g : Nat} {nl nt ng : Nat} (hd : kDk n g nl nt ng) (D : KD) {j : Nat} (h_j : j < ng) : k_M X l yX0_existingGang wsX0_existingGang ({ frames := 4, cells := 0, slots := 0, locals := 76 }) [.ref (ad g 0 0), .int (nI j)] (k_W X n ad L (k_g C g D) fr) (fun v H => v = some (.ref (ad g 6 j)) ∧ k_W X n ad L (k_g C g D) fr H) 0 0 := by
  refine k_M.of (cc := cX0_existingGang) (maxL := 2) (ret := (some (.object "Crossdockery$Gang"))) (by decide) rfl (Nat.le_of_ble_eq_true rfl) ?_
  intro p e s m args below meth c ls hx hb hr hml hown hts hlocks hnm hK hW hl
  have hL : ∀ q ∈ ([] : List Loc), k_B X ≤ q.base := fun _ h => nomatch h
  have hl : lv_has ls 2 [(0, .ref (ad g 0 0)), (1, .int (nI j))] := hl
  have fX0 : ∀ w ∈ u_ws RX0 TX0 5, w.before args s = true := fun w h => hts w ((by decide +kernel : ∀ w ∈ u_ws RX0 TX0 5, w ∈ wsX0_existingGang) w h)
  have hl8 := hd.l8
  have ht16 := hd.t16
  have hg4 := hd.g4
  refine lv_iload_n hx hb dX0_existingGang_0 rfl (lv_at hl 1 rfl) ?_
  refine lv_if_lt (tgt := 15) hx hb dX0_existingGang_1 (by decide) (fun c1 => ?_) (fun c1 => ?_)
  ·
    exact absurd c1 (nI_pos (by omega))
  ·
    refine lv_iload_n hx hb dX0_existingGang_4 rfl (lv_at hl 1 rfl) ?_
    refine lv_aload_n hx hb dX0_existingGang_5 rfl (lv_at hl 0 rfl) ?_
    refine k_get (K := RX0) (T := TX0) (N := 5) (v := .ref (ad g 1 2)) (w := .ref (ad g 1 2)) hx hb fX0 hown hK hW 0 0 hd.o (fun _ => rfl) rfl 2 (by decide) (hts (.fieldLink RX0 21 "Crossdockery$Dock" "gangs" "Ljava/util/ArrayList;") (by decide +kernel)) rfl rfl rfl dX0_existingGang_6 ?_
    refine k_callV (As := []) (rest := [.int (nI j)]) ⟨hx, hb, hml, hown, hts⟩ hK (c_size2 X l hd) (cwV 0 hts gX0_existingGang_Jx4a65c_size_8abf5 rfl rfl rfl (by decide +kernel) ⟨Nat.le_of_ble_eq_true rfl, Nat.le_of_ble_eq_true rfl⟩) (k_recv hK hW 1 2 (hd.li (by decide)) (fun _ => rfl) rfl) hW rfl hl.1 rfl (Nat.le_of_ble_eq_true rfl) dX0_existingGang_9 ⟨Nat.le_of_ble_eq_true rfl, Nat.le_of_ble_eq_true rfl⟩ hL (fun v9 H locs hp hL => ?_)
    obtain ⟨rfl, hW⟩ := hp
    refine lv_icmp_lt (tgt := 25) hx hb dX0_existingGang_12 (by decide) (fun c2 => ?_) (fun c2 => ?_)
    ·
      refine lv_aload_n hx hb dX0_existingGang_25 rfl (lv_at hl 0 rfl) ?_
      refine k_get (K := RX0) (T := TX0) (N := 5) (v := .ref (ad g 1 2)) (w := .ref (ad g 1 2)) hx hb fX0 hown hK hW 0 0 hd.o (fun _ => rfl) rfl 2 (by decide) (hts (.fieldLink RX0 21 "Crossdockery$Dock" "gangs" "Ljava/util/ArrayList;") (by decide +kernel)) rfl rfl rfl dX0_existingGang_26 ?_
      refine lv_iload_n hx hb dX0_existingGang_29 rfl (lv_at hl 1 rfl) ?_
      refine k_callV (As := [.int (nI j)]) (rest := []) ⟨hx, hb, hml, hown, hts⟩ hK (c_get2 X l hd hW.cap (j := j) (by omega)) (cwV 1 hts gX0_existingGang_Jx4a65c_get_915e3 rfl rfl rfl (by decide +kernel) ⟨Nat.le_of_ble_eq_true rfl, Nat.le_of_ble_eq_true rfl⟩) (k_recv hK hW 1 2 (hd.li (by decide)) (fun _ => rfl) rfl) hW rfl hl.1 rfl (Nat.le_of_ble_eq_true rfl) dX0_existingGang_30 ⟨Nat.le_of_ble_eq_true rfl, Nat.le_of_ble_eq_true rfl⟩ hL (fun v9 H locs hp hL => ?_)
      obtain ⟨rfl, hW⟩ := hp
      refine k_cast' (K := RX2) (nm := RX2) hx hb hown (hts (.classLink RX0 51 RX2) (by decide +kernel)) hK (List.mem_of_getElem? (i := 6) rfl) (k_recv hK hW 6 j (hd.ga (show j < ng by omega)) (fun _ => rfl) rfl) dX0_existingGang_33 ?_
      exact k_aret (v := some (ad g 6 j)) hx hb hr hlocks (⟨rfl, hW⟩) hL dX0_existingGang_36
    ·
      exact absurd ((nI_ltI (by omega) (by omega)).mpr h_j) c2
theorem c_X0_existingGang_v (X : kX) (l : Launch) {n : Nat → Nat → Nat} {ad L : Nat → Nat → Nat → Nat} {C : Nat → Nat → Nat → Nat → Int32} {fr : Nat → Option Cell} {g : Nat} {nl nt ng : Nat} (hd : kDk n g nl nt ng) (D : KD) {x : Int32} (h_x : vp_in x ng) : k_M X l yX0_existingGang wsX0_existingGang ({ frames := 4, cells := 0, slots := 0, locals := 76 }) [.ref (ad g 0 0), .int x] (k_W X n ad L (k_g C g D) fr) (fun v H => v = some (.ref (ad g 6 x.toNatClampNeg)) ∧ k_W X n ad L (k_g C g D) fr H) 0 0 := by
  have hl8 := hd.l8
  have ht16 := hd.t16
  have hg4 := hd.g4
  obtain ⟨j, hj, rfl⟩ := vp_in_of h_x (by omega)
  rw [nI_clamp (by omega)]
  exact c_X0_existingGang X l hd D hj
