def f_X0_powerAt_4 (D : KD) (nl : Nat) (nt : Nat) (ng : Nat) (d : Int32) (k4 : Nat) (z4 : Int32) : Int32 := (if (s_X2_worksAt D k4 d (D 0 0 4)) = 0 then z4 else (z4 + (D 6 k4 0)))
def l_X0_powerAt_4 (D : KD) (nl : Nat) (nt : Nat) (ng : Nat) (d : Int32) : Int32 := it (f_X0_powerAt_4 D nl nt ng d) ng 0
def s_X0_powerAt (D : KD) (nl : Nat) (nt : Nat) (ng : Nat) (d : Int32) : Int32 := (l_X0_powerAt_4 D nl nt ng d)
set_option maxHeartbeats 4000000 in
set_option maxRecDepth 100000 in
theorem c_X0_powerAt (X : kX) (l : Launch) {n : Nat → Nat → Nat} {ad L : Nat → Nat → Nat → Nat} {C : Nat → Nat → Nat → Nat → Int32} {fr : Nat → Option Cell} {g : Nat} {nl nt ng : Nat} (hd : kDk n g nl nt ng) (D : KD) (d : Int32) : k_M X l yX0_powerAt wsX0_powerAt ({ frames := 4, cells := 0, slots := 0, locals := 76 }) [.ref (ad g 0 0), .int d] (k_W X n ad L (k_g C g D) fr) (fun v H => v = some (.int (s_X0_powerAt D nl nt ng d)) ∧ k_W X n ad L (k_g C g D) fr H) 0 0 := by
  refine k_M.of (cc := cX0_powerAt) (maxL := 5) (ret := (some .int)) (by decide) rfl (Nat.le_of_ble_eq_true rfl) ?_
  intro p e s m args below meth c ls hx hb hr hml hown hts hlocks hnm hK hW hl
  have hL : ∀ q ∈ ([] : List Loc), k_B X ≤ q.base := fun _ h => nomatch h
  have hl : lv_has ls 5 [(0, .ref (ad g 0 0)), (1, .int d)] := hl
  have fX0 : ∀ w ∈ u_ws RX0 TX0 5, w.before args s = true := fun w h => hts w ((by decide +kernel : ∀ w ∈ u_ws RX0 TX0 5, w ∈ wsX0_powerAt) w h)
  have fX2 : ∀ w ∈ u_ws RX2 TX2 4, w.before args s = true := fun w h => hts w ((by decide +kernel : ∀ w ∈ u_ws RX2 TX2 4, w ∈ wsX0_powerAt) w h)
  have hl8 := hd.l8
  have ht16 := hd.t16
  have hg4 := hd.g4
  refine lv_iconst (v := 0) hx hb dX0_powerAt_0 (by decide) ?_
  refine lv_istore_n (lv' := [(2, .int 0), (0, .ref (ad g 0 0)), (1, .int d)]) hx hb dX0_powerAt_1 rfl hl (by decide) rfl (fun ls hl => ?_)
  refine lv_iconst (v := 0) hx hb dX0_powerAt_2 (by decide) ?_
  refine lv_istore_n (lv' := [(3, .int 0), (2, .int 0), (0, .ref (ad g 0 0)), (1, .int d)]) hx hb dX0_powerAt_3 rfl hl (by decide) rfl (fun ls hl => ?_)
  refine k_for (ng) (fun k4 H locs ls => ∃ z4 : Int32, z4 = it (f_X0_powerAt_4 D nl nt ng d) k4 0 ∧ k_W X n ad L (k_g C g D) fr H ∧ (∀ q ∈ locs, k_B X ≤ q.base) ∧ lv_has ls 5 [(3, .int (nI k4)), (2, .int z4), (0, .ref (ad g 0 0)), (1, .int d)]) 0 ⟨0, rfl, hW, hL, lv_sub hl [0, 1, 2, 3] rfl⟩ (Nat.zero_le _) (fun k4 hk4 ih4 H locs ls hI => ?_)
  obtain ⟨z4, hz4, hW, hL, hl⟩ := hI
  refine lv_iload_n hx hb dX0_powerAt_4 rfl (lv_at hl 0 rfl) ?_
  refine lv_aload_n hx hb dX0_powerAt_5 rfl (lv_at hl 2 rfl) ?_
  refine k_get (K := RX0) (T := TX0) (N := 5) (v := .ref (ad g 1 2)) (w := .ref (ad g 1 2)) hx hb fX0 hown hK hW 0 0 hd.o (fun _ => rfl) rfl 2 (by decide) (hts (.fieldLink RX0 21 "Crossdockery$Dock" "gangs" "Ljava/util/ArrayList;") (by decide +kernel)) rfl rfl rfl dX0_powerAt_6 ?_
  refine k_callV (As := []) (rest := [.int (nI k4)]) ⟨hx, hb, hml, hown, hts⟩ hK (c_size2 X l hd) (cwV 0 hts gX0_powerAt_Jx4a65c_size_8abf5 rfl rfl rfl (by decide +kernel) ⟨Nat.le_of_ble_eq_true rfl, Nat.le_of_ble_eq_true rfl⟩) (k_recv hK hW 1 2 (hd.li (by decide)) (fun _ => rfl) rfl) hW rfl hl.1 rfl (Nat.le_of_ble_eq_true rfl) dX0_powerAt_9 ⟨Nat.le_of_ble_eq_true rfl, Nat.le_of_ble_eq_true rfl⟩ hL (fun v9 H locs hp hL => ?_)
  obtain ⟨rfl, hW⟩ := hp
  refine lv_icmp_ge (tgt := 55) hx hb dX0_powerAt_12 (by decide) (fun c1 => ?_) (fun c1 => ?_)
  ·
    have hge4 := k_nI_ge (by omega) (by omega) c1
    obtain rfl : ng = k4 := by omega
    replace hz4 : z4 = (l_X0_powerAt_4 D nl nt ng d) := hz4
    subst hz4
    have hl : lv_has ls 5 [(3, .int (nI ng)), (2, .int (l_X0_powerAt_4 D nl nt ng d)), (0, .ref (ad g 0 0)), (1, .int d)] := hl
    refine lv_iload_n hx hb dX0_powerAt_55 rfl (lv_at hl 1 rfl) ?_
    have e9 : (s_X0_powerAt D nl nt ng d) = (l_X0_powerAt_4 D nl nt ng d) := by unfold s_X0_powerAt; first | done | rfl
    exact k_iret hx hb hr hlocks (⟨by rw [e9], hW⟩) hL dX0_powerAt_56
  ·
    have hlt4 : k4 < ng := k_nI_nge (by omega) (by omega) c1
    refine lv_aload_n hx hb dX0_powerAt_15 rfl (lv_at hl 2 rfl) ?_
    refine k_get (K := RX0) (T := TX0) (N := 5) (v := .ref (ad g 1 2)) (w := .ref (ad g 1 2)) hx hb fX0 hown hK hW 0 0 hd.o (fun _ => rfl) rfl 2 (by decide) (hts (.fieldLink RX0 21 "Crossdockery$Dock" "gangs" "Ljava/util/ArrayList;") (by decide +kernel)) rfl rfl rfl dX0_powerAt_16 ?_
    refine lv_iload_n hx hb dX0_powerAt_19 rfl (lv_at hl 0 rfl) ?_
    refine k_callV (As := [.int (nI k4)]) (rest := []) ⟨hx, hb, hml, hown, hts⟩ hK (c_get2 X l hd hW.cap (j := k4) (by omega)) (cwV 1 hts gX0_powerAt_Jx4a65c_get_915e3 rfl rfl rfl (by decide +kernel) ⟨Nat.le_of_ble_eq_true rfl, Nat.le_of_ble_eq_true rfl⟩) (k_recv hK hW 1 2 (hd.li (by decide)) (fun _ => rfl) rfl) hW rfl hl.1 rfl (Nat.le_of_ble_eq_true rfl) dX0_powerAt_20 ⟨Nat.le_of_ble_eq_true rfl, Nat.le_of_ble_eq_true rfl⟩ hL (fun v9 H locs hp hL => ?_)
    obtain ⟨rfl, hW⟩ := hp
    refine k_cast' (K := RX2) (nm := RX2) hx hb hown (hts (.classLink RX0 51 RX2) (by decide +kernel)) hK (List.mem_of_getElem? (i := 6) rfl) (k_recv hK hW 6 k4 (hd.ga (show k4 < ng by omega)) (fun _ => rfl) rfl) dX0_powerAt_23 ?_
    refine lv_astore (lv' := [(4, .ref (ad g 6 k4)), (3, .int (nI k4)), (2, .int z4), (0, .ref (ad g 0 0)), (1, .int d)]) hx hb dX0_powerAt_26 hl (by decide) rfl (fun ls hl => ?_)
    refine lv_aload hx hb dX0_powerAt_28 (lv_at hl 0 rfl) ?_
    refine lv_iload_n hx hb dX0_powerAt_30 rfl (lv_at hl 4 rfl) ?_
    refine lv_aload_n hx hb dX0_powerAt_31 rfl (lv_at hl 3 rfl) ?_
    refine k_get (K := RX0) (T := TX0) (N := 5) (v := .int (D 0 0 4)) (w := .int (D 0 0 4)) hx hb fX0 hown hK hW 0 0 hd.o (fun _ => rfl) rfl 4 (by decide) (hts (.fieldLink RX0 80 "Crossdockery$Dock" "minute" "I") (by decide +kernel)) rfl rfl rfl dX0_powerAt_32 ?_
    refine k_callV (As := [.int d, .int (D 0 0 4)]) (rest := []) ⟨hx, hb, hml, hown, hts⟩ hK (c_X2_worksAt X l hd D k4 (show k4 < ng by omega) d (D 0 0 4)) (cwV 2 hts gX0_powerAt_X2_worksAt rfl rfl rfl (by decide +kernel) ⟨Nat.le_of_ble_eq_true rfl, Nat.le_of_ble_eq_true rfl⟩) (k_recv hK hW 6 k4 (hd.ga (show k4 < ng by omega)) (fun _ => rfl) rfl) hW rfl hl.1 rfl (Nat.le_of_ble_eq_true rfl) dX0_powerAt_35 ⟨Nat.le_of_ble_eq_true rfl, Nat.le_of_ble_eq_true rfl⟩ hL (fun v9 H locs hp hL => ?_)
    obtain ⟨rfl, hW⟩ := hp
    refine lv_if_eq (tgt := 49) hx hb dX0_powerAt_38 (by decide) (fun c2 => ?_) (fun c2 => ?_)
    ·
      refine lv_iinc (v := (nI (k4 + 1))) (k := 1) (lv' := [(3, .int (nI (k4 + 1))), (4, .ref (ad g 6 k4)), (2, .int z4), (0, .ref (ad g 0 0)), (1, .int d)]) hx hb dX0_powerAt_49 hl rfl (nI_1 _) (by decide) rfl (fun ls hl => ?_)
      refine lv_goto (tgt := 4) hx hb dX0_powerAt_52 (by decide) ?_
      have e9 : (f_X0_powerAt_4 D nl nt ng d) k4 z4 = z4 := by unfold f_X0_powerAt_4; first | done | (simp only [if_pos c2]; done) | rfl
      exact ih4 _ _ _ hlt4 ⟨z4, by rw [it_s, ← hz4, e9], hW, hL, lv_sub hl [0, 2, 3, 4] rfl⟩
    ·
      refine lv_iload_n hx hb dX0_powerAt_41 rfl (lv_at hl 2 rfl) ?_
      refine lv_aload hx hb dX0_powerAt_42 (lv_at hl 0 rfl) ?_
      refine k_get (K := RX2) (T := TX2) (N := 4) (v := .int (D 6 k4 0)) (w := .int (D 6 k4 0)) hx hb fX2 hown hK hW 6 k4 (hd.ga (show k4 < ng by omega)) (fun _ => rfl) rfl 0 (by decide) (hts (.fieldLink RX0 245 "Crossdockery$Gang" "speed" "I") (by decide +kernel)) rfl rfl rfl dX0_powerAt_44 ?_
      refine lv_iadd hx hb dX0_powerAt_47 ?_
      refine lv_istore_n (lv' := [(2, .int (z4 + (D 6 k4 0))), (4, .ref (ad g 6 k4)), (3, .int (nI k4)), (0, .ref (ad g 0 0)), (1, .int d)]) hx hb dX0_powerAt_48 rfl hl (by decide) rfl (fun ls hl => ?_)
      refine lv_iinc (v := (nI (k4 + 1))) (k := 2) (lv' := [(3, .int (nI (k4 + 1))), (2, .int (z4 + (D 6 k4 0))), (4, .ref (ad g 6 k4)), (0, .ref (ad g 0 0)), (1, .int d)]) hx hb dX0_powerAt_49 hl rfl (nI_1 _) (by decide) rfl (fun ls hl => ?_)
      refine lv_goto (tgt := 4) hx hb dX0_powerAt_52 (by decide) ?_
      have e9 : (f_X0_powerAt_4 D nl nt ng d) k4 z4 = (z4 + (D 6 k4 0)) := by unfold f_X0_powerAt_4; first | done | (simp only [if_neg c2]; done) | rfl
      exact ih4 _ _ _ hlt4 ⟨(z4 + (D 6 k4 0)), by rw [it_s, ← hz4, e9], hW, hL, lv_sub hl [0, 1, 3, 4] rfl⟩
def s_X0_standingAt (D : KD) (d : Int32) : Int32 := (if d < 0 then (-1) else (if d ≥ 4 then (-1) else (if (D 3 0 (d.toNatClampNeg)) = (-1) then (-1) else D 3 0 (d.toNatClampNeg))))
set_option maxHeartbeats 4000000 in
set_option maxRecDepth 100000 in
theorem c_X0_standingAt (X : kX) (l : Launch) {n : Nat → Nat → Nat} {ad L : Nat → Nat → Nat → Nat} {C : Nat → Nat → Nat → Nat → Int32} {fr : Nat → Option Cell} {g : Nat} {nl nt ng : Nat} (hd : kDk n g nl nt ng) (D : KD) (hwf : cWF D nl nt) (d : Int32) : k_M X l yX0_standingAt wsX0_standingAt ({ frames := 1, cells := 0, slots := 0, locals := 12 }) [.ref (ad g 0 0), .int d] (k_W X n ad L (k_g C g D) fr) (fun v H => v = some (va_rf (k_lr ad g (s_X0_standingAt D d))) ∧ k_W X n ad L (k_g C g D) fr H) 0 0 := by
  refine k_M.of (cc := cX0_standingAt) (maxL := 2) (ret := (some (.object "Crossdockery$Lorry"))) (by decide) rfl (Nat.le_of_ble_eq_true rfl) ?_
  intro p e s m args below meth c ls hx hb hr hml hown hts hlocks hnm hK hW hl
  have hL : ∀ q ∈ ([] : List Loc), k_B X ≤ q.base := fun _ h => nomatch h
  have hl : lv_has ls 2 [(0, .ref (ad g 0 0)), (1, .int d)] := hl
  have fX0 : ∀ w ∈ u_ws RX0 TX0 5, w.before args s = true := fun w h => hts w ((by decide +kernel : ∀ w ∈ u_ws RX0 TX0 5, w ∈ wsX0_standingAt) w h)
  have hl8 := hd.l8
  have ht16 := hd.t16
  have hg4 := hd.g4
  refine lv_iload_n hx hb dX0_standingAt_0 rfl (lv_at hl 1 rfl) ?_
  refine lv_if_lt (tgt := 22) hx hb dX0_standingAt_1 (by decide) (fun c1 => ?_) (fun c1 => ?_)
  ·
    refine lv_null hx hb dX0_standingAt_22 ?_
    have e9 : (s_X0_standingAt D d) = (-1) := by unfold s_X0_standingAt; first | done | (simp only [if_pos c1]; done) | rfl
    exact k_aret (v := none) hx hb hr hlocks (⟨by rw [e9]; exact congrArg (fun z => some (va_rf z)) (k_lr_0 rfl).symm, hW⟩) hL dX0_standingAt_23
  ·
    refine lv_iload_n hx hb dX0_standingAt_4 rfl (lv_at hl 1 rfl) ?_
    refine lv_aload_n hx hb dX0_standingAt_5 rfl (lv_at hl 0 rfl) ?_
    refine k_get (K := RX0) (T := TX0) (N := 5) (v := .ref (ad g 3 0)) (w := .ref (ad g 3 0)) hx hb fX0 hown hK hW 0 0 hd.o (fun _ => rfl) rfl 3 (by decide) (hts (.fieldLink RX0 26 "Crossdockery$Dock" "atDoor" "[LCrossdockery$Lorry;") (by decide +kernel)) rfl rfl rfl dX0_standingAt_6 ?_
    refine k_alen (t0 := 3) (v := 4) hx hb hK hW 3 0 hd.at (fun _ => rfl) rfl rfl dX0_standingAt_9 ?_
    refine lv_icmp_ge (tgt := 22) hx hb dX0_standingAt_10 (by decide) (fun c2 => ?_) (fun c2 => ?_)
    ·
      refine lv_null hx hb dX0_standingAt_22 ?_
      have e9 : (s_X0_standingAt D d) = (-1) := by unfold s_X0_standingAt; first | done | (simp only [if_neg c1, if_pos c2]; done) | rfl
      exact k_aret (v := none) hx hb hr hlocks (⟨by rw [e9]; exact congrArg (fun z => some (va_rf z)) (k_lr_0 rfl).symm, hW⟩) hL dX0_standingAt_23
    ·
      have hin_1 := vp_in_of_nge (N := 4) (by decide) c1 (show ¬ d ≥ nI 4 from c2)
      refine lv_aload_n hx hb dX0_standingAt_13 rfl (lv_at hl 0 rfl) ?_
      refine k_get (K := RX0) (T := TX0) (N := 5) (v := .ref (ad g 3 0)) (w := .ref (ad g 3 0)) hx hb fX0 hown hK hW 0 0 hd.o (fun _ => rfl) rfl 3 (by decide) (hts (.fieldLink RX0 26 "Crossdockery$Dock" "atDoor" "[LCrossdockery$Lorry;") (by decide +kernel)) rfl rfl rfl dX0_standingAt_14 ?_
      refine lv_iload_n hx hb dX0_standingAt_17 rfl (lv_at hl 1 rfl) ?_
      refine k_aald (K := "Crossdockery$Lorry") (t0 := 3) (k := (d.toNatClampNeg)) (v := k_lr ad g (D 3 0 (d.toNatClampNeg))) hx hb hK hW 3 0 hd.at (fun _ => rfl) rfl rfl hin_1 rfl dX0_standingAt_18 ?_
      refine k_opt (fun o4 => ?_) (fun o4 => ?_)
      ·
        refine lv_goto (tgt := 23) hx hb dX0_standingAt_19 (by decide) ?_
        have e9 : (s_X0_standingAt D d) = (-1) := by unfold s_X0_standingAt; first | done | (simp only [if_neg c1, if_neg c2, if_pos o4]; done) | rfl
        exact k_aret (v := none) hx hb hr hlocks (⟨by rw [e9]; exact congrArg (fun z => some (va_rf z)) (k_lr_0 rfl).symm, hW⟩) hL dX0_standingAt_23
      ·
        have hi_o4 : vp_in (D 3 0 (d.toNatClampNeg)) nl := (hwf.ain (by first | omega | exact vp_in.lt (by assumption)) o4)
        refine lv_goto (tgt := 23) hx hb dX0_standingAt_19 (by decide) ?_
        have e9 : (s_X0_standingAt D d) = D 3 0 (d.toNatClampNeg) := by unfold s_X0_standingAt; first | done | (simp only [if_neg c1, if_neg c2, if_neg o4]; done) | rfl
        exact k_aret (v := (some (ad g 4 ((D 3 0 (d.toNatClampNeg)).toNatClampNeg)))) hx hb hr hlocks (⟨by rw [e9]; exact congrArg (fun z => some (va_rf z)) (k_lr_x o4).symm, hW⟩) hL dX0_standingAt_23
def f_X0_lorriesAheadOf_4 (D : KD) (nl : Nat) (nt : Nat) (ng : Nat) (q : Nat) (k4 : Nat) (z4 : Int32) : Int32 := (if (s_X3_isQueuedFor D k4 (D 4 q 4)) = 0 then z4 else (if (s_X3_isAheadOf D k4 q) = 0 then z4 else (z4 + 1)))
def l_X0_lorriesAheadOf_4 (D : KD) (nl : Nat) (nt : Nat) (ng : Nat) (q : Nat) : Int32 := it (f_X0_lorriesAheadOf_4 D nl nt ng q) nl 0
def s_X0_lorriesAheadOf (D : KD) (nl : Nat) (nt : Nat) (ng : Nat) (q : Nat) : Int32 := (l_X0_lorriesAheadOf_4 D nl nt ng q)
set_option maxHeartbeats 4000000 in
set_option maxRecDepth 100000 in
theorem c_X0_lorriesAheadOf (X : kX) (l : Launch) {n : Nat → Nat → Nat} {ad L : Nat → Nat → Nat → Nat} {C : Nat → Nat → Nat → Nat → Int32} {fr : Nat → Option Cell} {g : Nat} {nl nt ng : Nat} (hd : kDk n g nl nt ng) (D : KD) (q : Nat) (h_q : q < nl) : k_M X l yX0_lorriesAheadOf wsX0_lorriesAheadOf ({ frames := 4, cells := 0, slots := 0, locals := 76 }) [.ref (ad g 0 0), .ref (ad g 4 q)] (k_W X n ad L (k_g C g D) fr) (fun v H => v = some (.int (s_X0_lorriesAheadOf D nl nt ng q)) ∧ k_W X n ad L (k_g C g D) fr H) 0 0 := by
  refine k_M.of (cc := cX0_lorriesAheadOf) (maxL := 5) (ret := (some .int)) (by decide) rfl (Nat.le_of_ble_eq_true rfl) ?_
  intro p e s m args below meth c ls hx hb hr hml hown hts hlocks hnm hK hW hl
  have hL : ∀ q ∈ ([] : List Loc), k_B X ≤ q.base := fun _ h => nomatch h
  have hl : lv_has ls 5 [(0, .ref (ad g 0 0)), (1, .ref (ad g 4 q))] := hl
  have fX0 : ∀ w ∈ u_ws RX0 TX0 5, w.before args s = true := fun w h => hts w ((by decide +kernel : ∀ w ∈ u_ws RX0 TX0 5, w ∈ wsX0_lorriesAheadOf) w h)
  have fX3 : ∀ w ∈ u_ws RX3 TX3 15, w.before args s = true := fun w h => hts w ((by decide +kernel : ∀ w ∈ u_ws RX3 TX3 15, w ∈ wsX0_lorriesAheadOf) w h)
  have hl8 := hd.l8
  have ht16 := hd.t16
  have hg4 := hd.g4
  refine lv_iconst (v := 0) hx hb dX0_lorriesAheadOf_0 (by decide) ?_
  refine lv_istore_n (lv' := [(2, .int 0), (0, .ref (ad g 0 0)), (1, .ref (ad g 4 q))]) hx hb dX0_lorriesAheadOf_1 rfl hl (by decide) rfl (fun ls hl => ?_)
  refine lv_iconst (v := 0) hx hb dX0_lorriesAheadOf_2 (by decide) ?_
  refine lv_istore_n (lv' := [(3, .int 0), (2, .int 0), (0, .ref (ad g 0 0)), (1, .ref (ad g 4 q))]) hx hb dX0_lorriesAheadOf_3 rfl hl (by decide) rfl (fun ls hl => ?_)
  refine k_for (nl) (fun k4 H locs ls => ∃ z4 : Int32, z4 = it (f_X0_lorriesAheadOf_4 D nl nt ng q) k4 0 ∧ k_W X n ad L (k_g C g D) fr H ∧ (∀ q ∈ locs, k_B X ≤ q.base) ∧ lv_has ls 5 [(3, .int (nI k4)), (2, .int z4), (0, .ref (ad g 0 0)), (1, .ref (ad g 4 q))]) 0 ⟨0, rfl, hW, hL, lv_sub hl [0, 1, 2, 3] rfl⟩ (Nat.zero_le _) (fun k4 hk4 ih4 H locs ls hI => ?_)
  obtain ⟨z4, hz4, hW, hL, hl⟩ := hI
  refine lv_iload_n hx hb dX0_lorriesAheadOf_4 rfl (lv_at hl 0 rfl) ?_
  refine lv_aload_n hx hb dX0_lorriesAheadOf_5 rfl (lv_at hl 2 rfl) ?_
  refine k_get (K := RX0) (T := TX0) (N := 5) (v := .ref (ad g 1 0)) (w := .ref (ad g 1 0)) hx hb fX0 hown hK hW 0 0 hd.o (fun _ => rfl) rfl 0 (by decide) (hts (.fieldLink RX0 12 "Crossdockery$Dock" "lorries" "Ljava/util/ArrayList;") (by decide +kernel)) rfl rfl rfl dX0_lorriesAheadOf_6 ?_
  refine k_callV (As := []) (rest := [.int (nI k4)]) ⟨hx, hb, hml, hown, hts⟩ hK (c_size0 X l hd) (cwV 0 hts gX0_lorriesAheadOf_Jx4a65c_size_8abf5 rfl rfl rfl (by decide +kernel) ⟨Nat.le_of_ble_eq_true rfl, Nat.le_of_ble_eq_true rfl⟩) (k_recv hK hW 1 0 (hd.li (by decide)) (fun _ => rfl) rfl) hW rfl hl.1 rfl (Nat.le_of_ble_eq_true rfl) dX0_lorriesAheadOf_9 ⟨Nat.le_of_ble_eq_true rfl, Nat.le_of_ble_eq_true rfl⟩ hL (fun v9 H locs hp hL => ?_)
  obtain ⟨rfl, hW⟩ := hp
  refine lv_icmp_ge (tgt := 58) hx hb dX0_lorriesAheadOf_12 (by decide) (fun c1 => ?_) (fun c1 => ?_)
  ·
    have hge4 := k_nI_ge (by omega) (by omega) c1
    obtain rfl : nl = k4 := by omega
    replace hz4 : z4 = (l_X0_lorriesAheadOf_4 D nl nt ng q) := hz4
    subst hz4
    have hl : lv_has ls 5 [(3, .int (nI nl)), (2, .int (l_X0_lorriesAheadOf_4 D nl nt ng q)), (0, .ref (ad g 0 0)), (1, .ref (ad g 4 q))] := hl
    refine lv_iload_n hx hb dX0_lorriesAheadOf_58 rfl (lv_at hl 1 rfl) ?_
    have e9 : (s_X0_lorriesAheadOf D nl nt ng q) = (l_X0_lorriesAheadOf_4 D nl nt ng q) := by unfold s_X0_lorriesAheadOf; first | done | rfl
    exact k_iret hx hb hr hlocks (⟨by rw [e9], hW⟩) hL dX0_lorriesAheadOf_59
  ·
    have hlt4 : k4 < nl := k_nI_nge (by omega) (by omega) c1
    refine lv_aload_n hx hb dX0_lorriesAheadOf_15 rfl (lv_at hl 2 rfl) ?_
    refine k_get (K := RX0) (T := TX0) (N := 5) (v := .ref (ad g 1 0)) (w := .ref (ad g 1 0)) hx hb fX0 hown hK hW 0 0 hd.o (fun _ => rfl) rfl 0 (by decide) (hts (.fieldLink RX0 12 "Crossdockery$Dock" "lorries" "Ljava/util/ArrayList;") (by decide +kernel)) rfl rfl rfl dX0_lorriesAheadOf_16 ?_
    refine lv_iload_n hx hb dX0_lorriesAheadOf_19 rfl (lv_at hl 0 rfl) ?_
    refine k_callV (As := [.int (nI k4)]) (rest := []) ⟨hx, hb, hml, hown, hts⟩ hK (c_get0 X l hd hW.cap (j := k4) (by omega)) (cwV 1 hts gX0_lorriesAheadOf_Jx4a65c_get_915e3 rfl rfl rfl (by decide +kernel) ⟨Nat.le_of_ble_eq_true rfl, Nat.le_of_ble_eq_true rfl⟩) (k_recv hK hW 1 0 (hd.li (by decide)) (fun _ => rfl) rfl) hW rfl hl.1 rfl (Nat.le_of_ble_eq_true rfl) dX0_lorriesAheadOf_20 ⟨Nat.le_of_ble_eq_true rfl, Nat.le_of_ble_eq_true rfl⟩ hL (fun v9 H locs hp hL => ?_)
    obtain ⟨rfl, hW⟩ := hp
    refine k_cast' (K := RX3) (nm := RX3) hx hb hown (hts (.classLink RX0 24 RX3) (by decide +kernel)) hK (List.mem_of_getElem? (i := 4) rfl) (k_recv hK hW 4 k4 (hd.lo (show k4 < nl by omega)) (fun _ => rfl) rfl) dX0_lorriesAheadOf_23 ?_
    refine lv_astore (lv' := [(4, .ref (ad g 4 k4)), (3, .int (nI k4)), (2, .int z4), (0, .ref (ad g 0 0)), (1, .ref (ad g 4 q))]) hx hb dX0_lorriesAheadOf_26 hl (by decide) rfl (fun ls hl => ?_)
    refine lv_aload hx hb dX0_lorriesAheadOf_28 (lv_at hl 0 rfl) ?_
    refine lv_aload_n hx hb dX0_lorriesAheadOf_30 rfl (lv_at hl 4 rfl) ?_
    refine k_get (K := RX3) (T := TX3) (N := 15) (v := .int (D 4 q 4)) (w := .int (D 4 q 4)) hx hb fX3 hown hK hW 4 q (hd.lo h_q) (fun _ => rfl) rfl 4 (by decide) (hts (.fieldLink RX0 229 "Crossdockery$Lorry" "door" "I") (by decide +kernel)) rfl rfl rfl dX0_lorriesAheadOf_31 ?_
    refine k_callV (As := [.int (D 4 q 4)]) (rest := []) ⟨hx, hb, hml, hown, hts⟩ hK (c_X3_isQueuedFor X l hd D k4 (show k4 < nl by omega) (D 4 q 4)) (cwV 1 hts gX0_lorriesAheadOf_X3_isQueuedFor rfl rfl rfl (by decide +kernel) ⟨Nat.le_of_ble_eq_true rfl, Nat.le_of_ble_eq_true rfl⟩) (k_recv hK hW 4 k4 (hd.lo (show k4 < nl by omega)) (fun _ => rfl) rfl) hW rfl hl.1 rfl (Nat.le_of_ble_eq_true rfl) dX0_lorriesAheadOf_34 ⟨Nat.le_of_ble_eq_true rfl, Nat.le_of_ble_eq_true rfl⟩ hL (fun v9 H locs hp hL => ?_)
    obtain ⟨rfl, hW⟩ := hp
    refine lv_if_eq (tgt := 52) hx hb dX0_lorriesAheadOf_37 (by decide) (fun c2 => ?_) (fun c2 => ?_)
    ·
      refine lv_iinc (v := (nI (k4 + 1))) (k := 1) (lv' := [(3, .int (nI (k4 + 1))), (4, .ref (ad g 4 k4)), (2, .int z4), (0, .ref (ad g 0 0)), (1, .ref (ad g 4 q))]) hx hb dX0_lorriesAheadOf_52 hl rfl (nI_1 _) (by decide) rfl (fun ls hl => ?_)
      refine lv_goto (tgt := 4) hx hb dX0_lorriesAheadOf_55 (by decide) ?_
      have e9 : (f_X0_lorriesAheadOf_4 D nl nt ng q) k4 z4 = z4 := by unfold f_X0_lorriesAheadOf_4; first | done | (simp only [if_pos c2]; done) | rfl
      exact ih4 _ _ _ hlt4 ⟨z4, by rw [it_s, ← hz4, e9], hW, hL, lv_sub hl [0, 2, 3, 4] rfl⟩
    ·
      refine lv_aload hx hb dX0_lorriesAheadOf_40 (lv_at hl 0 rfl) ?_
      refine lv_aload_n hx hb dX0_lorriesAheadOf_42 rfl (lv_at hl 4 rfl) ?_
      refine k_callV (As := [.ref (ad g 4 q)]) (rest := []) ⟨hx, hb, hml, hown, hts⟩ hK (c_X3_isAheadOf X l hd D k4 (show k4 < nl by omega) q h_q) (cwV 1 hts gX0_lorriesAheadOf_X3_isAheadOf rfl rfl rfl (by decide +kernel) ⟨Nat.le_of_ble_eq_true rfl, Nat.le_of_ble_eq_true rfl⟩) (k_recv hK hW 4 k4 (hd.lo (show k4 < nl by omega)) (fun _ => rfl) rfl) hW rfl hl.1 rfl (Nat.le_of_ble_eq_true rfl) dX0_lorriesAheadOf_43 ⟨Nat.le_of_ble_eq_true rfl, Nat.le_of_ble_eq_true rfl⟩ hL (fun v9 H locs hp hL => ?_)
      obtain ⟨rfl, hW⟩ := hp
      refine lv_if_eq (tgt := 52) hx hb dX0_lorriesAheadOf_46 (by decide) (fun c3 => ?_) (fun c3 => ?_)
      ·
        refine lv_iinc (v := (nI (k4 + 1))) (k := 1) (lv' := [(3, .int (nI (k4 + 1))), (4, .ref (ad g 4 k4)), (2, .int z4), (0, .ref (ad g 0 0)), (1, .ref (ad g 4 q))]) hx hb dX0_lorriesAheadOf_52 hl rfl (nI_1 _) (by decide) rfl (fun ls hl => ?_)
        refine lv_goto (tgt := 4) hx hb dX0_lorriesAheadOf_55 (by decide) ?_
        have e9 : (f_X0_lorriesAheadOf_4 D nl nt ng q) k4 z4 = z4 := by unfold f_X0_lorriesAheadOf_4; first | done | (simp only [if_neg c2, if_pos c3]; done) | rfl
        exact ih4 _ _ _ hlt4 ⟨z4, by rw [it_s, ← hz4, e9], hW, hL, lv_sub hl [0, 2, 3, 4] rfl⟩
      ·
        refine lv_iinc (v := (z4 + 1)) (k := 2) (lv' := [(2, .int (z4 + 1)), (4, .ref (ad g 4 k4)), (3, .int (nI k4)), (0, .ref (ad g 0 0)), (1, .ref (ad g 4 q))]) hx hb dX0_lorriesAheadOf_49 hl rfl (rfl) (by decide) rfl (fun ls hl => ?_)
        refine lv_iinc (v := (nI (k4 + 1))) (k := 2) (lv' := [(3, .int (nI (k4 + 1))), (2, .int (z4 + 1)), (4, .ref (ad g 4 k4)), (0, .ref (ad g 0 0)), (1, .ref (ad g 4 q))]) hx hb dX0_lorriesAheadOf_52 hl rfl (nI_1 _) (by decide) rfl (fun ls hl => ?_)
        refine lv_goto (tgt := 4) hx hb dX0_lorriesAheadOf_55 (by decide) ?_
        have e9 : (f_X0_lorriesAheadOf_4 D nl nt ng q) k4 z4 = (z4 + 1) := by unfold f_X0_lorriesAheadOf_4; first | done | (simp only [if_neg c2, if_neg c3]; done) | rfl
        exact ih4 _ _ _ hlt4 ⟨(z4 + 1), by rw [it_s, ← hz4, e9], hW, hL, lv_sub hl [0, 1, 3, 4] rfl⟩
def r_X0_queuedFor_2 (D : KD) (nl : Nat) (nt : Nat) (ng : Nat) (d : Int32) (pl : Int32) : Nat → Nat → Int32
  | 0, k2 => (-1)
  | f2 + 1, k2 => (if (s_X3_isQueuedFor D k2 d) = 0 then r_X0_queuedFor_2 D nl nt ng d pl f2 (k2 + 1)  else (if (s_X0_lorriesAheadOf D nl nt ng k2) = pl then nI k2 else r_X0_queuedFor_2 D nl nt ng d pl f2 (k2 + 1) ))
theorem r_X0_queuedFor_2_0 (D : KD) (nl : Nat) (nt : Nat) (ng : Nat) (d : Int32) (pl : Int32) (k2 : Nat)  : r_X0_queuedFor_2 D nl nt ng d pl 0 k2  = (-1) := rfl
theorem r_X0_queuedFor_2_s (D : KD) (nl : Nat) (nt : Nat) (ng : Nat) (d : Int32) (pl : Int32) (f2 k2 : Nat)  : r_X0_queuedFor_2 D nl nt ng d pl (f2 + 1) k2  = (if (s_X3_isQueuedFor D k2 d) = 0 then r_X0_queuedFor_2 D nl nt ng d pl f2 (k2 + 1)  else (if (s_X0_lorriesAheadOf D nl nt ng k2) = pl then nI k2 else r_X0_queuedFor_2 D nl nt ng d pl f2 (k2 + 1) )) := rfl
def s_X0_queuedFor (D : KD) (nl : Nat) (nt : Nat) (ng : Nat) (d : Int32) (pl : Int32) : Int32 := r_X0_queuedFor_2 D nl nt ng d pl (nl - 0) 0 
set_option maxHeartbeats 4000000 in
set_option maxRecDepth 100000 in
theorem c_X0_queuedFor (X : kX) (l : Launch) {n : Nat → Nat → Nat} {ad L : Nat → Nat → Nat → Nat} {C : Nat → Nat → Nat → Nat → Int32} {fr : Nat → Option Cell} {g : Nat} {nl nt ng : Nat} (hd : kDk n g nl nt ng) (D : KD) (d : Int32) (pl : Int32) : k_M X l yX0_queuedFor wsX0_queuedFor ({ frames := 5, cells := 0, slots := 0, locals := 100 }) [.ref (ad g 0 0), .int d, .int pl] (k_W X n ad L (k_g C g D) fr) (fun v H => v = some (va_rf (k_lr ad g (s_X0_queuedFor D nl nt ng d pl))) ∧ k_W X n ad L (k_g C g D) fr H) 0 0 := by
  refine k_M.of (cc := cX0_queuedFor) (maxL := 5) (ret := (some (.object "Crossdockery$Lorry"))) (by decide) rfl (Nat.le_of_ble_eq_true rfl) ?_
  intro p e s m args below meth c ls hx hb hr hml hown hts hlocks hnm hK hW hl
  have hL : ∀ q ∈ ([] : List Loc), k_B X ≤ q.base := fun _ h => nomatch h
  have hl : lv_has ls 5 [(0, .ref (ad g 0 0)), (1, .int d), (2, .int pl)] := hl
  have fX0 : ∀ w ∈ u_ws RX0 TX0 5, w.before args s = true := fun w h => hts w ((by decide +kernel : ∀ w ∈ u_ws RX0 TX0 5, w ∈ wsX0_queuedFor) w h)
  have hl8 := hd.l8
  have ht16 := hd.t16
  have hg4 := hd.g4
  refine lv_iconst (v := 0) hx hb dX0_queuedFor_0 (by decide) ?_
  refine lv_istore_n (lv' := [(3, .int 0), (0, .ref (ad g 0 0)), (1, .int d), (2, .int pl)]) hx hb dX0_queuedFor_1 rfl hl (by decide) rfl (fun ls hl => ?_)
  refine k_for (nl) (fun k2 H locs ls => ∃ z2 : Unit, (s_X0_queuedFor D nl nt ng d pl) = (r_X0_queuedFor_2 D nl nt ng d pl) (nl - k2) k2  ∧ k_W X n ad L (k_g C g D) fr H ∧ (∀ q ∈ locs, k_B X ≤ q.base) ∧ lv_has ls 5 [(3, .int (nI k2)), (0, .ref (ad g 0 0)), (1, .int d), (2, .int pl)]) 0 ⟨(), by unfold s_X0_queuedFor; first | done | rfl, hW, hL, lv_sub hl [0, 1, 2, 3] rfl⟩ (Nat.zero_le _) (fun k2 hk2 ih2 H locs ls hI => ?_)
  obtain ⟨z2, hz2, hW, hL, hl⟩ := hI
  refine lv_iload_n hx hb dX0_queuedFor_2 rfl (lv_at hl 0 rfl) ?_
  refine lv_aload_n hx hb dX0_queuedFor_3 rfl (lv_at hl 1 rfl) ?_
  refine k_get (K := RX0) (T := TX0) (N := 5) (v := .ref (ad g 1 0)) (w := .ref (ad g 1 0)) hx hb fX0 hown hK hW 0 0 hd.o (fun _ => rfl) rfl 0 (by decide) (hts (.fieldLink RX0 12 "Crossdockery$Dock" "lorries" "Ljava/util/ArrayList;") (by decide +kernel)) rfl rfl rfl dX0_queuedFor_4 ?_
  refine k_callV (As := []) (rest := [.int (nI k2)]) ⟨hx, hb, hml, hown, hts⟩ hK (c_size0 X l hd) (cwV 0 hts gX0_queuedFor_Jx4a65c_size_8abf5 rfl rfl rfl (by decide +kernel) ⟨Nat.le_of_ble_eq_true rfl, Nat.le_of_ble_eq_true rfl⟩) (k_recv hK hW 1 0 (hd.li (by decide)) (fun _ => rfl) rfl) hW rfl hl.1 rfl (Nat.le_of_ble_eq_true rfl) dX0_queuedFor_7 ⟨Nat.le_of_ble_eq_true rfl, Nat.le_of_ble_eq_true rfl⟩ hL (fun v9 H locs hp hL => ?_)
  obtain ⟨rfl, hW⟩ := hp
  refine lv_icmp_ge (tgt := 54) hx hb dX0_queuedFor_10 (by decide) (fun c1 => ?_) (fun c1 => ?_)
  ·
    have hge2 := k_nI_ge (by omega) (by omega) c1
    obtain rfl : nl = k2 := by omega
    rw [show nl - nl = 0 by omega] at hz2
    refine lv_null hx hb dX0_queuedFor_54 ?_
    have e9 : (s_X0_queuedFor D nl nt ng d pl) = (-1) := by rw [hz2, r_X0_queuedFor_2_0]; first | done | rfl
    exact k_aret (v := none) hx hb hr hlocks (⟨by rw [e9]; exact congrArg (fun z => some (va_rf z)) (k_lr_0 rfl).symm, hW⟩) hL dX0_queuedFor_55
  ·
    have hlt2 : k2 < nl := k_nI_nge (by omega) (by omega) c1
    obtain ⟨f2, hf2⟩ : ∃ f, nl - k2 = f + 1 := ⟨nl - k2 - 1, by omega⟩
    refine lv_aload_n hx hb dX0_queuedFor_13 rfl (lv_at hl 1 rfl) ?_
    refine k_get (K := RX0) (T := TX0) (N := 5) (v := .ref (ad g 1 0)) (w := .ref (ad g 1 0)) hx hb fX0 hown hK hW 0 0 hd.o (fun _ => rfl) rfl 0 (by decide) (hts (.fieldLink RX0 12 "Crossdockery$Dock" "lorries" "Ljava/util/ArrayList;") (by decide +kernel)) rfl rfl rfl dX0_queuedFor_14 ?_
    refine lv_iload_n hx hb dX0_queuedFor_17 rfl (lv_at hl 0 rfl) ?_
    refine k_callV (As := [.int (nI k2)]) (rest := []) ⟨hx, hb, hml, hown, hts⟩ hK (c_get0 X l hd hW.cap (j := k2) (by omega)) (cwV 1 hts gX0_queuedFor_Jx4a65c_get_915e3 rfl rfl rfl (by decide +kernel) ⟨Nat.le_of_ble_eq_true rfl, Nat.le_of_ble_eq_true rfl⟩) (k_recv hK hW 1 0 (hd.li (by decide)) (fun _ => rfl) rfl) hW rfl hl.1 rfl (Nat.le_of_ble_eq_true rfl) dX0_queuedFor_18 ⟨Nat.le_of_ble_eq_true rfl, Nat.le_of_ble_eq_true rfl⟩ hL (fun v9 H locs hp hL => ?_)
    obtain ⟨rfl, hW⟩ := hp
    refine k_cast' (K := RX3) (nm := RX3) hx hb hown (hts (.classLink RX0 24 RX3) (by decide +kernel)) hK (List.mem_of_getElem? (i := 4) rfl) (k_recv hK hW 4 k2 (hd.lo (show k2 < nl by omega)) (fun _ => rfl) rfl) dX0_queuedFor_21 ?_
    refine lv_astore (lv' := [(4, .ref (ad g 4 k2)), (3, .int (nI k2)), (0, .ref (ad g 0 0)), (1, .int d), (2, .int pl)]) hx hb dX0_queuedFor_24 hl (by decide) rfl (fun ls hl => ?_)
    refine lv_aload hx hb dX0_queuedFor_26 (lv_at hl 0 rfl) ?_
    refine lv_iload_n hx hb dX0_queuedFor_28 rfl (lv_at hl 3 rfl) ?_
    refine k_callV (As := [.int d]) (rest := []) ⟨hx, hb, hml, hown, hts⟩ hK (c_X3_isQueuedFor X l hd D k2 (show k2 < nl by omega) d) (cwV 1 hts gX0_queuedFor_X3_isQueuedFor rfl rfl rfl (by decide +kernel) ⟨Nat.le_of_ble_eq_true rfl, Nat.le_of_ble_eq_true rfl⟩) (k_recv hK hW 4 k2 (hd.lo (show k2 < nl by omega)) (fun _ => rfl) rfl) hW rfl hl.1 rfl (Nat.le_of_ble_eq_true rfl) dX0_queuedFor_29 ⟨Nat.le_of_ble_eq_true rfl, Nat.le_of_ble_eq_true rfl⟩ hL (fun v9 H locs hp hL => ?_)
    obtain ⟨rfl, hW⟩ := hp
    refine lv_if_eq (tgt := 48) hx hb dX0_queuedFor_32 (by decide) (fun c2 => ?_) (fun c2 => ?_)
    ·
      refine lv_iinc (v := (nI (k2 + 1))) (k := 1) (lv' := [(3, .int (nI (k2 + 1))), (4, .ref (ad g 4 k2)), (0, .ref (ad g 0 0)), (1, .int d), (2, .int pl)]) hx hb dX0_queuedFor_48 hl rfl (nI_1 _) (by decide) rfl (fun ls hl => ?_)
      refine lv_goto (tgt := 2) hx hb dX0_queuedFor_51 (by decide) ?_
      have e9 : (s_X0_queuedFor D nl nt ng d pl) = (r_X0_queuedFor_2 D nl nt ng d pl) f2 (k2 + 1)  := by rw [hz2, hf2, r_X0_queuedFor_2_s]; first | done | (simp only [if_pos c2]; done) | rfl
      exact ih2 _ _ _ hlt2 ⟨(), by rw [e9, show nl - (k2 + 1) = f2 by omega], hW, hL, lv_sub hl [0, 2, 3, 4] rfl⟩
    ·
      refine lv_aload_n hx hb dX0_queuedFor_35 rfl (lv_at hl 2 rfl) ?_
      refine lv_aload hx hb dX0_queuedFor_36 (lv_at hl 0 rfl) ?_
      refine k_callV (As := [.ref (ad g 4 k2)]) (rest := []) ⟨hx, hb, hml, hown, hts⟩ hK (c_X0_lorriesAheadOf X l hd D k2 (show k2 < nl by omega)) (cwV 1 hts gX0_queuedFor_X0_lorriesAheadOf rfl rfl rfl (by decide +kernel) ⟨Nat.le_of_ble_eq_true rfl, Nat.le_of_ble_eq_true rfl⟩) (k_recv hK hW 0 0 hd.o (fun _ => rfl) rfl) hW rfl hl.1 rfl (Nat.le_of_ble_eq_true rfl) dX0_queuedFor_38 ⟨Nat.le_of_ble_eq_true rfl, Nat.le_of_ble_eq_true rfl⟩ hL (fun v9 H locs hp hL => ?_)
      obtain ⟨rfl, hW⟩ := hp
      refine lv_iload_n hx hb dX0_queuedFor_41 rfl (lv_at hl 4 rfl) ?_
      refine lv_icmp_ne (tgt := 48) hx hb dX0_queuedFor_42 (by decide) (fun c3 => ?_) (fun c3 => ?_)
      ·
        refine lv_iinc (v := (nI (k2 + 1))) (k := 1) (lv' := [(3, .int (nI (k2 + 1))), (4, .ref (ad g 4 k2)), (0, .ref (ad g 0 0)), (1, .int d), (2, .int pl)]) hx hb dX0_queuedFor_48 hl rfl (nI_1 _) (by decide) rfl (fun ls hl => ?_)
        refine lv_goto (tgt := 2) hx hb dX0_queuedFor_51 (by decide) ?_
        have e9 : (s_X0_queuedFor D nl nt ng d pl) = (r_X0_queuedFor_2 D nl nt ng d pl) f2 (k2 + 1)  := by rw [hz2, hf2, r_X0_queuedFor_2_s]; first | done | (simp only [if_neg c2, if_neg c3]; done) | rfl
        exact ih2 _ _ _ hlt2 ⟨(), by rw [e9, show nl - (k2 + 1) = f2 by omega], hW, hL, lv_sub hl [0, 2, 3, 4] rfl⟩
      ·
        refine lv_aload hx hb dX0_queuedFor_45 (lv_at hl 0 rfl) ?_
        have e9 : (s_X0_queuedFor D nl nt ng d pl) = nI k2 := by rw [hz2, hf2, r_X0_queuedFor_2_s]; first | done | (simp only [if_neg c2, if_pos c3]; done) | rfl
        exact k_aret (v := (some (ad g 4 k2))) hx hb hr hlocks (⟨by rw [e9]; exact congrArg (fun z => some (va_rf z)) (k_lr_n (by omega)).symm, hW⟩) hL dX0_queuedFor_47
def f_X0_lorriesInYard_4 (D : KD) (nl : Nat) (nt : Nat) (ng : Nat) (k4 : Nat) (z4 : Int32) : Int32 := (if (D 4 k4 5) = 121 then (z4 + 1) else z4)
def l_X0_lorriesInYard_4 (D : KD) (nl : Nat) (nt : Nat) (ng : Nat) : Int32 := it (f_X0_lorriesInYard_4 D nl nt ng) nl 0
def s_X0_lorriesInYard (D : KD) (nl : Nat) (nt : Nat) (ng : Nat) : Int32 := (l_X0_lorriesInYard_4 D nl nt ng)
set_option maxHeartbeats 4000000 in
set_option maxRecDepth 100000 in
theorem c_X0_lorriesInYard (X : kX) (l : Launch) {n : Nat → Nat → Nat} {ad L : Nat → Nat → Nat → Nat} {C : Nat → Nat → Nat → Nat → Int32} {fr : Nat → Option Cell} {g : Nat} {nl nt ng : Nat} (hd : kDk n g nl nt ng) (D : KD) : k_M X l yX0_lorriesInYard wsX0_lorriesInYard ({ frames := 4, cells := 0, slots := 0, locals := 76 }) [.ref (ad g 0 0)] (k_W X n ad L (k_g C g D) fr) (fun v H => v = some (.int (s_X0_lorriesInYard D nl nt ng)) ∧ k_W X n ad L (k_g C g D) fr H) 0 0 := by
  refine k_M.of (cc := cX0_lorriesInYard) (maxL := 3) (ret := (some .int)) (by decide) rfl (Nat.le_of_ble_eq_true rfl) ?_
  intro p e s m args below meth c ls hx hb hr hml hown hts hlocks hnm hK hW hl
  have hL : ∀ q ∈ ([] : List Loc), k_B X ≤ q.base := fun _ h => nomatch h
  have hl : lv_has ls 3 [(0, .ref (ad g 0 0))] := hl
  have fX0 : ∀ w ∈ u_ws RX0 TX0 5, w.before args s = true := fun w h => hts w ((by decide +kernel : ∀ w ∈ u_ws RX0 TX0 5, w ∈ wsX0_lorriesInYard) w h)
  have fX3 : ∀ w ∈ u_ws RX3 TX3 15, w.before args s = true := fun w h => hts w ((by decide +kernel : ∀ w ∈ u_ws RX3 TX3 15, w ∈ wsX0_lorriesInYard) w h)
  have hl8 := hd.l8
  have ht16 := hd.t16
  have hg4 := hd.g4
  refine lv_iconst (v := 0) hx hb dX0_lorriesInYard_0 (by decide) ?_
  refine lv_istore_n (lv' := [(1, .int 0), (0, .ref (ad g 0 0))]) hx hb dX0_lorriesInYard_1 rfl hl (by decide) rfl (fun ls hl => ?_)
  refine lv_iconst (v := 0) hx hb dX0_lorriesInYard_2 (by decide) ?_
  refine lv_istore_n (lv' := [(2, .int 0), (1, .int 0), (0, .ref (ad g 0 0))]) hx hb dX0_lorriesInYard_3 rfl hl (by decide) rfl (fun ls hl => ?_)
  refine k_for (nl) (fun k4 H locs ls => ∃ z4 : Int32, z4 = it (f_X0_lorriesInYard_4 D nl nt ng) k4 0 ∧ k_W X n ad L (k_g C g D) fr H ∧ (∀ q ∈ locs, k_B X ≤ q.base) ∧ lv_has ls 3 [(2, .int (nI k4)), (1, .int z4), (0, .ref (ad g 0 0))]) 0 ⟨0, rfl, hW, hL, lv_sub hl [0, 1, 2] rfl⟩ (Nat.zero_le _) (fun k4 hk4 ih4 H locs ls hI => ?_)
  obtain ⟨z4, hz4, hW, hL, hl⟩ := hI
  refine lv_iload_n hx hb dX0_lorriesInYard_4 rfl (lv_at hl 0 rfl) ?_
  refine lv_aload_n hx hb dX0_lorriesInYard_5 rfl (lv_at hl 2 rfl) ?_
  refine k_get (K := RX0) (T := TX0) (N := 5) (v := .ref (ad g 1 0)) (w := .ref (ad g 1 0)) hx hb fX0 hown hK hW 0 0 hd.o (fun _ => rfl) rfl 0 (by decide) (hts (.fieldLink RX0 12 "Crossdockery$Dock" "lorries" "Ljava/util/ArrayList;") (by decide +kernel)) rfl rfl rfl dX0_lorriesInYard_6 ?_
  refine k_callV (As := []) (rest := [.int (nI k4)]) ⟨hx, hb, hml, hown, hts⟩ hK (c_size0 X l hd) (cwV 0 hts gX0_lorriesInYard_Jx4a65c_size_8abf5 rfl rfl rfl (by decide +kernel) ⟨Nat.le_of_ble_eq_true rfl, Nat.le_of_ble_eq_true rfl⟩) (k_recv hK hW 1 0 (hd.li (by decide)) (fun _ => rfl) rfl) hW rfl hl.1 rfl (Nat.le_of_ble_eq_true rfl) dX0_lorriesInYard_9 ⟨Nat.le_of_ble_eq_true rfl, Nat.le_of_ble_eq_true rfl⟩ hL (fun v9 H locs hp hL => ?_)
  obtain ⟨rfl, hW⟩ := hp
  refine lv_icmp_ge (tgt := 43) hx hb dX0_lorriesInYard_12 (by decide) (fun c1 => ?_) (fun c1 => ?_)
  ·
    have hge4 := k_nI_ge (by omega) (by omega) c1
    obtain rfl : nl = k4 := by omega
    replace hz4 : z4 = (l_X0_lorriesInYard_4 D nl nt ng) := hz4
    subst hz4
    have hl : lv_has ls 3 [(2, .int (nI nl)), (1, .int (l_X0_lorriesInYard_4 D nl nt ng)), (0, .ref (ad g 0 0))] := hl
    refine lv_iload_n hx hb dX0_lorriesInYard_43 rfl (lv_at hl 1 rfl) ?_
    have e9 : (s_X0_lorriesInYard D nl nt ng) = (l_X0_lorriesInYard_4 D nl nt ng) := by unfold s_X0_lorriesInYard; first | done | rfl
    exact k_iret hx hb hr hlocks (⟨by rw [e9], hW⟩) hL dX0_lorriesInYard_44
  ·
    have hlt4 : k4 < nl := k_nI_nge (by omega) (by omega) c1
    refine lv_aload_n hx hb dX0_lorriesInYard_15 rfl (lv_at hl 2 rfl) ?_
    refine k_get (K := RX0) (T := TX0) (N := 5) (v := .ref (ad g 1 0)) (w := .ref (ad g 1 0)) hx hb fX0 hown hK hW 0 0 hd.o (fun _ => rfl) rfl 0 (by decide) (hts (.fieldLink RX0 12 "Crossdockery$Dock" "lorries" "Ljava/util/ArrayList;") (by decide +kernel)) rfl rfl rfl dX0_lorriesInYard_16 ?_
    refine lv_iload_n hx hb dX0_lorriesInYard_19 rfl (lv_at hl 0 rfl) ?_
    refine k_callV (As := [.int (nI k4)]) (rest := []) ⟨hx, hb, hml, hown, hts⟩ hK (c_get0 X l hd hW.cap (j := k4) (by omega)) (cwV 1 hts gX0_lorriesInYard_Jx4a65c_get_915e3 rfl rfl rfl (by decide +kernel) ⟨Nat.le_of_ble_eq_true rfl, Nat.le_of_ble_eq_true rfl⟩) (k_recv hK hW 1 0 (hd.li (by decide)) (fun _ => rfl) rfl) hW rfl hl.1 rfl (Nat.le_of_ble_eq_true rfl) dX0_lorriesInYard_20 ⟨Nat.le_of_ble_eq_true rfl, Nat.le_of_ble_eq_true rfl⟩ hL (fun v9 H locs hp hL => ?_)
    obtain ⟨rfl, hW⟩ := hp
    refine k_cast' (K := RX3) (nm := RX3) hx hb hown (hts (.classLink RX0 24 RX3) (by decide +kernel)) hK (List.mem_of_getElem? (i := 4) rfl) (k_recv hK hW 4 k4 (hd.lo (show k4 < nl by omega)) (fun _ => rfl) rfl) dX0_lorriesInYard_23 ?_
    refine k_get (K := RX3) (T := TX3) (N := 15) (v := .int (D 4 k4 5)) (w := .int (D 4 k4 5)) hx hb fX3 hown hK hW 4 k4 (hd.lo (show k4 < nl by omega)) (fun _ => rfl) rfl 5 (by decide) (hts (.fieldLink RX0 154 "Crossdockery$Lorry" "state" "C") (by decide +kernel)) rfl rfl rfl dX0_lorriesInYard_26 ?_
    refine lv_bipush (v := 121) hx hb dX0_lorriesInYard_29 (by decide) ?_
    refine lv_icmp_ne (tgt := 37) hx hb dX0_lorriesInYard_31 (by decide) (fun c2 => ?_) (fun c2 => ?_)
    ·
      refine lv_iinc (v := (nI (k4 + 1))) (k := 0) (lv' := [(2, .int (nI (k4 + 1))), (1, .int z4), (0, .ref (ad g 0 0))]) hx hb dX0_lorriesInYard_37 hl rfl (nI_1 _) (by decide) rfl (fun ls hl => ?_)
      refine lv_goto (tgt := 4) hx hb dX0_lorriesInYard_40 (by decide) ?_
      have e9 : (f_X0_lorriesInYard_4 D nl nt ng) k4 z4 = z4 := by unfold f_X0_lorriesInYard_4; first | done | (simp only [if_neg c2]; done) | rfl
      exact ih4 _ _ _ hlt4 ⟨z4, by rw [it_s, ← hz4, e9], hW, hL, lv_sub hl [0, 1, 2] rfl⟩
    ·
      refine lv_iinc (v := (z4 + 1)) (k := 1) (lv' := [(1, .int (z4 + 1)), (2, .int (nI k4)), (0, .ref (ad g 0 0))]) hx hb dX0_lorriesInYard_34 hl rfl (rfl) (by decide) rfl (fun ls hl => ?_)
      refine lv_iinc (v := (nI (k4 + 1))) (k := 1) (lv' := [(2, .int (nI (k4 + 1))), (1, .int (z4 + 1)), (0, .ref (ad g 0 0))]) hx hb dX0_lorriesInYard_37 hl rfl (nI_1 _) (by decide) rfl (fun ls hl => ?_)
      refine lv_goto (tgt := 4) hx hb dX0_lorriesInYard_40 (by decide) ?_
      have e9 : (f_X0_lorriesInYard_4 D nl nt ng) k4 z4 = (z4 + 1) := by unfold f_X0_lorriesInYard_4; first | done | (simp only [if_pos c2]; done) | rfl
      exact ih4 _ _ _ hlt4 ⟨(z4 + 1), by rw [it_s, ← hz4, e9], hW, hL, lv_sub hl [0, 1, 2] rfl⟩
def f_X0_openUnits_4 (D : KD) (nl : Nat) (nt : Nat) (ng : Nat) (i : Nat) (k4 : Nat) (z4 : Int32) : Int32 := (if (s_X5_isOf D k4 i) = 0 then z4 else (z4 + (s_X5_openFor D k4 i)))
def l_X0_openUnits_4 (D : KD) (nl : Nat) (nt : Nat) (ng : Nat) (i : Nat) : Int32 := it (f_X0_openUnits_4 D nl nt ng i) nt 0
def s_X0_openUnits (D : KD) (nl : Nat) (nt : Nat) (ng : Nat) (i : Nat) : Int32 := (l_X0_openUnits_4 D nl nt ng i)
set_option maxHeartbeats 4000000 in
set_option maxRecDepth 100000 in
theorem c_X0_openUnits (X : kX) (l : Launch) {n : Nat → Nat → Nat} {ad L : Nat → Nat → Nat → Nat} {C : Nat → Nat → Nat → Nat → Int32} {fr : Nat → Option Cell} {g : Nat} {nl nt ng : Nat} (hd : kDk n g nl nt ng) (D : KD) (hwf : cWF D nl nt) (i : Nat) (h_i : i < nl) : k_M X l yX0_openUnits wsX0_openUnits ({ frames := 4, cells := 0, slots := 0, locals := 76 }) [.ref (ad g 0 0), .ref (ad g 4 i)] (k_W X n ad L (k_g C g D) fr) (fun v H => v = some (.int (s_X0_openUnits D nl nt ng i)) ∧ k_W X n ad L (k_g C g D) fr H) 0 0 := by
  refine k_M.of (cc := cX0_openUnits) (maxL := 5) (ret := (some .int)) (by decide) rfl (Nat.le_of_ble_eq_true rfl) ?_
  intro p e s m args below meth c ls hx hb hr hml hown hts hlocks hnm hK hW hl
  have hL : ∀ q ∈ ([] : List Loc), k_B X ≤ q.base := fun _ h => nomatch h
  have hl : lv_has ls 5 [(0, .ref (ad g 0 0)), (1, .ref (ad g 4 i))] := hl
  have fX0 : ∀ w ∈ u_ws RX0 TX0 5, w.before args s = true := fun w h => hts w ((by decide +kernel : ∀ w ∈ u_ws RX0 TX0 5, w ∈ wsX0_openUnits) w h)
  have hl8 := hd.l8
  have ht16 := hd.t16
  have hg4 := hd.g4
  refine lv_iconst (v := 0) hx hb dX0_openUnits_0 (by decide) ?_
  refine lv_istore_n (lv' := [(2, .int 0), (0, .ref (ad g 0 0)), (1, .ref (ad g 4 i))]) hx hb dX0_openUnits_1 rfl hl (by decide) rfl (fun ls hl => ?_)
  refine lv_iconst (v := 0) hx hb dX0_openUnits_2 (by decide) ?_
  refine lv_istore_n (lv' := [(3, .int 0), (2, .int 0), (0, .ref (ad g 0 0)), (1, .ref (ad g 4 i))]) hx hb dX0_openUnits_3 rfl hl (by decide) rfl (fun ls hl => ?_)
  refine k_for (nt) (fun k4 H locs ls => ∃ z4 : Int32, z4 = it (f_X0_openUnits_4 D nl nt ng i) k4 0 ∧ k_W X n ad L (k_g C g D) fr H ∧ (∀ q ∈ locs, k_B X ≤ q.base) ∧ lv_has ls 5 [(3, .int (nI k4)), (2, .int z4), (0, .ref (ad g 0 0)), (1, .ref (ad g 4 i))]) 0 ⟨0, rfl, hW, hL, lv_sub hl [0, 1, 2, 3] rfl⟩ (Nat.zero_le _) (fun k4 hk4 ih4 H locs ls hI => ?_)
  obtain ⟨z4, hz4, hW, hL, hl⟩ := hI
  refine lv_iload_n hx hb dX0_openUnits_4 rfl (lv_at hl 0 rfl) ?_
  refine lv_aload_n hx hb dX0_openUnits_5 rfl (lv_at hl 2 rfl) ?_
  refine k_get (K := RX0) (T := TX0) (N := 5) (v := .ref (ad g 1 1)) (w := .ref (ad g 1 1)) hx hb fX0 hown hK hW 0 0 hd.o (fun _ => rfl) rfl 1 (by decide) (hts (.fieldLink RX0 18 "Crossdockery$Dock" "transfers" "Ljava/util/ArrayList;") (by decide +kernel)) rfl rfl rfl dX0_openUnits_6 ?_
  refine k_callV (As := []) (rest := [.int (nI k4)]) ⟨hx, hb, hml, hown, hts⟩ hK (c_size1 X l hd) (cwV 0 hts gX0_openUnits_Jx4a65c_size_8abf5 rfl rfl rfl (by decide +kernel) ⟨Nat.le_of_ble_eq_true rfl, Nat.le_of_ble_eq_true rfl⟩) (k_recv hK hW 1 1 (hd.li (by decide)) (fun _ => rfl) rfl) hW rfl hl.1 rfl (Nat.le_of_ble_eq_true rfl) dX0_openUnits_9 ⟨Nat.le_of_ble_eq_true rfl, Nat.le_of_ble_eq_true rfl⟩ hL (fun v9 H locs hp hL => ?_)
  obtain ⟨rfl, hW⟩ := hp
  refine lv_icmp_ge (tgt := 52) hx hb dX0_openUnits_12 (by decide) (fun c1 => ?_) (fun c1 => ?_)
  ·
    have hge4 := k_nI_ge (by omega) (by omega) c1
    obtain rfl : nt = k4 := by omega
    replace hz4 : z4 = (l_X0_openUnits_4 D nl nt ng i) := hz4
    subst hz4
    have hl : lv_has ls 5 [(3, .int (nI nt)), (2, .int (l_X0_openUnits_4 D nl nt ng i)), (0, .ref (ad g 0 0)), (1, .ref (ad g 4 i))] := hl
    refine lv_iload_n hx hb dX0_openUnits_52 rfl (lv_at hl 1 rfl) ?_
    have e9 : (s_X0_openUnits D nl nt ng i) = (l_X0_openUnits_4 D nl nt ng i) := by unfold s_X0_openUnits; first | done | rfl
    exact k_iret hx hb hr hlocks (⟨by rw [e9], hW⟩) hL dX0_openUnits_53
  ·
    have hlt4 : k4 < nt := k_nI_nge (by omega) (by omega) c1
    refine lv_aload_n hx hb dX0_openUnits_15 rfl (lv_at hl 2 rfl) ?_
    refine k_get (K := RX0) (T := TX0) (N := 5) (v := .ref (ad g 1 1)) (w := .ref (ad g 1 1)) hx hb fX0 hown hK hW 0 0 hd.o (fun _ => rfl) rfl 1 (by decide) (hts (.fieldLink RX0 18 "Crossdockery$Dock" "transfers" "Ljava/util/ArrayList;") (by decide +kernel)) rfl rfl rfl dX0_openUnits_16 ?_
    refine lv_iload_n hx hb dX0_openUnits_19 rfl (lv_at hl 0 rfl) ?_
    refine k_callV (As := [.int (nI k4)]) (rest := []) ⟨hx, hb, hml, hown, hts⟩ hK (c_get1 X l hd hW.cap (j := k4) (by omega)) (cwV 1 hts gX0_openUnits_Jx4a65c_get_915e3 rfl rfl rfl (by decide +kernel) ⟨Nat.le_of_ble_eq_true rfl, Nat.le_of_ble_eq_true rfl⟩) (k_recv hK hW 1 1 (hd.li (by decide)) (fun _ => rfl) rfl) hW rfl hl.1 rfl (Nat.le_of_ble_eq_true rfl) dX0_openUnits_20 ⟨Nat.le_of_ble_eq_true rfl, Nat.le_of_ble_eq_true rfl⟩ hL (fun v9 H locs hp hL => ?_)
    obtain ⟨rfl, hW⟩ := hp
    refine k_cast' (K := RX5) (nm := RX5) hx hb hown (hts (.classLink RX0 47 RX5) (by decide +kernel)) hK (List.mem_of_getElem? (i := 5) rfl) (k_recv hK hW 5 k4 (hd.tr (show k4 < nt by omega)) (fun _ => rfl) rfl) dX0_openUnits_23 ?_
    refine lv_astore (lv' := [(4, .ref (ad g 5 k4)), (3, .int (nI k4)), (2, .int z4), (0, .ref (ad g 0 0)), (1, .ref (ad g 4 i))]) hx hb dX0_openUnits_26 hl (by decide) rfl (fun ls hl => ?_)
    refine lv_aload hx hb dX0_openUnits_28 (lv_at hl 0 rfl) ?_
    refine lv_aload_n hx hb dX0_openUnits_30 rfl (lv_at hl 4 rfl) ?_
    refine k_callV (As := [.ref (ad g 4 i)]) (rest := []) ⟨hx, hb, hml, hown, hts⟩ hK (c_X5_isOf X l hd D hwf k4 (show k4 < nt by omega) i h_i) (cwV 1 hts gX0_openUnits_X5_isOf rfl rfl rfl (by decide +kernel) ⟨Nat.le_of_ble_eq_true rfl, Nat.le_of_ble_eq_true rfl⟩) (k_recv hK hW 5 k4 (hd.tr (show k4 < nt by omega)) (fun _ => rfl) rfl) hW rfl hl.1 rfl (Nat.le_of_ble_eq_true rfl) dX0_openUnits_31 ⟨Nat.le_of_ble_eq_true rfl, Nat.le_of_ble_eq_true rfl⟩ hL (fun v9 H locs hp hL => ?_)
    obtain ⟨rfl, hW⟩ := hp
    refine lv_if_eq (tgt := 46) hx hb dX0_openUnits_34 (by decide) (fun c2 => ?_) (fun c2 => ?_)
    ·
      refine lv_iinc (v := (nI (k4 + 1))) (k := 1) (lv' := [(3, .int (nI (k4 + 1))), (4, .ref (ad g 5 k4)), (2, .int z4), (0, .ref (ad g 0 0)), (1, .ref (ad g 4 i))]) hx hb dX0_openUnits_46 hl rfl (nI_1 _) (by decide) rfl (fun ls hl => ?_)
      refine lv_goto (tgt := 4) hx hb dX0_openUnits_49 (by decide) ?_
      have e9 : (f_X0_openUnits_4 D nl nt ng i) k4 z4 = z4 := by unfold f_X0_openUnits_4; first | done | (simp only [if_pos c2]; done) | rfl
      exact ih4 _ _ _ hlt4 ⟨z4, by rw [it_s, ← hz4, e9], hW, hL, lv_sub hl [0, 2, 3, 4] rfl⟩
    ·
      refine lv_iload_n hx hb dX0_openUnits_37 rfl (lv_at hl 2 rfl) ?_
      refine lv_aload hx hb dX0_openUnits_38 (lv_at hl 0 rfl) ?_
      refine lv_aload_n hx hb dX0_openUnits_40 rfl (lv_at hl 4 rfl) ?_
      refine k_callV (As := [.ref (ad g 4 i)]) (rest := [.int z4]) ⟨hx, hb, hml, hown, hts⟩ hK (c_X5_openFor X l hd D k4 (show k4 < nt by omega) i h_i) (cwV 1 hts gX0_openUnits_X5_openFor rfl rfl rfl (by decide +kernel) ⟨Nat.le_of_ble_eq_true rfl, Nat.le_of_ble_eq_true rfl⟩) (k_recv hK hW 5 k4 (hd.tr (show k4 < nt by omega)) (fun _ => rfl) rfl) hW rfl hl.1 rfl (Nat.le_of_ble_eq_true rfl) dX0_openUnits_41 ⟨Nat.le_of_ble_eq_true rfl, Nat.le_of_ble_eq_true rfl⟩ hL (fun v9 H locs hp hL => ?_)
      obtain ⟨rfl, hW⟩ := hp
      refine lv_iadd hx hb dX0_openUnits_44 ?_
      refine lv_istore_n (lv' := [(2, .int (z4 + (s_X5_openFor D k4 i))), (4, .ref (ad g 5 k4)), (3, .int (nI k4)), (0, .ref (ad g 0 0)), (1, .ref (ad g 4 i))]) hx hb dX0_openUnits_45 rfl hl (by decide) rfl (fun ls hl => ?_)
      refine lv_iinc (v := (nI (k4 + 1))) (k := 2) (lv' := [(3, .int (nI (k4 + 1))), (2, .int (z4 + (s_X5_openFor D k4 i))), (4, .ref (ad g 5 k4)), (0, .ref (ad g 0 0)), (1, .ref (ad g 4 i))]) hx hb dX0_openUnits_46 hl rfl (nI_1 _) (by decide) rfl (fun ls hl => ?_)
      refine lv_goto (tgt := 4) hx hb dX0_openUnits_49 (by decide) ?_
      have e9 : (f_X0_openUnits_4 D nl nt ng i) k4 z4 = (z4 + (s_X5_openFor D k4 i)) := by unfold f_X0_openUnits_4; first | done | (simp only [if_neg c2]; done) | rfl
      exact ih4 _ _ _ hlt4 ⟨(z4 + (s_X5_openFor D k4 i)), by rw [it_s, ← hz4, e9], hW, hL, lv_sub hl [0, 1, 3, 4] rfl⟩
def f_X0_unitsLeftBehind_4 (D : KD) (nl : Nat) (nt : Nat) (ng : Nat) (k4 : Nat) (z4 : Int32) : Int32 := (if (D 4 ((D 5 k4 1).toNatClampNeg) 5) = 108 then (z4 + ((D 5 k4 2) - (D 5 k4 5))) else z4)
def l_X0_unitsLeftBehind_4 (D : KD) (nl : Nat) (nt : Nat) (ng : Nat) : Int32 := it (f_X0_unitsLeftBehind_4 D nl nt ng) nt 0
def s_X0_unitsLeftBehind (D : KD) (nl : Nat) (nt : Nat) (ng : Nat) : Int32 := (l_X0_unitsLeftBehind_4 D nl nt ng)
set_option maxHeartbeats 4000000 in
set_option maxRecDepth 100000 in
theorem c_X0_unitsLeftBehind (X : kX) (l : Launch) {n : Nat → Nat → Nat} {ad L : Nat → Nat → Nat → Nat} {C : Nat → Nat → Nat → Nat → Int32} {fr : Nat → Option Cell} {g : Nat} {nl nt ng : Nat} (hd : kDk n g nl nt ng) (D : KD) (hwf : cWF D nl nt) : k_M X l yX0_unitsLeftBehind wsX0_unitsLeftBehind ({ frames := 4, cells := 0, slots := 0, locals := 76 }) [.ref (ad g 0 0)] (k_W X n ad L (k_g C g D) fr) (fun v H => v = some (.int (s_X0_unitsLeftBehind D nl nt ng)) ∧ k_W X n ad L (k_g C g D) fr H) 0 0 := by
  refine k_M.of (cc := cX0_unitsLeftBehind) (maxL := 4) (ret := (some .int)) (by decide) rfl (Nat.le_of_ble_eq_true rfl) ?_
  intro p e s m args below meth c ls hx hb hr hml hown hts hlocks hnm hK hW hl
  have hL : ∀ q ∈ ([] : List Loc), k_B X ≤ q.base := fun _ h => nomatch h
  have hl : lv_has ls 4 [(0, .ref (ad g 0 0))] := hl
  have fX0 : ∀ w ∈ u_ws RX0 TX0 5, w.before args s = true := fun w h => hts w ((by decide +kernel : ∀ w ∈ u_ws RX0 TX0 5, w ∈ wsX0_unitsLeftBehind) w h)
  have fX5 : ∀ w ∈ u_ws RX5 TX5 7, w.before args s = true := fun w h => hts w ((by decide +kernel : ∀ w ∈ u_ws RX5 TX5 7, w ∈ wsX0_unitsLeftBehind) w h)
  have fX3 : ∀ w ∈ u_ws RX3 TX3 15, w.before args s = true := fun w h => hts w ((by decide +kernel : ∀ w ∈ u_ws RX3 TX3 15, w ∈ wsX0_unitsLeftBehind) w h)
  have hl8 := hd.l8
  have ht16 := hd.t16
  have hg4 := hd.g4
  refine lv_iconst (v := 0) hx hb dX0_unitsLeftBehind_0 (by decide) ?_
  refine lv_istore_n (lv' := [(1, .int 0), (0, .ref (ad g 0 0))]) hx hb dX0_unitsLeftBehind_1 rfl hl (by decide) rfl (fun ls hl => ?_)
  refine lv_iconst (v := 0) hx hb dX0_unitsLeftBehind_2 (by decide) ?_
  refine lv_istore_n (lv' := [(2, .int 0), (1, .int 0), (0, .ref (ad g 0 0))]) hx hb dX0_unitsLeftBehind_3 rfl hl (by decide) rfl (fun ls hl => ?_)
  refine k_for (nt) (fun k4 H locs ls => ∃ z4 : Int32, z4 = it (f_X0_unitsLeftBehind_4 D nl nt ng) k4 0 ∧ k_W X n ad L (k_g C g D) fr H ∧ (∀ q ∈ locs, k_B X ≤ q.base) ∧ lv_has ls 4 [(2, .int (nI k4)), (1, .int z4), (0, .ref (ad g 0 0))]) 0 ⟨0, rfl, hW, hL, lv_sub hl [0, 1, 2] rfl⟩ (Nat.zero_le _) (fun k4 hk4 ih4 H locs ls hI => ?_)
  obtain ⟨z4, hz4, hW, hL, hl⟩ := hI
  refine lv_iload_n hx hb dX0_unitsLeftBehind_4 rfl (lv_at hl 0 rfl) ?_
  refine lv_aload_n hx hb dX0_unitsLeftBehind_5 rfl (lv_at hl 2 rfl) ?_
  refine k_get (K := RX0) (T := TX0) (N := 5) (v := .ref (ad g 1 1)) (w := .ref (ad g 1 1)) hx hb fX0 hown hK hW 0 0 hd.o (fun _ => rfl) rfl 1 (by decide) (hts (.fieldLink RX0 18 "Crossdockery$Dock" "transfers" "Ljava/util/ArrayList;") (by decide +kernel)) rfl rfl rfl dX0_unitsLeftBehind_6 ?_
  refine k_callV (As := []) (rest := [.int (nI k4)]) ⟨hx, hb, hml, hown, hts⟩ hK (c_size1 X l hd) (cwV 0 hts gX0_unitsLeftBehind_Jx4a65c_size_8abf5 rfl rfl rfl (by decide +kernel) ⟨Nat.le_of_ble_eq_true rfl, Nat.le_of_ble_eq_true rfl⟩) (k_recv hK hW 1 1 (hd.li (by decide)) (fun _ => rfl) rfl) hW rfl hl.1 rfl (Nat.le_of_ble_eq_true rfl) dX0_unitsLeftBehind_9 ⟨Nat.le_of_ble_eq_true rfl, Nat.le_of_ble_eq_true rfl⟩ hL (fun v9 H locs hp hL => ?_)
  obtain ⟨rfl, hW⟩ := hp
  refine lv_icmp_ge (tgt := 57) hx hb dX0_unitsLeftBehind_12 (by decide) (fun c1 => ?_) (fun c1 => ?_)
  ·
    have hge4 := k_nI_ge (by omega) (by omega) c1
    obtain rfl : nt = k4 := by omega
    replace hz4 : z4 = (l_X0_unitsLeftBehind_4 D nl nt ng) := hz4
    subst hz4
    have hl : lv_has ls 4 [(2, .int (nI nt)), (1, .int (l_X0_unitsLeftBehind_4 D nl nt ng)), (0, .ref (ad g 0 0))] := hl
    refine lv_iload_n hx hb dX0_unitsLeftBehind_57 rfl (lv_at hl 1 rfl) ?_
    have e9 : (s_X0_unitsLeftBehind D nl nt ng) = (l_X0_unitsLeftBehind_4 D nl nt ng) := by unfold s_X0_unitsLeftBehind; first | done | rfl
    exact k_iret hx hb hr hlocks (⟨by rw [e9], hW⟩) hL dX0_unitsLeftBehind_58
  ·
    have hlt4 : k4 < nt := k_nI_nge (by omega) (by omega) c1
    refine lv_aload_n hx hb dX0_unitsLeftBehind_15 rfl (lv_at hl 2 rfl) ?_
    refine k_get (K := RX0) (T := TX0) (N := 5) (v := .ref (ad g 1 1)) (w := .ref (ad g 1 1)) hx hb fX0 hown hK hW 0 0 hd.o (fun _ => rfl) rfl 1 (by decide) (hts (.fieldLink RX0 18 "Crossdockery$Dock" "transfers" "Ljava/util/ArrayList;") (by decide +kernel)) rfl rfl rfl dX0_unitsLeftBehind_16 ?_
    refine lv_iload_n hx hb dX0_unitsLeftBehind_19 rfl (lv_at hl 0 rfl) ?_
    refine k_callV (As := [.int (nI k4)]) (rest := []) ⟨hx, hb, hml, hown, hts⟩ hK (c_get1 X l hd hW.cap (j := k4) (by omega)) (cwV 1 hts gX0_unitsLeftBehind_Jx4a65c_get_915e3 rfl rfl rfl (by decide +kernel) ⟨Nat.le_of_ble_eq_true rfl, Nat.le_of_ble_eq_true rfl⟩) (k_recv hK hW 1 1 (hd.li (by decide)) (fun _ => rfl) rfl) hW rfl hl.1 rfl (Nat.le_of_ble_eq_true rfl) dX0_unitsLeftBehind_20 ⟨Nat.le_of_ble_eq_true rfl, Nat.le_of_ble_eq_true rfl⟩ hL (fun v9 H locs hp hL => ?_)
    obtain ⟨rfl, hW⟩ := hp
    refine k_cast' (K := RX5) (nm := RX5) hx hb hown (hts (.classLink RX0 47 RX5) (by decide +kernel)) hK (List.mem_of_getElem? (i := 5) rfl) (k_recv hK hW 5 k4 (hd.tr (show k4 < nt by omega)) (fun _ => rfl) rfl) dX0_unitsLeftBehind_23 ?_
    refine lv_astore_n (lv' := [(3, .ref (ad g 5 k4)), (2, .int (nI k4)), (1, .int z4), (0, .ref (ad g 0 0))]) hx hb dX0_unitsLeftBehind_26 rfl hl (by decide) rfl (fun ls hl => ?_)
    refine lv_aload_n hx hb dX0_unitsLeftBehind_27 rfl (lv_at hl 0 rfl) ?_
    refine k_get (K := RX5) (T := TX5) (N := 7) (v := .ref (ad g 4 ((D 5 k4 1).toNatClampNeg))) (w := .ref (ad g 4 ((D 5 k4 1).toNatClampNeg))) hx hb fX5 hown hK hW 5 k4 (hd.tr (show k4 < nt by omega)) (fun _ => rfl) rfl 1 (by decide) (hts (.fieldLink RX0 199 "Crossdockery$Transfer" "to" "LCrossdockery$Lorry;") (by decide +kernel)) rfl rfl rfl dX0_unitsLeftBehind_28 ?_
    refine k_get (K := RX3) (T := TX3) (N := 15) (v := .int (D 4 ((D 5 k4 1).toNatClampNeg) 5)) (w := .int (D 4 ((D 5 k4 1).toNatClampNeg) 5)) hx hb fX3 hown hK hW 4 ((D 5 k4 1).toNatClampNeg) (hd.lo (hwf.to (show k4 < nt by omega))) (fun _ => rfl) rfl 5 (by decide) (hts (.fieldLink RX0 154 "Crossdockery$Lorry" "state" "C") (by decide +kernel)) rfl rfl rfl dX0_unitsLeftBehind_31 ?_
    refine lv_bipush (v := 108) hx hb dX0_unitsLeftBehind_34 (by decide) ?_
    refine lv_icmp_ne (tgt := 51) hx hb dX0_unitsLeftBehind_36 (by decide) (fun c2 => ?_) (fun c2 => ?_)
    ·
      refine lv_iinc (v := (nI (k4 + 1))) (k := 1) (lv' := [(2, .int (nI (k4 + 1))), (3, .ref (ad g 5 k4)), (1, .int z4), (0, .ref (ad g 0 0))]) hx hb dX0_unitsLeftBehind_51 hl rfl (nI_1 _) (by decide) rfl (fun ls hl => ?_)
      refine lv_goto (tgt := 4) hx hb dX0_unitsLeftBehind_54 (by decide) ?_
      have e9 : (f_X0_unitsLeftBehind_4 D nl nt ng) k4 z4 = z4 := by unfold f_X0_unitsLeftBehind_4; first | done | (simp only [if_neg c2]; done) | rfl
      exact ih4 _ _ _ hlt4 ⟨z4, by rw [it_s, ← hz4, e9], hW, hL, lv_sub hl [0, 2, 3] rfl⟩
    ·
      refine lv_iload_n hx hb dX0_unitsLeftBehind_39 rfl (lv_at hl 2 rfl) ?_
      refine lv_aload_n hx hb dX0_unitsLeftBehind_40 rfl (lv_at hl 0 rfl) ?_
      refine k_get (K := RX5) (T := TX5) (N := 7) (v := .int (D 5 k4 2)) (w := .int (D 5 k4 2)) hx hb fX5 hown hK hW 5 k4 (hd.tr (show k4 < nt by omega)) (fun _ => rfl) rfl 2 (by decide) (hts (.fieldLink RX0 206 "Crossdockery$Transfer" "units" "I") (by decide +kernel)) rfl rfl rfl dX0_unitsLeftBehind_41 ?_
      refine lv_aload_n hx hb dX0_unitsLeftBehind_44 rfl (lv_at hl 0 rfl) ?_
      refine k_get (K := RX5) (T := TX5) (N := 7) (v := .int (D 5 k4 5)) (w := .int (D 5 k4 5)) hx hb fX5 hown hK hW 5 k4 (hd.tr (show k4 < nt by omega)) (fun _ => rfl) rfl 5 (by decide) (hts (.fieldLink RX0 260 "Crossdockery$Transfer" "loaded" "I") (by decide +kernel)) rfl rfl rfl dX0_unitsLeftBehind_45 ?_
      refine lv_isub hx hb dX0_unitsLeftBehind_48 ?_
      refine lv_iadd hx hb dX0_unitsLeftBehind_49 ?_
      refine lv_istore_n (lv' := [(1, .int (z4 + ((D 5 k4 2) - (D 5 k4 5)))), (3, .ref (ad g 5 k4)), (2, .int (nI k4)), (0, .ref (ad g 0 0))]) hx hb dX0_unitsLeftBehind_50 rfl hl (by decide) rfl (fun ls hl => ?_)
      refine lv_iinc (v := (nI (k4 + 1))) (k := 2) (lv' := [(2, .int (nI (k4 + 1))), (1, .int (z4 + ((D 5 k4 2) - (D 5 k4 5)))), (3, .ref (ad g 5 k4)), (0, .ref (ad g 0 0))]) hx hb dX0_unitsLeftBehind_51 hl rfl (nI_1 _) (by decide) rfl (fun ls hl => ?_)
      refine lv_goto (tgt := 4) hx hb dX0_unitsLeftBehind_54 (by decide) ?_
      have e9 : (f_X0_unitsLeftBehind_4 D nl nt ng) k4 z4 = (z4 + ((D 5 k4 2) - (D 5 k4 5))) := by unfold f_X0_unitsLeftBehind_4; first | done | (simp only [if_pos c2]; done) | rfl
      exact ih4 _ _ _ hlt4 ⟨(z4 + ((D 5 k4 2) - (D 5 k4 5))), by rw [it_s, ← hz4, e9], hW, hL, lv_sub hl [0, 1, 3] rfl⟩
def f_X0_waysOfTransfers_4 (D : KD) (nl : Nat) (nt : Nat) (ng : Nat) (k4 : Nat) (z4 : Int32) : Int32 := (z4 + (s_X5_way D k4))
def l_X0_waysOfTransfers_4 (D : KD) (nl : Nat) (nt : Nat) (ng : Nat) : Int32 := it (f_X0_waysOfTransfers_4 D nl nt ng) nt 0
def s_X0_waysOfTransfers (D : KD) (nl : Nat) (nt : Nat) (ng : Nat) : Int32 := (l_X0_waysOfTransfers_4 D nl nt ng)
set_option maxHeartbeats 4000000 in
set_option maxRecDepth 100000 in
theorem c_X0_waysOfTransfers (X : kX) (l : Launch) {n : Nat → Nat → Nat} {ad L : Nat → Nat → Nat → Nat} {C : Nat → Nat → Nat → Nat → Int32} {fr : Nat → Option Cell} {g : Nat} {nl nt ng : Nat} (hd : kDk n g nl nt ng) (D : KD) (hwf : cWF D nl nt) : k_M X l yX0_waysOfTransfers wsX0_waysOfTransfers ({ frames := 4, cells := 0, slots := 0, locals := 76 }) [.ref (ad g 0 0)] (k_W X n ad L (k_g C g D) fr) (fun v H => v = some (.int (s_X0_waysOfTransfers D nl nt ng)) ∧ k_W X n ad L (k_g C g D) fr H) 0 0 := by
  refine k_M.of (cc := cX0_waysOfTransfers) (maxL := 3) (ret := (some .int)) (by decide) rfl (Nat.le_of_ble_eq_true rfl) ?_
  intro p e s m args below meth c ls hx hb hr hml hown hts hlocks hnm hK hW hl
  have hL : ∀ q ∈ ([] : List Loc), k_B X ≤ q.base := fun _ h => nomatch h
  have hl : lv_has ls 3 [(0, .ref (ad g 0 0))] := hl
  have fX0 : ∀ w ∈ u_ws RX0 TX0 5, w.before args s = true := fun w h => hts w ((by decide +kernel : ∀ w ∈ u_ws RX0 TX0 5, w ∈ wsX0_waysOfTransfers) w h)
  have hl8 := hd.l8
  have ht16 := hd.t16
  have hg4 := hd.g4
  refine lv_iconst (v := 0) hx hb dX0_waysOfTransfers_0 (by decide) ?_
  refine lv_istore_n (lv' := [(1, .int 0), (0, .ref (ad g 0 0))]) hx hb dX0_waysOfTransfers_1 rfl hl (by decide) rfl (fun ls hl => ?_)
  refine lv_iconst (v := 0) hx hb dX0_waysOfTransfers_2 (by decide) ?_
  refine lv_istore_n (lv' := [(2, .int 0), (1, .int 0), (0, .ref (ad g 0 0))]) hx hb dX0_waysOfTransfers_3 rfl hl (by decide) rfl (fun ls hl => ?_)
  refine k_for (nt) (fun k4 H locs ls => ∃ z4 : Int32, z4 = it (f_X0_waysOfTransfers_4 D nl nt ng) k4 0 ∧ k_W X n ad L (k_g C g D) fr H ∧ (∀ q ∈ locs, k_B X ≤ q.base) ∧ lv_has ls 3 [(2, .int (nI k4)), (1, .int z4), (0, .ref (ad g 0 0))]) 0 ⟨0, rfl, hW, hL, lv_sub hl [0, 1, 2] rfl⟩ (Nat.zero_le _) (fun k4 hk4 ih4 H locs ls hI => ?_)
  obtain ⟨z4, hz4, hW, hL, hl⟩ := hI
  refine lv_iload_n hx hb dX0_waysOfTransfers_4 rfl (lv_at hl 0 rfl) ?_
  refine lv_aload_n hx hb dX0_waysOfTransfers_5 rfl (lv_at hl 2 rfl) ?_
  refine k_get (K := RX0) (T := TX0) (N := 5) (v := .ref (ad g 1 1)) (w := .ref (ad g 1 1)) hx hb fX0 hown hK hW 0 0 hd.o (fun _ => rfl) rfl 1 (by decide) (hts (.fieldLink RX0 18 "Crossdockery$Dock" "transfers" "Ljava/util/ArrayList;") (by decide +kernel)) rfl rfl rfl dX0_waysOfTransfers_6 ?_
  refine k_callV (As := []) (rest := [.int (nI k4)]) ⟨hx, hb, hml, hown, hts⟩ hK (c_size1 X l hd) (cwV 0 hts gX0_waysOfTransfers_Jx4a65c_size_8abf5 rfl rfl rfl (by decide +kernel) ⟨Nat.le_of_ble_eq_true rfl, Nat.le_of_ble_eq_true rfl⟩) (k_recv hK hW 1 1 (hd.li (by decide)) (fun _ => rfl) rfl) hW rfl hl.1 rfl (Nat.le_of_ble_eq_true rfl) dX0_waysOfTransfers_9 ⟨Nat.le_of_ble_eq_true rfl, Nat.le_of_ble_eq_true rfl⟩ hL (fun v9 H locs hp hL => ?_)
  obtain ⟨rfl, hW⟩ := hp
  refine lv_icmp_ge (tgt := 38) hx hb dX0_waysOfTransfers_12 (by decide) (fun c1 => ?_) (fun c1 => ?_)
  ·
    have hge4 := k_nI_ge (by omega) (by omega) c1
    obtain rfl : nt = k4 := by omega
    replace hz4 : z4 = (l_X0_waysOfTransfers_4 D nl nt ng) := hz4
    subst hz4
    have hl : lv_has ls 3 [(2, .int (nI nt)), (1, .int (l_X0_waysOfTransfers_4 D nl nt ng)), (0, .ref (ad g 0 0))] := hl
    refine lv_iload_n hx hb dX0_waysOfTransfers_38 rfl (lv_at hl 1 rfl) ?_
    have e9 : (s_X0_waysOfTransfers D nl nt ng) = (l_X0_waysOfTransfers_4 D nl nt ng) := by unfold s_X0_waysOfTransfers; first | done | rfl
    exact k_iret hx hb hr hlocks (⟨by rw [e9], hW⟩) hL dX0_waysOfTransfers_39
  ·
    have hlt4 : k4 < nt := k_nI_nge (by omega) (by omega) c1
    refine lv_iload_n hx hb dX0_waysOfTransfers_15 rfl (lv_at hl 1 rfl) ?_
    refine lv_aload_n hx hb dX0_waysOfTransfers_16 rfl (lv_at hl 2 rfl) ?_
    refine k_get (K := RX0) (T := TX0) (N := 5) (v := .ref (ad g 1 1)) (w := .ref (ad g 1 1)) hx hb fX0 hown hK hW 0 0 hd.o (fun _ => rfl) rfl 1 (by decide) (hts (.fieldLink RX0 18 "Crossdockery$Dock" "transfers" "Ljava/util/ArrayList;") (by decide +kernel)) rfl rfl rfl dX0_waysOfTransfers_17 ?_
    refine lv_iload_n hx hb dX0_waysOfTransfers_20 rfl (lv_at hl 0 rfl) ?_
    refine k_callV (As := [.int (nI k4)]) (rest := [.int z4]) ⟨hx, hb, hml, hown, hts⟩ hK (c_get1 X l hd hW.cap (j := k4) (by omega)) (cwV 1 hts gX0_waysOfTransfers_Jx4a65c_get_915e3 rfl rfl rfl (by decide +kernel) ⟨Nat.le_of_ble_eq_true rfl, Nat.le_of_ble_eq_true rfl⟩) (k_recv hK hW 1 1 (hd.li (by decide)) (fun _ => rfl) rfl) hW rfl hl.1 rfl (Nat.le_of_ble_eq_true rfl) dX0_waysOfTransfers_21 ⟨Nat.le_of_ble_eq_true rfl, Nat.le_of_ble_eq_true rfl⟩ hL (fun v9 H locs hp hL => ?_)
    obtain ⟨rfl, hW⟩ := hp
    refine k_cast' (K := RX5) (nm := RX5) hx hb hown (hts (.classLink RX0 47 RX5) (by decide +kernel)) hK (List.mem_of_getElem? (i := 5) rfl) (k_recv hK hW 5 k4 (hd.tr (show k4 < nt by omega)) (fun _ => rfl) rfl) dX0_waysOfTransfers_24 ?_
    refine k_callV (As := []) (rest := [.int z4]) ⟨hx, hb, hml, hown, hts⟩ hK (c_X5_way X l hd D hwf k4 (show k4 < nt by omega)) (cwV 0 hts gX0_waysOfTransfers_X5_way rfl rfl rfl (by decide +kernel) ⟨Nat.le_of_ble_eq_true rfl, Nat.le_of_ble_eq_true rfl⟩) (k_recv hK hW 5 k4 (hd.tr (show k4 < nt by omega)) (fun _ => rfl) rfl) hW rfl hl.1 rfl (Nat.le_of_ble_eq_true rfl) dX0_waysOfTransfers_27 ⟨Nat.le_of_ble_eq_true rfl, Nat.le_of_ble_eq_true rfl⟩ hL (fun v9 H locs hp hL => ?_)
    obtain ⟨rfl, hW⟩ := hp
    refine lv_iadd hx hb dX0_waysOfTransfers_30 ?_
    refine lv_istore_n (lv' := [(1, .int (z4 + (s_X5_way D k4))), (2, .int (nI k4)), (0, .ref (ad g 0 0))]) hx hb dX0_waysOfTransfers_31 rfl hl (by decide) rfl (fun ls hl => ?_)
    refine lv_iinc (v := (nI (k4 + 1))) (k := 1) (lv' := [(2, .int (nI (k4 + 1))), (1, .int (z4 + (s_X5_way D k4))), (0, .ref (ad g 0 0))]) hx hb dX0_waysOfTransfers_32 hl rfl (nI_1 _) (by decide) rfl (fun ls hl => ?_)
    refine lv_goto (tgt := 4) hx hb dX0_waysOfTransfers_35 (by decide) ?_
    have e9 : (f_X0_waysOfTransfers_4 D nl nt ng) k4 z4 = (z4 + (s_X5_way D k4)) := by unfold f_X0_waysOfTransfers_4; first | done | rfl
    exact ih4 _ _ _ hlt4 ⟨(z4 + (s_X5_way D k4)), by rw [it_s, ← hz4, e9], hW, hL, lv_sub hl [0, 1, 2] rfl⟩
def f_X0_minutesWaited_4 (D : KD) (nl : Nat) (nt : Nat) (ng : Nat) (k4 : Nat) (z4 : Int32) : Int32 := (z4 + (D 4 k4 8))
def l_X0_minutesWaited_4 (D : KD) (nl : Nat) (nt : Nat) (ng : Nat) : Int32 := it (f_X0_minutesWaited_4 D nl nt ng) nl 0
def s_X0_minutesWaited (D : KD) (nl : Nat) (nt : Nat) (ng : Nat) : Int32 := (l_X0_minutesWaited_4 D nl nt ng)
set_option maxHeartbeats 4000000 in
set_option maxRecDepth 100000 in
theorem c_X0_minutesWaited (X : kX) (l : Launch) {n : Nat → Nat → Nat} {ad L : Nat → Nat → Nat → Nat} {C : Nat → Nat → Nat → Nat → Int32} {fr : Nat → Option Cell} {g : Nat} {nl nt ng : Nat} (hd : kDk n g nl nt ng) (D : KD) : k_M X l yX0_minutesWaited wsX0_minutesWaited ({ frames := 4, cells := 0, slots := 0, locals := 76 }) [.ref (ad g 0 0)] (k_W X n ad L (k_g C g D) fr) (fun v H => v = some (.int (s_X0_minutesWaited D nl nt ng)) ∧ k_W X n ad L (k_g C g D) fr H) 0 0 := by
  refine k_M.of (cc := cX0_minutesWaited) (maxL := 3) (ret := (some .int)) (by decide) rfl (Nat.le_of_ble_eq_true rfl) ?_
  intro p e s m args below meth c ls hx hb hr hml hown hts hlocks hnm hK hW hl
  have hL : ∀ q ∈ ([] : List Loc), k_B X ≤ q.base := fun _ h => nomatch h
  have hl : lv_has ls 3 [(0, .ref (ad g 0 0))] := hl
  have fX0 : ∀ w ∈ u_ws RX0 TX0 5, w.before args s = true := fun w h => hts w ((by decide +kernel : ∀ w ∈ u_ws RX0 TX0 5, w ∈ wsX0_minutesWaited) w h)
  have fX3 : ∀ w ∈ u_ws RX3 TX3 15, w.before args s = true := fun w h => hts w ((by decide +kernel : ∀ w ∈ u_ws RX3 TX3 15, w ∈ wsX0_minutesWaited) w h)
  have hl8 := hd.l8
  have ht16 := hd.t16
  have hg4 := hd.g4
  refine lv_iconst (v := 0) hx hb dX0_minutesWaited_0 (by decide) ?_
  refine lv_istore_n (lv' := [(1, .int 0), (0, .ref (ad g 0 0))]) hx hb dX0_minutesWaited_1 rfl hl (by decide) rfl (fun ls hl => ?_)
  refine lv_iconst (v := 0) hx hb dX0_minutesWaited_2 (by decide) ?_
  refine lv_istore_n (lv' := [(2, .int 0), (1, .int 0), (0, .ref (ad g 0 0))]) hx hb dX0_minutesWaited_3 rfl hl (by decide) rfl (fun ls hl => ?_)
  refine k_for (nl) (fun k4 H locs ls => ∃ z4 : Int32, z4 = it (f_X0_minutesWaited_4 D nl nt ng) k4 0 ∧ k_W X n ad L (k_g C g D) fr H ∧ (∀ q ∈ locs, k_B X ≤ q.base) ∧ lv_has ls 3 [(2, .int (nI k4)), (1, .int z4), (0, .ref (ad g 0 0))]) 0 ⟨0, rfl, hW, hL, lv_sub hl [0, 1, 2] rfl⟩ (Nat.zero_le _) (fun k4 hk4 ih4 H locs ls hI => ?_)
  obtain ⟨z4, hz4, hW, hL, hl⟩ := hI
  refine lv_iload_n hx hb dX0_minutesWaited_4 rfl (lv_at hl 0 rfl) ?_
  refine lv_aload_n hx hb dX0_minutesWaited_5 rfl (lv_at hl 2 rfl) ?_
  refine k_get (K := RX0) (T := TX0) (N := 5) (v := .ref (ad g 1 0)) (w := .ref (ad g 1 0)) hx hb fX0 hown hK hW 0 0 hd.o (fun _ => rfl) rfl 0 (by decide) (hts (.fieldLink RX0 12 "Crossdockery$Dock" "lorries" "Ljava/util/ArrayList;") (by decide +kernel)) rfl rfl rfl dX0_minutesWaited_6 ?_
  refine k_callV (As := []) (rest := [.int (nI k4)]) ⟨hx, hb, hml, hown, hts⟩ hK (c_size0 X l hd) (cwV 0 hts gX0_minutesWaited_Jx4a65c_size_8abf5 rfl rfl rfl (by decide +kernel) ⟨Nat.le_of_ble_eq_true rfl, Nat.le_of_ble_eq_true rfl⟩) (k_recv hK hW 1 0 (hd.li (by decide)) (fun _ => rfl) rfl) hW rfl hl.1 rfl (Nat.le_of_ble_eq_true rfl) dX0_minutesWaited_9 ⟨Nat.le_of_ble_eq_true rfl, Nat.le_of_ble_eq_true rfl⟩ hL (fun v9 H locs hp hL => ?_)
  obtain ⟨rfl, hW⟩ := hp
  refine lv_icmp_ge (tgt := 38) hx hb dX0_minutesWaited_12 (by decide) (fun c1 => ?_) (fun c1 => ?_)
  ·
    have hge4 := k_nI_ge (by omega) (by omega) c1
    obtain rfl : nl = k4 := by omega
    replace hz4 : z4 = (l_X0_minutesWaited_4 D nl nt ng) := hz4
    subst hz4
    have hl : lv_has ls 3 [(2, .int (nI nl)), (1, .int (l_X0_minutesWaited_4 D nl nt ng)), (0, .ref (ad g 0 0))] := hl
    refine lv_iload_n hx hb dX0_minutesWaited_38 rfl (lv_at hl 1 rfl) ?_
    have e9 : (s_X0_minutesWaited D nl nt ng) = (l_X0_minutesWaited_4 D nl nt ng) := by unfold s_X0_minutesWaited; first | done | rfl
    exact k_iret hx hb hr hlocks (⟨by rw [e9], hW⟩) hL dX0_minutesWaited_39
  ·
    have hlt4 : k4 < nl := k_nI_nge (by omega) (by omega) c1
    refine lv_iload_n hx hb dX0_minutesWaited_15 rfl (lv_at hl 1 rfl) ?_
    refine lv_aload_n hx hb dX0_minutesWaited_16 rfl (lv_at hl 2 rfl) ?_
    refine k_get (K := RX0) (T := TX0) (N := 5) (v := .ref (ad g 1 0)) (w := .ref (ad g 1 0)) hx hb fX0 hown hK hW 0 0 hd.o (fun _ => rfl) rfl 0 (by decide) (hts (.fieldLink RX0 12 "Crossdockery$Dock" "lorries" "Ljava/util/ArrayList;") (by decide +kernel)) rfl rfl rfl dX0_minutesWaited_17 ?_
    refine lv_iload_n hx hb dX0_minutesWaited_20 rfl (lv_at hl 0 rfl) ?_
    refine k_callV (As := [.int (nI k4)]) (rest := [.int z4]) ⟨hx, hb, hml, hown, hts⟩ hK (c_get0 X l hd hW.cap (j := k4) (by omega)) (cwV 1 hts gX0_minutesWaited_Jx4a65c_get_915e3 rfl rfl rfl (by decide +kernel) ⟨Nat.le_of_ble_eq_true rfl, Nat.le_of_ble_eq_true rfl⟩) (k_recv hK hW 1 0 (hd.li (by decide)) (fun _ => rfl) rfl) hW rfl hl.1 rfl (Nat.le_of_ble_eq_true rfl) dX0_minutesWaited_21 ⟨Nat.le_of_ble_eq_true rfl, Nat.le_of_ble_eq_true rfl⟩ hL (fun v9 H locs hp hL => ?_)
    obtain ⟨rfl, hW⟩ := hp
    refine k_cast' (K := RX3) (nm := RX3) hx hb hown (hts (.classLink RX0 24 RX3) (by decide +kernel)) hK (List.mem_of_getElem? (i := 4) rfl) (k_recv hK hW 4 k4 (hd.lo (show k4 < nl by omega)) (fun _ => rfl) rfl) dX0_minutesWaited_24 ?_
    refine k_get (K := RX3) (T := TX3) (N := 15) (v := .int (D 4 k4 8)) (w := .int (D 4 k4 8)) hx hb fX3 hown hK hW 4 k4 (hd.lo (show k4 < nl by omega)) (fun _ => rfl) rfl 8 (by decide) (hts (.fieldLink RX0 266 "Crossdockery$Lorry" "waited" "I") (by decide +kernel)) rfl rfl rfl dX0_minutesWaited_27 ?_
    refine lv_iadd hx hb dX0_minutesWaited_30 ?_
    refine lv_istore_n (lv' := [(1, .int (z4 + (D 4 k4 8))), (2, .int (nI k4)), (0, .ref (ad g 0 0))]) hx hb dX0_minutesWaited_31 rfl hl (by decide) rfl (fun ls hl => ?_)
    refine lv_iinc (v := (nI (k4 + 1))) (k := 1) (lv' := [(2, .int (nI (k4 + 1))), (1, .int (z4 + (D 4 k4 8))), (0, .ref (ad g 0 0))]) hx hb dX0_minutesWaited_32 hl rfl (nI_1 _) (by decide) rfl (fun ls hl => ?_)
    refine lv_goto (tgt := 4) hx hb dX0_minutesWaited_35 (by decide) ?_
    have e9 : (f_X0_minutesWaited_4 D nl nt ng) k4 z4 = (z4 + (D 4 k4 8)) := by unfold f_X0_minutesWaited_4; first | done | rfl
    exact ih4 _ _ _ hlt4 ⟨(z4 + (D 4 k4 8)), by rw [it_s, ← hz4, e9], hW, hL, lv_sub hl [0, 1, 2] rfl⟩
def f_X0_minutesOfTheDock_4 (D : KD) (nl : Nat) (nt : Nat) (ng : Nat) (k4 : Nat) (z4 : Int32) : Int32 := (z4 + (s_X3_minutesFrom D k4 (-1)))
def l_X0_minutesOfTheDock_4 (D : KD) (nl : Nat) (nt : Nat) (ng : Nat) : Int32 := it (f_X0_minutesOfTheDock_4 D nl nt ng) nl 0
def s_X0_minutesOfTheDock (D : KD) (nl : Nat) (nt : Nat) (ng : Nat) : Int32 := (l_X0_minutesOfTheDock_4 D nl nt ng)
set_option maxHeartbeats 4000000 in
set_option maxRecDepth 100000 in
theorem c_X0_minutesOfTheDock (X : kX) (l : Launch) {n : Nat → Nat → Nat} {ad L : Nat → Nat → Nat → Nat} {C : Nat → Nat → Nat → Nat → Int32} {fr : Nat → Option Cell} {g : Nat} {nl nt ng : Nat} (hd : kDk n g nl nt ng) (D : KD) : k_M X l yX0_minutesOfTheDock wsX0_minutesOfTheDock ({ frames := 4, cells := 0, slots := 0, locals := 76 }) [.ref (ad g 0 0)] (k_W X n ad L (k_g C g D) fr) (fun v H => v = some (.int (s_X0_minutesOfTheDock D nl nt ng)) ∧ k_W X n ad L (k_g C g D) fr H) 0 0 := by
  refine k_M.of (cc := cX0_minutesOfTheDock) (maxL := 3) (ret := (some .int)) (by decide) rfl (Nat.le_of_ble_eq_true rfl) ?_
  intro p e s m args below meth c ls hx hb hr hml hown hts hlocks hnm hK hW hl
  have hL : ∀ q ∈ ([] : List Loc), k_B X ≤ q.base := fun _ h => nomatch h
  have hl : lv_has ls 3 [(0, .ref (ad g 0 0))] := hl
  have fX0 : ∀ w ∈ u_ws RX0 TX0 5, w.before args s = true := fun w h => hts w ((by decide +kernel : ∀ w ∈ u_ws RX0 TX0 5, w ∈ wsX0_minutesOfTheDock) w h)
  have hl8 := hd.l8
  have ht16 := hd.t16
  have hg4 := hd.g4
  refine lv_iconst (v := 0) hx hb dX0_minutesOfTheDock_0 (by decide) ?_
  refine lv_istore_n (lv' := [(1, .int 0), (0, .ref (ad g 0 0))]) hx hb dX0_minutesOfTheDock_1 rfl hl (by decide) rfl (fun ls hl => ?_)
  refine lv_iconst (v := 0) hx hb dX0_minutesOfTheDock_2 (by decide) ?_
  refine lv_istore_n (lv' := [(2, .int 0), (1, .int 0), (0, .ref (ad g 0 0))]) hx hb dX0_minutesOfTheDock_3 rfl hl (by decide) rfl (fun ls hl => ?_)
  refine k_for (nl) (fun k4 H locs ls => ∃ z4 : Int32, z4 = it (f_X0_minutesOfTheDock_4 D nl nt ng) k4 0 ∧ k_W X n ad L (k_g C g D) fr H ∧ (∀ q ∈ locs, k_B X ≤ q.base) ∧ lv_has ls 3 [(2, .int (nI k4)), (1, .int z4), (0, .ref (ad g 0 0))]) 0 ⟨0, rfl, hW, hL, lv_sub hl [0, 1, 2] rfl⟩ (Nat.zero_le _) (fun k4 hk4 ih4 H locs ls hI => ?_)
  obtain ⟨z4, hz4, hW, hL, hl⟩ := hI
  refine lv_iload_n hx hb dX0_minutesOfTheDock_4 rfl (lv_at hl 0 rfl) ?_
  refine lv_aload_n hx hb dX0_minutesOfTheDock_5 rfl (lv_at hl 2 rfl) ?_
  refine k_get (K := RX0) (T := TX0) (N := 5) (v := .ref (ad g 1 0)) (w := .ref (ad g 1 0)) hx hb fX0 hown hK hW 0 0 hd.o (fun _ => rfl) rfl 0 (by decide) (hts (.fieldLink RX0 12 "Crossdockery$Dock" "lorries" "Ljava/util/ArrayList;") (by decide +kernel)) rfl rfl rfl dX0_minutesOfTheDock_6 ?_
  refine k_callV (As := []) (rest := [.int (nI k4)]) ⟨hx, hb, hml, hown, hts⟩ hK (c_size0 X l hd) (cwV 0 hts gX0_minutesOfTheDock_Jx4a65c_size_8abf5 rfl rfl rfl (by decide +kernel) ⟨Nat.le_of_ble_eq_true rfl, Nat.le_of_ble_eq_true rfl⟩) (k_recv hK hW 1 0 (hd.li (by decide)) (fun _ => rfl) rfl) hW rfl hl.1 rfl (Nat.le_of_ble_eq_true rfl) dX0_minutesOfTheDock_9 ⟨Nat.le_of_ble_eq_true rfl, Nat.le_of_ble_eq_true rfl⟩ hL (fun v9 H locs hp hL => ?_)
  obtain ⟨rfl, hW⟩ := hp
  refine lv_icmp_ge (tgt := 39) hx hb dX0_minutesOfTheDock_12 (by decide) (fun c1 => ?_) (fun c1 => ?_)
  ·
    have hge4 := k_nI_ge (by omega) (by omega) c1
    obtain rfl : nl = k4 := by omega
    replace hz4 : z4 = (l_X0_minutesOfTheDock_4 D nl nt ng) := hz4
    subst hz4
    have hl : lv_has ls 3 [(2, .int (nI nl)), (1, .int (l_X0_minutesOfTheDock_4 D nl nt ng)), (0, .ref (ad g 0 0))] := hl
    refine lv_iload_n hx hb dX0_minutesOfTheDock_39 rfl (lv_at hl 1 rfl) ?_
    have e9 : (s_X0_minutesOfTheDock D nl nt ng) = (l_X0_minutesOfTheDock_4 D nl nt ng) := by unfold s_X0_minutesOfTheDock; first | done | rfl
    exact k_iret hx hb hr hlocks (⟨by rw [e9], hW⟩) hL dX0_minutesOfTheDock_40
  ·
    have hlt4 : k4 < nl := k_nI_nge (by omega) (by omega) c1
    refine lv_iload_n hx hb dX0_minutesOfTheDock_15 rfl (lv_at hl 1 rfl) ?_
    refine lv_aload_n hx hb dX0_minutesOfTheDock_16 rfl (lv_at hl 2 rfl) ?_
    refine k_get (K := RX0) (T := TX0) (N := 5) (v := .ref (ad g 1 0)) (w := .ref (ad g 1 0)) hx hb fX0 hown hK hW 0 0 hd.o (fun _ => rfl) rfl 0 (by decide) (hts (.fieldLink RX0 12 "Crossdockery$Dock" "lorries" "Ljava/util/ArrayList;") (by decide +kernel)) rfl rfl rfl dX0_minutesOfTheDock_17 ?_
    refine lv_iload_n hx hb dX0_minutesOfTheDock_20 rfl (lv_at hl 0 rfl) ?_
    refine k_callV (As := [.int (nI k4)]) (rest := [.int z4]) ⟨hx, hb, hml, hown, hts⟩ hK (c_get0 X l hd hW.cap (j := k4) (by omega)) (cwV 1 hts gX0_minutesOfTheDock_Jx4a65c_get_915e3 rfl rfl rfl (by decide +kernel) ⟨Nat.le_of_ble_eq_true rfl, Nat.le_of_ble_eq_true rfl⟩) (k_recv hK hW 1 0 (hd.li (by decide)) (fun _ => rfl) rfl) hW rfl hl.1 rfl (Nat.le_of_ble_eq_true rfl) dX0_minutesOfTheDock_21 ⟨Nat.le_of_ble_eq_true rfl, Nat.le_of_ble_eq_true rfl⟩ hL (fun v9 H locs hp hL => ?_)
    obtain ⟨rfl, hW⟩ := hp
    refine k_cast' (K := RX3) (nm := RX3) hx hb hown (hts (.classLink RX0 24 RX3) (by decide +kernel)) hK (List.mem_of_getElem? (i := 4) rfl) (k_recv hK hW 4 k4 (hd.lo (show k4 < nl by omega)) (fun _ => rfl) rfl) dX0_minutesOfTheDock_24 ?_
    refine lv_iconst (v := (-1)) hx hb dX0_minutesOfTheDock_27 (by decide) ?_
    refine k_callV (As := [.int (-1)]) (rest := [.int z4]) ⟨hx, hb, hml, hown, hts⟩ hK (c_X3_minutesFrom X l hd D k4 (show k4 < nl by omega) (-1)) (cwV 1 hts gX0_minutesOfTheDock_X3_minutesFrom rfl rfl rfl (by decide +kernel) ⟨Nat.le_of_ble_eq_true rfl, Nat.le_of_ble_eq_true rfl⟩) (k_recv hK hW 4 k4 (hd.lo (show k4 < nl by omega)) (fun _ => rfl) rfl) hW rfl hl.1 rfl (Nat.le_of_ble_eq_true rfl) dX0_minutesOfTheDock_28 ⟨Nat.le_of_ble_eq_true rfl, Nat.le_of_ble_eq_true rfl⟩ hL (fun v9 H locs hp hL => ?_)
    obtain ⟨rfl, hW⟩ := hp
    refine lv_iadd hx hb dX0_minutesOfTheDock_31 ?_
    refine lv_istore_n (lv' := [(1, .int (z4 + (s_X3_minutesFrom D k4 (-1)))), (2, .int (nI k4)), (0, .ref (ad g 0 0))]) hx hb dX0_minutesOfTheDock_32 rfl hl (by decide) rfl (fun ls hl => ?_)
    refine lv_iinc (v := (nI (k4 + 1))) (k := 1) (lv' := [(2, .int (nI (k4 + 1))), (1, .int (z4 + (s_X3_minutesFrom D k4 (-1)))), (0, .ref (ad g 0 0))]) hx hb dX0_minutesOfTheDock_33 hl rfl (nI_1 _) (by decide) rfl (fun ls hl => ?_)
    refine lv_goto (tgt := 4) hx hb dX0_minutesOfTheDock_36 (by decide) ?_
    have e9 : (f_X0_minutesOfTheDock_4 D nl nt ng) k4 z4 = (z4 + (s_X3_minutesFrom D k4 (-1))) := by unfold f_X0_minutesOfTheDock_4; first | done | rfl
    exact ih4 _ _ _ hlt4 ⟨(z4 + (s_X3_minutesFrom D k4 (-1))), by rw [it_s, ← hz4, e9], hW, hL, lv_sub hl [0, 1, 2] rfl⟩
def r_X0_firstMissedBy_2 (D : KD) (nl : Nat) (nt : Nat) (ng : Nat) (i : Nat) : Nat → Nat → Int32
  | 0, k2 => (-1)
  | f2 + 1, k2 => (if (D 5 k2 1).toNatClampNeg = i then (if (D 5 k2 3) ≥ (D 5 k2 2) then r_X0_firstMissedBy_2 D nl nt ng i f2 (k2 + 1)  else D 5 k2 0) else r_X0_firstMissedBy_2 D nl nt ng i f2 (k2 + 1) )
theorem r_X0_firstMissedBy_2_0 (D : KD) (nl : Nat) (nt : Nat) (ng : Nat) (i : Nat) (k2 : Nat)  : r_X0_firstMissedBy_2 D nl nt ng i 0 k2  = (-1) := rfl
theorem r_X0_firstMissedBy_2_s (D : KD) (nl : Nat) (nt : Nat) (ng : Nat) (i : Nat) (f2 k2 : Nat)  : r_X0_firstMissedBy_2 D nl nt ng i (f2 + 1) k2  = (if (D 5 k2 1).toNatClampNeg = i then (if (D 5 k2 3) ≥ (D 5 k2 2) then r_X0_firstMissedBy_2 D nl nt ng i f2 (k2 + 1)  else D 5 k2 0) else r_X0_firstMissedBy_2 D nl nt ng i f2 (k2 + 1) ) := rfl
def s_X0_firstMissedBy (D : KD) (nl : Nat) (nt : Nat) (ng : Nat) (i : Nat) : Int32 := r_X0_firstMissedBy_2 D nl nt ng i (nt - 0) 0 
set_option maxHeartbeats 4000000 in
set_option maxRecDepth 100000 in
theorem c_X0_firstMissedBy (X : kX) (l : Launch) {n : Nat → Nat → Nat} {ad L : Nat → Nat → Nat → Nat} {C : Nat → Nat → Nat → Nat → Int32} {fr : Nat → Option Cell} {g : Nat} {nl nt ng : Nat} (hd : kDk n g nl nt ng) (D : KD) (hwf : cWF D nl nt) (i : Nat) (h_i : i < nl) : k_M X l yX0_firstMissedBy wsX0_firstMissedBy ({ frames := 4, cells := 0, slots := 0, locals := 76 }) [.ref (ad g 0 0), .ref (ad g 4 i)] (k_W X n ad L (k_g C g D) fr) (fun v H => v = some (va_rf (k_lr ad g (s_X0_firstMissedBy D nl nt ng i))) ∧ k_W X n ad L (k_g C g D) fr H) 0 0 := by
  refine k_M.of (cc := cX0_firstMissedBy) (maxL := 4) (ret := (some (.object "Crossdockery$Lorry"))) (by decide) rfl (Nat.le_of_ble_eq_true rfl) ?_
  intro p e s m args below meth c ls hx hb hr hml hown hts hlocks hnm hK hW hl
  have hL : ∀ q ∈ ([] : List Loc), k_B X ≤ q.base := fun _ h => nomatch h
  have hl : lv_has ls 4 [(0, .ref (ad g 0 0)), (1, .ref (ad g 4 i))] := hl
  have fX0 : ∀ w ∈ u_ws RX0 TX0 5, w.before args s = true := fun w h => hts w ((by decide +kernel : ∀ w ∈ u_ws RX0 TX0 5, w ∈ wsX0_firstMissedBy) w h)
  have fX5 : ∀ w ∈ u_ws RX5 TX5 7, w.before args s = true := fun w h => hts w ((by decide +kernel : ∀ w ∈ u_ws RX5 TX5 7, w ∈ wsX0_firstMissedBy) w h)
  have hl8 := hd.l8
  have ht16 := hd.t16
  have hg4 := hd.g4
  refine lv_iconst (v := 0) hx hb dX0_firstMissedBy_0 (by decide) ?_
  refine lv_istore_n (lv' := [(2, .int 0), (0, .ref (ad g 0 0)), (1, .ref (ad g 4 i))]) hx hb dX0_firstMissedBy_1 rfl hl (by decide) rfl (fun ls hl => ?_)
  refine k_for (nt) (fun k2 H locs ls => ∃ z2 : Unit, (s_X0_firstMissedBy D nl nt ng i) = (r_X0_firstMissedBy_2 D nl nt ng i) (nt - k2) k2  ∧ k_W X n ad L (k_g C g D) fr H ∧ (∀ q ∈ locs, k_B X ≤ q.base) ∧ lv_has ls 4 [(2, .int (nI k2)), (0, .ref (ad g 0 0)), (1, .ref (ad g 4 i))]) 0 ⟨(), by unfold s_X0_firstMissedBy; first | done | rfl, hW, hL, lv_sub hl [0, 1, 2] rfl⟩ (Nat.zero_le _) (fun k2 hk2 ih2 H locs ls hI => ?_)
  obtain ⟨z2, hz2, hW, hL, hl⟩ := hI
  refine lv_iload_n hx hb dX0_firstMissedBy_2 rfl (lv_at hl 0 rfl) ?_
  refine lv_aload_n hx hb dX0_firstMissedBy_3 rfl (lv_at hl 1 rfl) ?_
  refine k_get (K := RX0) (T := TX0) (N := 5) (v := .ref (ad g 1 1)) (w := .ref (ad g 1 1)) hx hb fX0 hown hK hW 0 0 hd.o (fun _ => rfl) rfl 1 (by decide) (hts (.fieldLink RX0 18 "Crossdockery$Dock" "transfers" "Ljava/util/ArrayList;") (by decide +kernel)) rfl rfl rfl dX0_firstMissedBy_4 ?_
  refine k_callV (As := []) (rest := [.int (nI k2)]) ⟨hx, hb, hml, hown, hts⟩ hK (c_size1 X l hd) (cwV 0 hts gX0_firstMissedBy_Jx4a65c_size_8abf5 rfl rfl rfl (by decide +kernel) ⟨Nat.le_of_ble_eq_true rfl, Nat.le_of_ble_eq_true rfl⟩) (k_recv hK hW 1 1 (hd.li (by decide)) (fun _ => rfl) rfl) hW rfl hl.1 rfl (Nat.le_of_ble_eq_true rfl) dX0_firstMissedBy_7 ⟨Nat.le_of_ble_eq_true rfl, Nat.le_of_ble_eq_true rfl⟩ hL (fun v9 H locs hp hL => ?_)
  obtain ⟨rfl, hW⟩ := hp
  refine lv_icmp_ge (tgt := 55) hx hb dX0_firstMissedBy_10 (by decide) (fun c1 => ?_) (fun c1 => ?_)
  ·
    have hge2 := k_nI_ge (by omega) (by omega) c1
    obtain rfl : nt = k2 := by omega
    rw [show nt - nt = 0 by omega] at hz2
    refine lv_null hx hb dX0_firstMissedBy_55 ?_
    have e9 : (s_X0_firstMissedBy D nl nt ng i) = (-1) := by rw [hz2, r_X0_firstMissedBy_2_0]; first | done | rfl
    exact k_aret (v := none) hx hb hr hlocks (⟨by rw [e9]; exact congrArg (fun z => some (va_rf z)) (k_lr_0 rfl).symm, hW⟩) hL dX0_firstMissedBy_56
  ·
    have hlt2 : k2 < nt := k_nI_nge (by omega) (by omega) c1
    obtain ⟨f2, hf2⟩ : ∃ f, nt - k2 = f + 1 := ⟨nt - k2 - 1, by omega⟩
    refine lv_aload_n hx hb dX0_firstMissedBy_13 rfl (lv_at hl 1 rfl) ?_
    refine k_get (K := RX0) (T := TX0) (N := 5) (v := .ref (ad g 1 1)) (w := .ref (ad g 1 1)) hx hb fX0 hown hK hW 0 0 hd.o (fun _ => rfl) rfl 1 (by decide) (hts (.fieldLink RX0 18 "Crossdockery$Dock" "transfers" "Ljava/util/ArrayList;") (by decide +kernel)) rfl rfl rfl dX0_firstMissedBy_14 ?_
    refine lv_iload_n hx hb dX0_firstMissedBy_17 rfl (lv_at hl 0 rfl) ?_
    refine k_callV (As := [.int (nI k2)]) (rest := []) ⟨hx, hb, hml, hown, hts⟩ hK (c_get1 X l hd hW.cap (j := k2) (by omega)) (cwV 1 hts gX0_firstMissedBy_Jx4a65c_get_915e3 rfl rfl rfl (by decide +kernel) ⟨Nat.le_of_ble_eq_true rfl, Nat.le_of_ble_eq_true rfl⟩) (k_recv hK hW 1 1 (hd.li (by decide)) (fun _ => rfl) rfl) hW rfl hl.1 rfl (Nat.le_of_ble_eq_true rfl) dX0_firstMissedBy_18 ⟨Nat.le_of_ble_eq_true rfl, Nat.le_of_ble_eq_true rfl⟩ hL (fun v9 H locs hp hL => ?_)
    obtain ⟨rfl, hW⟩ := hp
    refine k_cast' (K := RX5) (nm := RX5) hx hb hown (hts (.classLink RX0 47 RX5) (by decide +kernel)) hK (List.mem_of_getElem? (i := 5) rfl) (k_recv hK hW 5 k2 (hd.tr (show k2 < nt by omega)) (fun _ => rfl) rfl) dX0_firstMissedBy_21 ?_
    refine lv_astore_n (lv' := [(3, .ref (ad g 5 k2)), (2, .int (nI k2)), (0, .ref (ad g 0 0)), (1, .ref (ad g 4 i))]) hx hb dX0_firstMissedBy_24 rfl hl (by decide) rfl (fun ls hl => ?_)
    refine lv_aload_n hx hb dX0_firstMissedBy_25 rfl (lv_at hl 0 rfl) ?_
    refine k_get (K := RX5) (T := TX5) (N := 7) (v := .ref (ad g 4 ((D 5 k2 1).toNatClampNeg))) (w := .ref (ad g 4 ((D 5 k2 1).toNatClampNeg))) hx hb fX5 hown hK hW 5 k2 (hd.tr (show k2 < nt by omega)) (fun _ => rfl) rfl 1 (by decide) (hts (.fieldLink RX0 199 "Crossdockery$Transfer" "to" "LCrossdockery$Lorry;") (by decide +kernel)) rfl rfl rfl dX0_firstMissedBy_26 ?_
    refine lv_aload_n hx hb dX0_firstMissedBy_29 rfl (lv_at hl 3 rfl) ?_
    refine k_acmp_ne (i := (D 5 k2 1).toNatClampNeg) (j := i) (tgt := 49) hx hb hW (hd.lo (hwf.to (show k2 < nt by omega))) (hd.lo h_i) dX0_firstMissedBy_30 (by decide) (fun c2 => ?_) (fun c2 => ?_)
    ·
      refine lv_iinc (v := (nI (k2 + 1))) (k := 1) (lv' := [(2, .int (nI (k2 + 1))), (3, .ref (ad g 5 k2)), (0, .ref (ad g 0 0)), (1, .ref (ad g 4 i))]) hx hb dX0_firstMissedBy_49 hl rfl (nI_1 _) (by decide) rfl (fun ls hl => ?_)
      refine lv_goto (tgt := 2) hx hb dX0_firstMissedBy_52 (by decide) ?_
      have e9 : (s_X0_firstMissedBy D nl nt ng i) = (r_X0_firstMissedBy_2 D nl nt ng i) f2 (k2 + 1)  := by rw [hz2, hf2, r_X0_firstMissedBy_2_s]; first | done | (simp only [if_neg c2]; done) | rfl
      exact ih2 _ _ _ hlt2 ⟨(), by rw [e9, show nt - (k2 + 1) = f2 by omega], hW, hL, lv_sub hl [0, 2, 3] rfl⟩
    ·
      refine lv_aload_n hx hb dX0_firstMissedBy_33 rfl (lv_at hl 0 rfl) ?_
      refine k_get (K := RX5) (T := TX5) (N := 7) (v := .int (D 5 k2 3)) (w := .int (D 5 k2 3)) hx hb fX5 hown hK hW 5 k2 (hd.tr (show k2 < nt by omega)) (fun _ => rfl) rfl 3 (by decide) (hts (.fieldLink RX0 203 "Crossdockery$Transfer" "unloaded" "I") (by decide +kernel)) rfl rfl rfl dX0_firstMissedBy_34 ?_
      refine lv_aload_n hx hb dX0_firstMissedBy_37 rfl (lv_at hl 0 rfl) ?_
      refine k_get (K := RX5) (T := TX5) (N := 7) (v := .int (D 5 k2 2)) (w := .int (D 5 k2 2)) hx hb fX5 hown hK hW 5 k2 (hd.tr (show k2 < nt by omega)) (fun _ => rfl) rfl 2 (by decide) (hts (.fieldLink RX0 206 "Crossdockery$Transfer" "units" "I") (by decide +kernel)) rfl rfl rfl dX0_firstMissedBy_38 ?_
      refine lv_icmp_ge (tgt := 49) hx hb dX0_firstMissedBy_41 (by decide) (fun c3 => ?_) (fun c3 => ?_)
      ·
        refine lv_iinc (v := (nI (k2 + 1))) (k := 1) (lv' := [(2, .int (nI (k2 + 1))), (3, .ref (ad g 5 k2)), (0, .ref (ad g 0 0)), (1, .ref (ad g 4 i))]) hx hb dX0_firstMissedBy_49 hl rfl (nI_1 _) (by decide) rfl (fun ls hl => ?_)
        refine lv_goto (tgt := 2) hx hb dX0_firstMissedBy_52 (by decide) ?_
        have e9 : (s_X0_firstMissedBy D nl nt ng i) = (r_X0_firstMissedBy_2 D nl nt ng i) f2 (k2 + 1)  := by rw [hz2, hf2, r_X0_firstMissedBy_2_s]; first | done | (simp only [if_pos c2, if_pos c3]; done) | rfl
        exact ih2 _ _ _ hlt2 ⟨(), by rw [e9, show nt - (k2 + 1) = f2 by omega], hW, hL, lv_sub hl [0, 2, 3] rfl⟩
      ·
        refine lv_aload_n hx hb dX0_firstMissedBy_44 rfl (lv_at hl 0 rfl) ?_
        refine k_get (K := RX5) (T := TX5) (N := 7) (v := .ref (ad g 4 ((D 5 k2 0).toNatClampNeg))) (w := .ref (ad g 4 ((D 5 k2 0).toNatClampNeg))) hx hb fX5 hown hK hW 5 k2 (hd.tr (show k2 < nt by omega)) (fun _ => rfl) rfl 0 (by decide) (hts (.fieldLink RX0 209 "Crossdockery$Transfer" "from" "LCrossdockery$Lorry;") (by decide +kernel)) rfl rfl rfl dX0_firstMissedBy_45 ?_
        have e9 : (s_X0_firstMissedBy D nl nt ng i) = D 5 k2 0 := by rw [hz2, hf2, r_X0_firstMissedBy_2_s]; first | done | (simp only [if_pos c2, if_neg c3]; done) | rfl
        exact k_aret (v := (some (ad g 4 ((D 5 k2 0).toNatClampNeg)))) hx hb hr hlocks (⟨by rw [e9]; exact congrArg (fun z => some (va_rf z)) (k_lr_x (hwf.1 _ (show k2 < nt by omega)).1.nm1).symm, hW⟩) hL dX0_firstMissedBy_48
theorem cIN_standingAt {D : KD} {nl nt : Nat} (h : cWF D nl nt) {d : Int32} (hn : ¬ s_X0_standingAt D d = -1) : vp_in (s_X0_standingAt D d) nl := by
  unfold s_X0_standingAt at hn ⊢
  by_cases q1 : d < 0
  · rw [if_pos q1] at hn
    exact absurd rfl hn
  rw [if_neg q1] at hn ⊢
  by_cases q2 : d ≥ 4
  · rw [if_pos q2] at hn
    exact absurd rfl hn
  rw [if_neg q2] at hn ⊢
  have q3 : d.toNatClampNeg < 4 := (vp_in_of_nge (N := 4) (by decide) q1 q2).lt
  by_cases q4 : D 3 0 d.toNatClampNeg = -1
  · rw [if_pos q4] at hn
    exact absurd rfl hn
  rw [if_neg q4]
  exact h.ain q3 q4
theorem cIN_queuedFor {D : KD} {nl nt ng : Nat} {d pl : Int32} (h8 : nl ≤ 8) (hn : ¬ s_X0_queuedFor D nl nt ng d pl = -1) : vp_in (s_X0_queuedFor D nl nt ng d pl) nl := by
  have key : ∀ f k, f + k ≤ nl → ¬ r_X0_queuedFor_2 D nl nt ng d pl f k = -1 → vp_in (r_X0_queuedFor_2 D nl nt ng d pl f k) nl := by
    intro f
    induction f with
    | zero =>
      intro k _ h
      exact absurd rfl h
    | succ f ih =>
      intro k hk h
      rw [r_X0_queuedFor_2_s] at h ⊢
      split at h <;> rename_i q1
      · rw [if_pos q1]
        exact ih _ (by omega) h
      rw [if_neg q1]
      split at h <;> rename_i q2
      · rw [if_pos q2]
        exact vp_in_nI (by omega) (by omega)
      rw [if_neg q2]
      exact ih _ (by omega) h
  exact key _ _ (by omega) hn
theorem cIN_firstMissedBy {D : KD} {nl nt ng : Nat} {i : Nat} (hw : cWF D nl nt) (hn : ¬ s_X0_firstMissedBy D nl nt ng i = -1) : vp_in (s_X0_firstMissedBy D nl nt ng i) nl := by
  have key : ∀ f k, f + k ≤ nt → ¬ r_X0_firstMissedBy_2 D nl nt ng i f k = -1 → vp_in (r_X0_firstMissedBy_2 D nl nt ng i f k) nl := by
    intro f
    induction f with
    | zero =>
      intro k _ h
      exact absurd rfl h
    | succ f ih =>
      intro k hk h
      rw [r_X0_firstMissedBy_2_s] at h ⊢
      split at h <;> rename_i q1
      · rw [if_pos q1]
        split at h <;> rename_i q2
        · rw [if_pos q2]
          exact ih _ (by omega) h
        rw [if_neg q2]
        exact (hw.1 k (by omega)).1
      rw [if_neg q1]
      exact ih _ (by omega) h
  exact key _ _ (by omega) hn
