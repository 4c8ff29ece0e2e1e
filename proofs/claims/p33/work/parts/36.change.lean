theorem k_within {a : Int32} (h : ¬ s_X6_isWithin a 1 300 = 0) : a = nI a.toNatClampNeg ∧ a.toNatClampNeg < 2 ^ 31 := by
  have h0 : ¬ a < 1 := by
    intro q
    apply h
    unfold s_X6_isWithin
    first | rw [if_pos q] | simp [q]
  have h1 : ¬ a.toInt < 1 := fun z => h0 (Int32.lt_iff_toInt_lt.mpr z)
  have h2 : a.toInt < 2 ^ 31 := Int32.toInt_lt a
  have h3 : a.toNatClampNeg = a.toInt.toNat := rfl
  refine ⟨Int32.toInt_inj.mp ?_, by omega⟩
  rw [nI_toInt (by omega), h3]
  omega
theorem ha_X6_addLorry_31 : ∀ w ∈ (vx_atS RX6 31 "java/lang/IllegalArgumentException" ["java/lang/RuntimeException", "java/lang/Exception"]).filter goodWord, w ∈ wsX6_addLorry := fun _ h => List.mem_cons_of_mem _ (List.mem_append_left _ (List.mem_append_left _ (List.mem_append_left _ (List.mem_append_right _ h))))
theorem bad_RX6_31 : ∀ w ∈ (vx_atS RX6 31 "java/lang/IllegalArgumentException" ["java/lang/RuntimeException", "java/lang/Exception"]).filter (fun w => !goodWord w), w ∈ k_nw := by decide +kernel
theorem og_RX6_27_31 : ∀ w ∈ Cond.classLink RX6 27 "java/lang/IllegalArgumentException" :: Cond.initialized "java/lang/IllegalArgumentException" :: vx_atS RX6 31 "java/lang/IllegalArgumentException" ["java/lang/RuntimeException", "java/lang/Exception"], vx_ot w = true := by decide +kernel
theorem ha_X6_addLorry_45 : ∀ w ∈ (vx_atS RX6 45 "java/lang/IllegalStateException" ["java/lang/RuntimeException", "java/lang/Exception"]).filter goodWord, w ∈ wsX6_addLorry := fun _ h => List.mem_cons_of_mem _ (List.mem_append_left _ (List.mem_append_left _ (List.mem_append_right _ h)))
theorem bad_RX6_45 : ∀ w ∈ (vx_atS RX6 45 "java/lang/IllegalStateException" ["java/lang/RuntimeException", "java/lang/Exception"]).filter (fun w => !goodWord w), w ∈ k_nw := by decide +kernel
theorem og_RX6_41_45 : ∀ w ∈ Cond.classLink RX6 41 "java/lang/IllegalStateException" :: Cond.initialized "java/lang/IllegalStateException" :: vx_atS RX6 45 "java/lang/IllegalStateException" ["java/lang/RuntimeException", "java/lang/Exception"], vx_ot w = true := by decide +kernel
def s_x_addLorry (D : KD) (nl : Nat) (nt : Nat) (ng : Nat) (br : Int32) (pl : Int32) (ra : Int32) : Int32 := (if (s_X6_isWithin pl 0 1999) = 0 then 1 else (if (s_X6_isWithin ra 1 99) = 0 then 1 else (if (nI nl) < 8 then 0 else 2)))
set_option maxHeartbeats 400000 in
set_option maxRecDepth 100000 in
theorem c_X6_addLorry (X : kX) (l : Launch) {n : Nat → Nat → Nat} {ad L : Nat → Nat → Nat → Nat} {C : Nat → Nat → Nat → Nat → Int32} {fr : Nat → Option Cell} {nl nt ng : Nat} (hd : kDk n 0 nl nt ng) (D : KD) {ne : Nat} (hc : kCx n ne) (hwf : cWF D nl nt) (h9 : n 0 9 = 0) (hne : ne < 512) (br : Int32) (pl : Int32) (ra : Int32) (hl9 : l.stackTraces = false) : k_X X l yX6_addLorry wsX6_addLorry ({ frames := 10, cells := 5, slots := 805, locals := 259 }) [.ref (ad 5 16 0), .int br, .int pl, .int ra] (k_W X n ad L (k_g C 0 D) fr) (fun v H => s_x_addLorry D nl nt ng br pl ra = 0 ∧ v = some (.int (s_und (D, nl, nt, ng) (k_fe 0 (if br = 0 then (0 : Int32) else 1) pl ra)).2) ∧ kHap X n ad L C fr ne (k_fe 0 (if br = 0 then (0 : Int32) else 1) pl ra) (s_und (D, nl, nt, ng) (k_fe 0 (if br = 0 then (0 : Int32) else 1) pl ra)).1 H) (fun E H => (E = "java/lang/IllegalArgumentException" ∧ s_x_addLorry D nl nt ng br pl ra = 1 ∧ k_W X n ad L (k_g C 0 D) fr H) ∨ (E = "java/lang/IllegalStateException" ∧ s_x_addLorry D nl nt ng br pl ra = 2 ∧ k_W X n ad L (k_g C 0 D) fr H)) 5 805 := by
  refine k_X.of (cc := cX6_addLorry) (maxL := 4) (ret := (some .int)) (by decide) rfl (Nat.le_of_ble_eq_true rfl) ?_
  intro p e s m args below meth c ls hx hb hr hml hown hts hlocks hnm ht hK hW hl
  have hW0 := hW
  have hL : ∀ q ∈ ([] : List Loc), k_B X ≤ q.base := fun _ h => nomatch h
  have hl : lv_has ls 4 [(0, .ref (ad 5 16 0)), (1, .int br), (2, .int pl), (3, .int ra)] := hl
  have fX6 : ∀ w ∈ u_ws RX6 TX6 2, w.before args s = true := fun w h => hts w ((by decide +kernel : ∀ w ∈ u_ws RX6 TX6 2, w ∈ wsX6_addLorry) w h)
  have fX0 : ∀ w ∈ u_ws RX0 TX0 5, w.before args s = true := fun w h => hts w ((by decide +kernel : ∀ w ∈ u_ws RX0 TX0 5, w ∈ wsX6_addLorry) w h)
  have hl8 := hd.l8
  have ht16 := hd.t16
  have hg4 := hd.g4
  refine lv_iload_n hx hb dX6_addLorry_0 rfl (lv_at hl 2 rfl) ?_
  refine lv_iconst (v := 0) hx hb dX6_addLorry_1 (by decide) ?_
  refine lv_sipush (v := 1999) hx hb dX6_addLorry_2 (by decide) ?_
  refine k_callS (As := [.int pl, .int 0, .int 1999]) (rest := []) ⟨hx, hb, hml, hown, hts⟩ hK (c_X6_isWithin X l (k_W X n ad L (k_g C 0 D) fr) pl 0 1999) (va_cwS 3 hts gX6_addLorry_X6_isWithin rfl rfl rfl (by decide +kernel) ⟨Nat.le_of_ble_eq_true rfl, Nat.le_of_ble_eq_true rfl⟩) hW rfl hl.1 rfl (Nat.le_of_ble_eq_true rfl) dX6_addLorry_5 ⟨Nat.le_of_ble_eq_true rfl, Nat.le_of_ble_eq_true rfl⟩ hL (fun v9 H locs hp hL => ?_)
  obtain ⟨rfl, hW⟩ := hp
  refine lv_if_eq (tgt := 21) hx hb dX6_addLorry_8 (by decide) (fun c1 => ?_) (fun c1 => ?_)
  ·
    exact k_throw (own := RX6) (cls := "java/lang/IllegalArgumentException") (text := "planned minute or rate out of range") (ik := 27) (is := 29) (ic := 31) hx hb hl9 10 hown (by decide +kernel) hK rfl (hts (.classLink RX6 27 "java/lang/IllegalArgumentException") (by decide +kernel)) (hts (.initialized "java/lang/IllegalArgumentException") (by decide +kernel)) (fun w hw => hts w (ha_X6_addLorry_31 w hw)) bad_RX6_31 og_RX6_27_31 hW0 hW hL (hl.1.trans hml.symm) dX6_addLorry_21 dX6_addLorry_24 dX6_addLorry_25 dX6_addLorry_27 dX6_addLorry_30 ht (Nat.le_of_ble_eq_true rfl) (Nat.le_of_ble_eq_true rfl) (Nat.le_of_ble_eq_true rfl) (Nat.le_of_ble_eq_true rfl) hlocks (fun H1 hW => Or.inl ⟨rfl, (by unfold s_x_addLorry; first | rfl | (simp only [if_pos c1]; done) | (simp only [if_pos c1]; rfl)), hW⟩) (Nat.le_of_ble_eq_true rfl) (Nat.le_of_ble_eq_true rfl)
  ·
    refine lv_iload_n hx hb dX6_addLorry_11 rfl (lv_at hl 3 rfl) ?_
    refine lv_iconst (v := 1) hx hb dX6_addLorry_12 (by decide) ?_
    refine lv_bipush (v := 99) hx hb dX6_addLorry_13 (by decide) ?_
    refine k_callS (As := [.int ra, .int 1, .int 99]) (rest := []) ⟨hx, hb, hml, hown, hts⟩ hK (c_X6_isWithin X l (k_W X n ad L (k_g C 0 D) fr) ra 1 99) (va_cwS 3 hts gX6_addLorry_X6_isWithin rfl rfl rfl (by decide +kernel) ⟨Nat.le_of_ble_eq_true rfl, Nat.le_of_ble_eq_true rfl⟩) hW rfl hl.1 rfl (Nat.le_of_ble_eq_true rfl) dX6_addLorry_15 ⟨Nat.le_of_ble_eq_true rfl, Nat.le_of_ble_eq_true rfl⟩ hL (fun v9 H locs hp hL => ?_)
    obtain ⟨rfl, hW⟩ := hp
    refine lv_if_ne (tgt := 31) hx hb dX6_addLorry_18 (by decide) (fun c2 => ?_) (fun c2 => ?_)
    ·
      refine lv_aload_n hx hb dX6_addLorry_31 rfl (lv_at hl 0 rfl) ?_
      refine k_get (g := 5) (K := RX6) (T := TX6) (N := 2) (v := .ref (ad 0 0 0)) (w := .ref (ad 0 0 0)) hx hb fX6 hown hK (k_ev hW) 16 0 hc.o (fun _ => rfl) rfl 0 (by decide) (hts (.fieldLink RX6 12 "Crossdockery" "dock" "LCrossdockery$Dock;") (by decide +kernel)) rfl rfl rfl dX6_addLorry_32 ?_
      refine k_get (K := RX0) (T := TX0) (N := 5) (v := .ref (ad 0 1 0)) (w := .ref (ad 0 1 0)) hx hb fX0 hown hK hW 0 0 hd.o (fun _ => rfl) rfl 0 (by decide) (hts (.fieldLink RX6 34 "Crossdockery$Dock" "lorries" "Ljava/util/ArrayList;") (by decide +kernel)) rfl rfl rfl dX6_addLorry_35 ?_
      refine k_callV (As := []) (rest := []) ⟨hx, hb, hml, hown, hts⟩ hK (c_size0 X l hd) (cwV 0 hts gX6_addLorry_Jx4a65c_size_8abf5 rfl rfl rfl (by decide +kernel) ⟨Nat.le_of_ble_eq_true rfl, Nat.le_of_ble_eq_true rfl⟩) (k_recv hK hW 1 0 (hd.li (by decide)) (fun _ => rfl) rfl) hW rfl hl.1 rfl (Nat.le_of_ble_eq_true rfl) dX6_addLorry_38 ⟨Nat.le_of_ble_eq_true rfl, Nat.le_of_ble_eq_true rfl⟩ hL (fun v9 H locs hp hL => ?_)
      obtain ⟨rfl, hW⟩ := hp
      refine lv_bipush (v := 8) hx hb dX6_addLorry_41 (by decide) ?_
      refine lv_icmp_lt (tgt := 56) hx hb dX6_addLorry_43 (by decide) (fun c3 => ?_) (fun c3 => ?_)
      ·
        refine lv_aload_n hx hb dX6_addLorry_56 rfl (lv_at hl 0 rfl) ?_
        refine lv_iconst (v := 0) hx hb dX6_addLorry_57 (by decide) ?_
        refine lv_iload_n hx hb dX6_addLorry_58 rfl (lv_at hl 1 rfl) ?_
        refine lv_if_eq (tgt := 66) hx hb dX6_addLorry_59 (by decide) (fun c4 => ?_) (fun c4 => ?_)
        ·
          refine lv_iconst (v := 0) hx hb dX6_addLorry_66 (by decide) ?_
          refine W.eq (g2 := F0 m 67 ls [.int (if br = 0 then (0 : Int32) else 1), .int 0, .ref (ad 5 16 0)]) (by rw [if_pos c4]; first | done | rfl) ?_
          refine lv_iload_n hx hb dX6_addLorry_67 rfl (lv_at hl 2 rfl) ?_
          refine lv_iload_n hx hb dX6_addLorry_68 rfl (lv_at hl 3 rfl) ?_
          have hok : kOk (D, nl, nt, ng) (k_fe 0 (if br = 0 then (0 : Int32) else 1) pl ra) := Or.inl ⟨rfl, (nI_ltI (a := nl) (b := 8) (by omega) (by decide)).mp (show nI nl < nI 8 from c3)⟩
          refine k_callV (As := [.int 0, .int (if br = 0 then (0 : Int32) else 1), .int pl, .int ra]) (rest := []) ⟨hx, hb, hml, hown, hts⟩ hK (c_X6_happen X l hd D hwf h9 hc hne 0 (if br = 0 then (0 : Int32) else 1) pl ra hok) (cwV 4 hts gX6_addLorry_X6_happen rfl rfl rfl (by decide +kernel) ⟨Nat.le_of_ble_eq_true rfl, Nat.le_of_ble_eq_true rfl⟩) (k_recv hK (k_ev hW) 16 0 hc.o (fun _ => rfl) rfl) hW rfl hl.1 rfl (Nat.le_of_ble_eq_true rfl) dX6_addLorry_69 ⟨Nat.le_of_ble_eq_true rfl, Nat.le_of_ble_eq_true rfl⟩ hL (fun v9 H locs hp hL => ?_)
          obtain ⟨rfl, hH⟩ := hp
          refine k_more (cells' := 5) (slots' := 805) (Nat.le_of_ble_eq_true rfl) (Nat.le_of_ble_eq_true rfl) (vx_ret ?_)
          exact k_iret hx hb hr hlocks (⟨(by unfold s_x_addLorry; first | rfl | (simp only [if_neg c1, if_neg c2, if_pos c3, if_pos c4]; done) | (simp only [if_neg c1, if_neg c2, if_pos c3, if_pos c4]; rfl)), rfl, hH⟩) hL dX6_addLorry_72
        ·
          refine lv_iconst (v := 1) hx hb dX6_addLorry_62 (by decide) ?_
          refine lv_goto (tgt := 67) hx hb dX6_addLorry_63 (by decide) ?_
          refine W.eq (g2 := F0 m 67 ls [.int (if br = 0 then (0 : Int32) else 1), .int 0, .ref (ad 5 16 0)]) (by rw [if_neg c4]; first | done | rfl) ?_
          refine lv_iload_n hx hb dX6_addLorry_67 rfl (lv_at hl 2 rfl) ?_
          refine lv_iload_n hx hb dX6_addLorry_68 rfl (lv_at hl 3 rfl) ?_
          have hok : kOk (D, nl, nt, ng) (k_fe 0 (if br = 0 then (0 : Int32) else 1) pl ra) := Or.inl ⟨rfl, (nI_ltI (a := nl) (b := 8) (by omega) (by decide)).mp (show nI nl < nI 8 from c3)⟩
          refine k_callV (As := [.int 0, .int (if br = 0 then (0 : Int32) else 1), .int pl, .int ra]) (rest := []) ⟨hx, hb, hml, hown, hts⟩ hK (c_X6_happen X l hd D hwf h9 hc hne 0 (if br = 0 then (0 : Int32) else 1) pl ra hok) (cwV 4 hts gX6_addLorry_X6_happen rfl rfl rfl (by decide +kernel) ⟨Nat.le_of_ble_eq_true rfl, Nat.le_of_ble_eq_true rfl⟩) (k_recv hK (k_ev hW) 16 0 hc.o (fun _ => rfl) rfl) hW rfl hl.1 rfl (Nat.le_of_ble_eq_true rfl) dX6_addLorry_69 ⟨Nat.le_of_ble_eq_true rfl, Nat.le_of_ble_eq_true rfl⟩ hL (fun v9 H locs hp hL => ?_)
          obtain ⟨rfl, hH⟩ := hp
          refine k_more (cells' := 5) (slots' := 805) (Nat.le_of_ble_eq_true rfl) (Nat.le_of_ble_eq_true rfl) (vx_ret ?_)
          exact k_iret hx hb hr hlocks (⟨(by unfold s_x_addLorry; first | rfl | (simp only [if_neg c1, if_neg c2, if_pos c3, if_neg c4]; done) | (simp only [if_neg c1, if_neg c2, if_pos c3, if_neg c4]; rfl)), rfl, hH⟩) hL dX6_addLorry_72
      ·
        exact k_throw (own := RX6) (cls := "java/lang/IllegalStateException") (text := "no room for another lorry") (ik := 41) (is := 43) (ic := 45) hx hb hl9 11 hown (by decide +kernel) hK rfl (hts (.classLink RX6 41 "java/lang/IllegalStateException") (by decide +kernel)) (hts (.initialized "java/lang/IllegalStateException") (by decide +kernel)) (fun w hw => hts w (ha_X6_addLorry_45 w hw)) bad_RX6_45 og_RX6_41_45 hW0 hW hL (hl.1.trans hml.symm) dX6_addLorry_46 dX6_addLorry_49 dX6_addLorry_50 dX6_addLorry_52 dX6_addLorry_55 ht (Nat.le_of_ble_eq_true rfl) (Nat.le_of_ble_eq_true rfl) (Nat.le_of_ble_eq_true rfl) (Nat.le_of_ble_eq_true rfl) hlocks (fun H1 hW => Or.inr (⟨rfl, (by unfold s_x_addLorry; first | rfl | (simp only [if_neg c1, if_neg c2, if_neg c3]; done) | (simp only [if_neg c1, if_neg c2, if_neg c3]; rfl)), hW⟩)) (Nat.le_of_ble_eq_true rfl) (Nat.le_of_ble_eq_true rfl)
    ·
      exact k_throw (own := RX6) (cls := "java/lang/IllegalArgumentException") (text := "planned minute or rate out of range") (ik := 27) (is := 29) (ic := 31) hx hb hl9 10 hown (by decide +kernel) hK rfl (hts (.classLink RX6 27 "java/lang/IllegalArgumentException") (by decide +kernel)) (hts (.initialized "java/lang/IllegalArgumentException") (by decide +kernel)) (fun w hw => hts w (ha_X6_addLorry_31 w hw)) bad_RX6_31 og_RX6_27_31 hW0 hW hL (hl.1.trans hml.symm) dX6_addLorry_21 dX6_addLorry_24 dX6_addLorry_25 dX6_addLorry_27 dX6_addLorry_30 ht (Nat.le_of_ble_eq_true rfl) (Nat.le_of_ble_eq_true rfl) (Nat.le_of_ble_eq_true rfl) (Nat.le_of_ble_eq_true rfl) hlocks (fun H1 hW => Or.inl ⟨rfl, (by unfold s_x_addLorry; first | rfl | (simp only [if_neg c1, if_pos c2]; done) | (simp only [if_neg c1, if_pos c2]; rfl)), hW⟩) (Nat.le_of_ble_eq_true rfl) (Nat.le_of_ble_eq_true rfl)
theorem ha_X6_addTransfer_31 : ∀ w ∈ (vx_atS RX6 31 "java/lang/IllegalArgumentException" ["java/lang/RuntimeException", "java/lang/Exception"]).filter goodWord, w ∈ wsX6_addTransfer := fun _ h => List.mem_cons_of_mem _ (List.mem_append_left _ (List.mem_append_left _ (List.mem_append_left _ (List.mem_append_right _ h))))
theorem ha_X6_addTransfer_45 : ∀ w ∈ (vx_atS RX6 45 "java/lang/IllegalStateException" ["java/lang/RuntimeException", "java/lang/Exception"]).filter goodWord, w ∈ wsX6_addTransfer := fun _ h => List.mem_cons_of_mem _ (List.mem_append_left _ (List.mem_append_left _ (List.mem_append_right _ h)))
def s_x_addTransfer (D : KD) (nl : Nat) (nt : Nat) (ng : Nat) (fo : Int32) (tu : Int32) (un : Int32) : Int32 := (if fo < 0 ∨ nl ≤ fo.toNatClampNeg then 1 else (if tu < 0 ∨ nl ≤ tu.toNatClampNeg then 1 else (if (D 4 fo.toNatClampNeg 1) = 0 then 2 else (if (D 4 tu.toNatClampNeg 1) = 0 then (if (s_X6_isWithin un 1 99) = 0 then 2 else (if (s_X3_isDocked D fo.toNatClampNeg) = 0 then (if (s_X3_isDocked D tu.toNatClampNeg) = 0 then (if (nI nt) < 16 then 0 else 3) else 3) else 3)) else 2))))
set_option maxHeartbeats 400000 in
set_option maxRecDepth 100000 in
theorem c_X6_addTransfer (X : kX) (l : Launch) {n : Nat → Nat → Nat} {ad L : Nat → Nat → Nat → Nat} {C : Nat → Nat → Nat → Nat → Int32} {fr : Nat → Option Cell} {nl nt ng : Nat} (hd : kDk n 0 nl nt ng) (D : KD) {ne : Nat} (hc : kCx n ne) (hwf : cWF D nl nt) (h9 : n 0 9 = 0) (hne : ne < 512) (fo : Int32) (tu : Int32) (un : Int32) (hl9 : l.stackTraces = false) : k_X X l yX6_addTransfer wsX6_addTransfer ({ frames := 10, cells := 7, slots := 817, locals := 259 }) [.ref (ad 5 16 0), .int fo, .int tu, .int un] (k_W X n ad L (k_g C 0 D) fr) (fun v H => s_x_addTransfer D nl nt ng fo tu un = 0 ∧ v = some (.int (s_und (D, nl, nt, ng) (k_fe 1 fo tu un)).2) ∧ kHap X n ad L C fr ne (k_fe 1 fo tu un) (s_und (D, nl, nt, ng) (k_fe 1 fo tu un)).1 H) (fun E H => (E = "java/lang/IndexOutOfBoundsException" ∧ s_x_addTransfer D nl nt ng fo tu un = 1 ∧ k_W X n ad L (k_g C 0 D) fr H) ∨ (E = "java/lang/IllegalArgumentException" ∧ s_x_addTransfer D nl nt ng fo tu un = 2 ∧ k_W X n ad L (k_g C 0 D) fr H) ∨ (E = "java/lang/IllegalStateException" ∧ s_x_addTransfer D nl nt ng fo tu un = 3 ∧ k_W X n ad L (k_g C 0 D) fr H)) 7 817 := by
  refine k_X.of (cc := cX6_addTransfer) (maxL := 6) (ret := (some .int)) (by decide) rfl (Nat.le_of_ble_eq_true rfl) ?_
  intro p e s m args below meth c ls hx hb hr hml hown hts hlocks hnm ht hK hW hl
  have hW0 := hW
  have hL : ∀ q ∈ ([] : List Loc), k_B X ≤ q.base := fun _ h => nomatch h
  have hl : lv_has ls 6 [(0, .ref (ad 5 16 0)), (1, .int fo), (2, .int tu), (3, .int un)] := hl
  have fX6 : ∀ w ∈ u_ws RX6 TX6 2, w.before args s = true := fun w h => hts w ((by decide +kernel : ∀ w ∈ u_ws RX6 TX6 2, w ∈ wsX6_addTransfer) w h)
  have fX0 : ∀ w ∈ u_ws RX0 TX0 5, w.before args s = true := fun w h => hts w ((by decide +kernel : ∀ w ∈ u_ws RX0 TX0 5, w ∈ wsX6_addTransfer) w h)
  have fX3 : ∀ w ∈ u_ws RX3 TX3 15, w.before args s = true := fun w h => hts w ((by decide +kernel : ∀ w ∈ u_ws RX3 TX3 15, w ∈ wsX6_addTransfer) w h)
  have hl8 := hd.l8
  have ht16 := hd.t16
  have hg4 := hd.g4
  refine lv_aload_n hx hb dX6_addTransfer_0 rfl (lv_at hl 0 rfl) ?_
  refine k_get (g := 5) (K := RX6) (T := TX6) (N := 2) (v := .ref (ad 0 0 0)) (w := .ref (ad 0 0 0)) hx hb fX6 hown hK (k_ev hW) 16 0 hc.o (fun _ => rfl) rfl 0 (by decide) (hts (.fieldLink RX6 12 "Crossdockery" "dock" "LCrossdockery$Dock;") (by decide +kernel)) rfl rfl rfl dX6_addTransfer_1 ?_
  refine lv_iload_n hx hb dX6_addTransfer_4 rfl (lv_at hl 1 rfl) ?_
  refine kx_callV (As := [.int fo]) (rest := []) ⟨hx, hb, hml, hown, hts⟩ hK (c_X0_existingLorry_x X l hd D fo hl9) (cwV 1 hts gX6_addTransfer_X0_existingLorry rfl rfl rfl (by decide +kernel) ⟨Nat.le_of_ble_eq_true rfl, Nat.le_of_ble_eq_true rfl⟩) (k_recv hK hW 0 0 hd.o (fun _ => rfl) rfl) hW rfl hl.1 rfl (Nat.le_of_ble_eq_true rfl) dX6_addTransfer_5 ⟨Nat.le_of_ble_eq_true rfl, Nat.le_of_ble_eq_true rfl⟩ hL (fun E ce q H locs hp hL hce hcv hcl => ?_) (fun v9 H locs hp hL => ?_)
  ·
    obtain ⟨rfl, c1, hW⟩ := hp
    replace c1 := k_vout c1
    exact k_outX ht hlocks hce hcv hcl (Or.inl ⟨rfl, (by unfold s_x_addTransfer; first | rfl | (simp only [if_pos c1]; done) | (simp only [if_pos c1]; rfl)), hW⟩) hL (Nat.le_of_ble_eq_true rfl) (Nat.le_of_ble_eq_true rfl)
  ·
    obtain ⟨c1, rfl, hW⟩ := hp
    refine lv_astore (lv' := [(4, .ref (ad 0 4 fo.toNatClampNeg)), (0, .ref (ad 5 16 0)), (1, .int fo), (2, .int tu), (3, .int un)]) hx hb dX6_addTransfer_8 hl (by decide) rfl (fun ls hl => ?_)
    refine lv_aload_n hx hb dX6_addTransfer_10 rfl (lv_at hl 1 rfl) ?_
    refine k_get (g := 5) (K := RX6) (T := TX6) (N := 2) (v := .ref (ad 0 0 0)) (w := .ref (ad 0 0 0)) hx hb fX6 hown hK (k_ev hW) 16 0 hc.o (fun _ => rfl) rfl 0 (by decide) (hts (.fieldLink RX6 12 "Crossdockery" "dock" "LCrossdockery$Dock;") (by decide +kernel)) rfl rfl rfl dX6_addTransfer_11 ?_
    refine lv_iload_n hx hb dX6_addTransfer_14 rfl (lv_at hl 3 rfl) ?_
    refine kx_callV (As := [.int tu]) (rest := []) ⟨hx, hb, hml, hown, hts⟩ hK (c_X0_existingLorry_x X l hd D tu hl9) (cwV 1 hts gX6_addTransfer_X0_existingLorry rfl rfl rfl (by decide +kernel) ⟨Nat.le_of_ble_eq_true rfl, Nat.le_of_ble_eq_true rfl⟩) (k_recv hK hW 0 0 hd.o (fun _ => rfl) rfl) hW rfl hl.1 rfl (Nat.le_of_ble_eq_true rfl) dX6_addTransfer_15 ⟨Nat.le_of_ble_eq_true rfl, Nat.le_of_ble_eq_true rfl⟩ hL (fun E ce q H locs hp hL hce hcv hcl => ?_) (fun v9 H locs hp hL => ?_)
    ·
      obtain ⟨rfl, c2, hW⟩ := hp
      replace c2 := k_vout c2
      exact k_outX ht hlocks hce hcv hcl (Or.inl ⟨rfl, (by unfold s_x_addTransfer; first | rfl | (simp only [if_neg c1, if_pos c2]; done) | (simp only [if_neg c1, if_pos c2]; rfl)), hW⟩) hL (Nat.le_of_ble_eq_true rfl) (Nat.le_of_ble_eq_true rfl)
    ·
      obtain ⟨c2, rfl, hW⟩ := hp
      refine lv_astore (lv' := [(5, .ref (ad 0 4 tu.toNatClampNeg)), (4, .ref (ad 0 4 fo.toNatClampNeg)), (0, .ref (ad 5 16 0)), (1, .int fo), (2, .int tu), (3, .int un)]) hx hb dX6_addTransfer_18 hl (by decide) rfl (fun ls hl => ?_)
      refine lv_aload hx hb dX6_addTransfer_20 (lv_at hl 1 rfl) ?_
      refine k_get (K := RX3) (T := TX3) (N := 15) (v := .int (D 4 fo.toNatClampNeg 1)) (w := .int (D 4 fo.toNatClampNeg 1)) hx hb fX3 hown hK hW 4 fo.toNatClampNeg (hd.lo (vp_in.lt c1)) (fun _ => rfl) rfl 1 (by decide) (hts (.fieldLink RX6 54 "Crossdockery$Lorry" "isBringing" "Z") (by decide +kernel)) rfl rfl rfl dX6_addTransfer_22 ?_
      refine lv_if_eq (tgt := 46) hx hb dX6_addTransfer_25 (by decide) (fun c3 => ?_) (fun c3 => ?_)
      ·
        exact k_throw (own := RX6) (cls := "java/lang/IllegalArgumentException") (text := "wrong kind of lorry, or units out of range") (ik := 27) (is := 60) (ic := 31) hx hb hl9 12 hown (by decide +kernel) hK rfl (hts (.classLink RX6 27 "java/lang/IllegalArgumentException") (by decide +kernel)) (hts (.initialized "java/lang/IllegalArgumentException") (by decide +kernel)) (fun w hw => hts w (ha_X6_addTransfer_31 w hw)) bad_RX6_31 og_RX6_27_31 hW0 hW hL (hl.1.trans hml.symm) dX6_addTransfer_46 dX6_addTransfer_49 dX6_addTransfer_50 dX6_addTransfer_52 dX6_addTransfer_55 ht (Nat.le_of_ble_eq_true rfl) (Nat.le_of_ble_eq_true rfl) (Nat.le_of_ble_eq_true rfl) (Nat.le_of_ble_eq_true rfl) hlocks (fun H1 hW => Or.inr (Or.inl ⟨rfl, (by unfold s_x_addTransfer; first | rfl | (simp only [if_neg c1, if_neg c2, if_pos c3]; done) | (simp only [if_neg c1, if_neg c2, if_pos c3]; rfl)), hW⟩)) (Nat.le_of_ble_eq_true rfl) (Nat.le_of_ble_eq_true rfl)
      ·
        refine lv_aload hx hb dX6_addTransfer_28 (lv_at hl 0 rfl) ?_
        refine k_get (K := RX3) (T := TX3) (N := 15) (v := .int (D 4 tu.toNatClampNeg 1)) (w := .int (D 4 tu.toNatClampNeg 1)) hx hb fX3 hown hK hW 4 tu.toNatClampNeg (hd.lo (vp_in.lt c2)) (fun _ => rfl) rfl 1 (by decide) (hts (.fieldLink RX6 54 "Crossdockery$Lorry" "isBringing" "Z") (by decide +kernel)) rfl rfl rfl dX6_addTransfer_30 ?_
        refine lv_if_ne (tgt := 46) hx hb dX6_addTransfer_33 (by decide) (fun c4 => ?_) (fun c4 => ?_)
        ·
          exact k_throw (own := RX6) (cls := "java/lang/IllegalArgumentException") (text := "wrong kind of lorry, or units out of range") (ik := 27) (is := 60) (ic := 31) hx hb hl9 12 hown (by decide +kernel) hK rfl (hts (.classLink RX6 27 "java/lang/IllegalArgumentException") (by decide +kernel)) (hts (.initialized "java/lang/IllegalArgumentException") (by decide +kernel)) (fun w hw => hts w (ha_X6_addTransfer_31 w hw)) bad_RX6_31 og_RX6_27_31 hW0 hW hL (hl.1.trans hml.symm) dX6_addTransfer_46 dX6_addTransfer_49 dX6_addTransfer_50 dX6_addTransfer_52 dX6_addTransfer_55 ht (Nat.le_of_ble_eq_true rfl) (Nat.le_of_ble_eq_true rfl) (Nat.le_of_ble_eq_true rfl) (Nat.le_of_ble_eq_true rfl) hlocks (fun H1 hW => Or.inr (Or.inl ⟨rfl, (by unfold s_x_addTransfer; first | rfl | (simp only [if_neg c1, if_neg c2, if_neg c3, if_neg c4]; done) | (simp only [if_neg c1, if_neg c2, if_neg c3, if_neg c4]; rfl)), hW⟩)) (Nat.le_of_ble_eq_true rfl) (Nat.le_of_ble_eq_true rfl)
        ·
          refine lv_iload_n hx hb dX6_addTransfer_36 rfl (lv_at hl 5 rfl) ?_
          refine lv_iconst (v := 1) hx hb dX6_addTransfer_37 (by decide) ?_
          refine lv_bipush (v := 99) hx hb dX6_addTransfer_38 (by decide) ?_
          refine k_callS (As := [.int un, .int 1, .int 99]) (rest := []) ⟨hx, hb, hml, hown, hts⟩ hK (c_X6_isWithin X l (k_W X n ad L (k_g C 0 D) fr) un 1 99) (va_cwS 3 hts gX6_addTransfer_X6_isWithin rfl rfl rfl (by decide +kernel) ⟨Nat.le_of_ble_eq_true rfl, Nat.le_of_ble_eq_true rfl⟩) hW rfl hl.1 rfl (Nat.le_of_ble_eq_true rfl) dX6_addTransfer_40 ⟨Nat.le_of_ble_eq_true rfl, Nat.le_of_ble_eq_true rfl⟩ hL (fun v9 H locs hp hL => ?_)
          obtain ⟨rfl, hW⟩ := hp
          refine lv_if_ne (tgt := 56) hx hb dX6_addTransfer_43 (by decide) (fun c5 => ?_) (fun c5 => ?_)
          ·
            refine lv_aload hx hb dX6_addTransfer_56 (lv_at hl 1 rfl) ?_
            refine k_callV (As := []) (rest := []) ⟨hx, hb, hml, hown, hts⟩ hK (c_X3_isDocked X l hd D fo.toNatClampNeg (vp_in.lt c1)) (cwV 0 hts gX6_addTransfer_X3_isDocked rfl rfl rfl (by decide +kernel) ⟨Nat.le_of_ble_eq_true rfl, Nat.le_of_ble_eq_true rfl⟩) (k_recv hK hW 4 fo.toNatClampNeg (hd.lo (vp_in.lt c1)) (fun _ => rfl) rfl) hW rfl hl.1 rfl (Nat.le_of_ble_eq_true rfl) dX6_addTransfer_58 ⟨Nat.le_of_ble_eq_true rfl, Nat.le_of_ble_eq_true rfl⟩ hL (fun v9 H locs hp hL => ?_)
            obtain ⟨rfl, hW⟩ := hp
            refine lv_if_ne (tgt := 87) hx hb dX6_addTransfer_61 (by decide) (fun c6 => ?_) (fun c6 => ?_)
            ·
              exact k_throw (own := RX6) (cls := "java/lang/IllegalStateException") (text := "a lorry is past the yard, or no room for another transfer") (ik := 41) (is := 69) (ic := 45) hx hb hl9 13 hown (by decide +kernel) hK rfl (hts (.classLink RX6 41 "java/lang/IllegalStateException") (by decide +kernel)) (hts (.initialized "java/lang/IllegalStateException") (by decide +kernel)) (fun w hw => hts w (ha_X6_addTransfer_45 w hw)) bad_RX6_45 og_RX6_41_45 hW0 hW hL (hl.1.trans hml.symm) dX6_addTransfer_87 dX6_addTransfer_90 dX6_addTransfer_91 dX6_addTransfer_93 dX6_addTransfer_96 ht (Nat.le_of_ble_eq_true rfl) (Nat.le_of_ble_eq_true rfl) (Nat.le_of_ble_eq_true rfl) (Nat.le_of_ble_eq_true rfl) hlocks (fun H1 hW => Or.inr (Or.inr (⟨rfl, (by unfold s_x_addTransfer; first | rfl | (simp only [if_neg c1, if_neg c2, if_neg c3, if_pos c4, if_neg c5, if_neg c6]; done) | (simp only [if_neg c1, if_neg c2, if_neg c3, if_pos c4, if_neg c5, if_neg c6]; rfl)), hW⟩))) (Nat.le_of_ble_eq_true rfl) (Nat.le_of_ble_eq_true rfl)
            ·
              refine lv_aload hx hb dX6_addTransfer_64 (lv_at hl 0 rfl) ?_
              refine k_callV (As := []) (rest := []) ⟨hx, hb, hml, hown, hts⟩ hK (c_X3_isDocked X l hd D tu.toNatClampNeg (vp_in.lt c2)) (cwV 0 hts gX6_addTransfer_X3_isDocked rfl rfl rfl (by decide +kernel) ⟨Nat.le_of_ble_eq_true rfl, Nat.le_of_ble_eq_true rfl⟩) (k_recv hK hW 4 tu.toNatClampNeg (hd.lo (vp_in.lt c2)) (fun _ => rfl) rfl) hW rfl hl.1 rfl (Nat.le_of_ble_eq_true rfl) dX6_addTransfer_66 ⟨Nat.le_of_ble_eq_true rfl, Nat.le_of_ble_eq_true rfl⟩ hL (fun v9 H locs hp hL => ?_)
              obtain ⟨rfl, hW⟩ := hp
              refine lv_if_ne (tgt := 87) hx hb dX6_addTransfer_69 (by decide) (fun c7 => ?_) (fun c7 => ?_)
              ·
                exact k_throw (own := RX6) (cls := "java/lang/IllegalStateException") (text := "a lorry is past the yard, or no room for another transfer") (ik := 41) (is := 69) (ic := 45) hx hb hl9 13 hown (by decide +kernel) hK rfl (hts (.classLink RX6 41 "java/lang/IllegalStateException") (by decide +kernel)) (hts (.initialized "java/lang/IllegalStateException") (by decide +kernel)) (fun w hw => hts w (ha_X6_addTransfer_45 w hw)) bad_RX6_45 og_RX6_41_45 hW0 hW hL (hl.1.trans hml.symm) dX6_addTransfer_87 dX6_addTransfer_90 dX6_addTransfer_91 dX6_addTransfer_93 dX6_addTransfer_96 ht (Nat.le_of_ble_eq_true rfl) (Nat.le_of_ble_eq_true rfl) (Nat.le_of_ble_eq_true rfl) (Nat.le_of_ble_eq_true rfl) hlocks (fun H1 hW => Or.inr (Or.inr (⟨rfl, (by unfold s_x_addTransfer; first | rfl | (simp only [if_neg c1, if_neg c2, if_neg c3, if_pos c4, if_neg c5, if_pos c6, if_neg c7]; done) | (simp only [if_neg c1, if_neg c2, if_neg c3, if_pos c4, if_neg c5, if_pos c6, if_neg c7]; rfl)), hW⟩))) (Nat.le_of_ble_eq_true rfl) (Nat.le_of_ble_eq_true rfl)
              ·
                refine lv_aload_n hx hb dX6_addTransfer_72 rfl (lv_at hl 2 rfl) ?_
                refine k_get (g := 5) (K := RX6) (T := TX6) (N := 2) (v := .ref (ad 0 0 0)) (w := .ref (ad 0 0 0)) hx hb fX6 hown hK (k_ev hW) 16 0 hc.o (fun _ => rfl) rfl 0 (by decide) (hts (.fieldLink RX6 12 "Crossdockery" "dock" "LCrossdockery$Dock;") (by decide +kernel)) rfl rfl rfl dX6_addTransfer_73 ?_
                refine k_get (K := RX0) (T := TX0) (N := 5) (v := .ref (ad 0 1 1)) (w := .ref (ad 0 1 1)) hx hb fX0 hown hK hW 0 0 hd.o (fun _ => rfl) rfl 1 (by decide) (hts (.fieldLink RX6 66 "Crossdockery$Dock" "transfers" "Ljava/util/ArrayList;") (by decide +kernel)) rfl rfl rfl dX6_addTransfer_76 ?_
                refine k_callV (As := []) (rest := []) ⟨hx, hb, hml, hown, hts⟩ hK (c_size1 X l hd) (cwV 0 hts gX6_addTransfer_Jx4a65c_size_8abf5 rfl rfl rfl (by decide +kernel) ⟨Nat.le_of_ble_eq_true rfl, Nat.le_of_ble_eq_true rfl⟩) (k_recv hK hW 1 1 (hd.li (by decide)) (fun _ => rfl) rfl) hW rfl hl.1 rfl (Nat.le_of_ble_eq_true rfl) dX6_addTransfer_79 ⟨Nat.le_of_ble_eq_true rfl, Nat.le_of_ble_eq_true rfl⟩ hL (fun v9 H locs hp hL => ?_)
                obtain ⟨rfl, hW⟩ := hp
                refine lv_bipush (v := 16) hx hb dX6_addTransfer_82 (by decide) ?_
                refine lv_icmp_lt (tgt := 97) hx hb dX6_addTransfer_84 (by decide) (fun c8 => ?_) (fun c8 => ?_)
                ·
                  refine lv_aload_n hx hb dX6_addTransfer_97 rfl (lv_at hl 2 rfl) ?_
                  refine lv_iconst (v := 1) hx hb dX6_addTransfer_98 (by decide) ?_
                  refine lv_iload_n hx hb dX6_addTransfer_99 rfl (lv_at hl 3 rfl) ?_
                  refine lv_iload_n hx hb dX6_addTransfer_100 rfl (lv_at hl 4 rfl) ?_
                  refine lv_iload_n hx hb dX6_addTransfer_101 rfl (lv_at hl 5 rfl) ?_
                  have hok : kOk (D, nl, nt, ng) (k_fe 1 fo tu un) := Or.inr (Or.inl ⟨rfl, (nI_ltI (a := nt) (b := 16) (by omega) (by decide)).mp (show nI nt < nI 16 from c8), c1, c2⟩)
                  refine k_callV (As := [.int 1, .int fo, .int tu, .int un]) (rest := []) ⟨hx, hb, hml, hown, hts⟩ hK (c_X6_happen X l hd D hwf h9 hc hne 1 fo tu un hok) (cwV 4 hts gX6_addTransfer_X6_happen rfl rfl rfl (by decide +kernel) ⟨Nat.le_of_ble_eq_true rfl, Nat.le_of_ble_eq_true rfl⟩) (k_recv hK (k_ev hW) 16 0 hc.o (fun _ => rfl) rfl) hW rfl hl.1 rfl (Nat.le_of_ble_eq_true rfl) dX6_addTransfer_102 ⟨Nat.le_of_ble_eq_true rfl, Nat.le_of_ble_eq_true rfl⟩ hL (fun v9 H locs hp hL => ?_)
                  obtain ⟨rfl, hH⟩ := hp
                  refine k_more (cells' := 7) (slots' := 817) (Nat.le_of_ble_eq_true rfl) (Nat.le_of_ble_eq_true rfl) (vx_ret ?_)
                  exact k_iret hx hb hr hlocks (⟨(by unfold s_x_addTransfer; first | rfl | (simp only [if_neg c1, if_neg c2, if_neg c3, if_pos c4, if_neg c5, if_pos c6, if_pos c7, if_pos c8]; done) | (simp only [if_neg c1, if_neg c2, if_neg c3, if_pos c4, if_neg c5, if_pos c6, if_pos c7, if_pos c8]; rfl)), rfl, hH⟩) hL dX6_addTransfer_105
                ·
                  exact k_throw (own := RX6) (cls := "java/lang/IllegalStateException") (text := "a lorry is past the yard, or no room for another transfer") (ik := 41) (is := 69) (ic := 45) hx hb hl9 13 hown (by decide +kernel) hK rfl (hts (.classLink RX6 41 "java/lang/IllegalStateException") (by decide +kernel)) (hts (.initialized "java/lang/IllegalStateException") (by decide +kernel)) (fun w hw => hts w (ha_X6_addTransfer_45 w hw)) bad_RX6_45 og_RX6_41_45 hW0 hW hL (hl.1.trans hml.symm) dX6_addTransfer_87 dX6_addTransfer_90 dX6_addTransfer_91 dX6_addTransfer_93 dX6_addTransfer_96 ht (Nat.le_of_ble_eq_true rfl) (Nat.le_of_ble_eq_true rfl) (Nat.le_of_ble_eq_true rfl) (Nat.le_of_ble_eq_true rfl) hlocks (fun H1 hW => Or.inr (Or.inr (⟨rfl, (by unfold s_x_addTransfer; first | rfl | (simp only [if_neg c1, if_neg c2, if_neg c3, if_pos c4, if_neg c5, if_pos c6, if_pos c7, if_neg c8]; done) | (simp only [if_neg c1, if_neg c2, if_neg c3, if_pos c4, if_neg c5, if_pos c6, if_pos c7, if_neg c8]; rfl)), hW⟩))) (Nat.le_of_ble_eq_true rfl) (Nat.le_of_ble_eq_true rfl)
          ·
            exact k_throw (own := RX6) (cls := "java/lang/IllegalArgumentException") (text := "wrong kind of lorry, or units out of range") (ik := 27) (is := 60) (ic := 31) hx hb hl9 12 hown (by decide +kernel) hK rfl (hts (.classLink RX6 27 "java/lang/IllegalArgumentException") (by decide +kernel)) (hts (.initialized "java/lang/IllegalArgumentException") (by decide +kernel)) (fun w hw => hts w (ha_X6_addTransfer_31 w hw)) bad_RX6_31 og_RX6_27_31 hW0 hW hL (hl.1.trans hml.symm) dX6_addTransfer_46 dX6_addTransfer_49 dX6_addTransfer_50 dX6_addTransfer_52 dX6_addTransfer_55 ht (Nat.le_of_ble_eq_true rfl) (Nat.le_of_ble_eq_true rfl) (Nat.le_of_ble_eq_true rfl) (Nat.le_of_ble_eq_true rfl) hlocks (fun H1 hW => Or.inr (Or.inl ⟨rfl, (by unfold s_x_addTransfer; first | rfl | (simp only [if_neg c1, if_neg c2, if_neg c3, if_pos c4, if_pos c5]; done) | (simp only [if_neg c1, if_neg c2, if_neg c3, if_pos c4, if_pos c5]; rfl)), hW⟩)) (Nat.le_of_ble_eq_true rfl) (Nat.le_of_ble_eq_true rfl)
theorem ha_X6_planDoor_45 : ∀ w ∈ (vx_atS RX6 45 "java/lang/IllegalStateException" ["java/lang/RuntimeException", "java/lang/Exception"]).filter goodWord, w ∈ wsX6_planDoor := fun _ h => List.mem_cons_of_mem _ (List.mem_append_left _ (List.mem_append_left _ (List.mem_append_left _ (List.mem_append_right _ h))))
def s_x_planDoor (D : KD) (nl : Nat) (nt : Nat) (ng : Nat) (lo : Int32) (d : Int32) : Int32 := (if lo < 0 ∨ nl ≤ lo.toNatClampNeg then 1 else (if s_x_requireDoor d = 0 then (if (s_X3_isDocked D lo.toNatClampNeg) = 0 then 0 else 2) else 1))
set_option maxHeartbeats 400000 in
set_option maxRecDepth 100000 in
theorem c_X6_planDoor (X : kX) (l : Launch) {n : Nat → Nat → Nat} {ad L : Nat → Nat → Nat → Nat} {C : Nat → Nat → Nat → Nat → Int32} {fr : Nat → Option Cell} {nl nt ng : Nat} (hd : kDk n 0 nl nt ng) (D : KD) {ne : Nat} (hc : kCx n ne) (hwf : cWF D nl nt) (h9 : n 0 9 = 0) (hne : ne < 512) (lo : Int32) (d : Int32) (hl9 : l.stackTraces = false) : k_X X l yX6_planDoor wsX6_planDoor ({ frames := 10, cells := 7, slots := 817, locals := 259 }) [.ref (ad 5 16 0), .int lo, .int d] (k_W X n ad L (k_g C 0 D) fr) (fun v H => s_x_planDoor D nl nt ng lo d = 0 ∧ v = some (.int (s_und (D, nl, nt, ng) (k_fe 2 lo d 0)).2) ∧ kHap X n ad L C fr ne (k_fe 2 lo d 0) (s_und (D, nl, nt, ng) (k_fe 2 lo d 0)).1 H) (fun E H => (E = "java/lang/IndexOutOfBoundsException" ∧ s_x_planDoor D nl nt ng lo d = 1 ∧ k_W X n ad L (k_g C 0 D) fr H) ∨ (E = "java/lang/IllegalStateException" ∧ s_x_planDoor D nl nt ng lo d = 2 ∧ k_W X n ad L (k_g C 0 D) fr H)) 7 817 := by
  refine k_X.of (cc := cX6_planDoor) (maxL := 4) (ret := (some .int)) (by decide) rfl (Nat.le_of_ble_eq_true rfl) ?_
  intro p e s m args below meth c ls hx hb hr hml hown hts hlocks hnm ht hK hW hl
  have hW0 := hW
  have hL : ∀ q ∈ ([] : List Loc), k_B X ≤ q.base := fun _ h => nomatch h
  have hl : lv_has ls 4 [(0, .ref (ad 5 16 0)), (1, .int lo), (2, .int d)] := hl
  have fX6 : ∀ w ∈ u_ws RX6 TX6 2, w.before args s = true := fun w h => hts w ((by decide +kernel : ∀ w ∈ u_ws RX6 TX6 2, w ∈ wsX6_planDoor) w h)
  have fX0 : ∀ w ∈ u_ws RX0 TX0 5, w.before args s = true := fun w h => hts w ((by decide +kernel : ∀ w ∈ u_ws RX0 TX0 5, w ∈ wsX6_planDoor) w h)
  have fX3 : ∀ w ∈ u_ws RX3 TX3 15, w.before args s = true := fun w h => hts w ((by decide +kernel : ∀ w ∈ u_ws RX3 TX3 15, w ∈ wsX6_planDoor) w h)
  have hl8 := hd.l8
  have ht16 := hd.t16
  have hg4 := hd.g4
  refine lv_aload_n hx hb dX6_planDoor_0 rfl (lv_at hl 0 rfl) ?_
  refine k_get (g := 5) (K := RX6) (T := TX6) (N := 2) (v := .ref (ad 0 0 0)) (w := .ref (ad 0 0 0)) hx hb fX6 hown hK (k_ev hW) 16 0 hc.o (fun _ => rfl) rfl 0 (by decide) (hts (.fieldLink RX6 12 "Crossdockery" "dock" "LCrossdockery$Dock;") (by decide +kernel)) rfl rfl rfl dX6_planDoor_1 ?_
  refine lv_iload_n hx hb dX6_planDoor_4 rfl (lv_at hl 1 rfl) ?_
  refine kx_callV (As := [.int lo]) (rest := []) ⟨hx, hb, hml, hown, hts⟩ hK (c_X0_existingLorry_x X l hd D lo hl9) (cwV 1 hts gX6_planDoor_X0_existingLorry rfl rfl rfl (by decide +kernel) ⟨Nat.le_of_ble_eq_true rfl, Nat.le_of_ble_eq_true rfl⟩) (k_recv hK hW 0 0 hd.o (fun _ => rfl) rfl) hW rfl hl.1 rfl (Nat.le_of_ble_eq_true rfl) dX6_planDoor_5 ⟨Nat.le_of_ble_eq_true rfl, Nat.le_of_ble_eq_true rfl⟩ hL (fun E ce q H locs hp hL hce hcv hcl => ?_) (fun v9 H locs hp hL => ?_)
  ·
    obtain ⟨rfl, c1, hW⟩ := hp
    replace c1 := k_vout c1
    exact k_outX ht hlocks hce hcv hcl (Or.inl ⟨rfl, (by unfold s_x_planDoor; first | rfl | (simp only [if_pos c1]; done) | (simp only [if_pos c1]; rfl)), hW⟩) hL (Nat.le_of_ble_eq_true rfl) (Nat.le_of_ble_eq_true rfl)
  ·
    obtain ⟨c1, rfl, hW⟩ := hp
    refine lv_astore_n (lv' := [(3, .ref (ad 0 4 lo.toNatClampNeg)), (0, .ref (ad 5 16 0)), (1, .int lo), (2, .int d)]) hx hb dX6_planDoor_8 rfl hl (by decide) rfl (fun ls hl => ?_)
    refine lv_iload_n hx hb dX6_planDoor_9 rfl (lv_at hl 3 rfl) ?_
    refine kx_callS (As := [.int d]) (rest := []) ⟨hx, hb, hml, hown, hts⟩ hK (c_X6_requireDoor X l D d hl9) (cwS 1 hts gX6_planDoor_X6_requireDoor rfl rfl rfl (by decide +kernel) ⟨Nat.le_of_ble_eq_true rfl, Nat.le_of_ble_eq_true rfl⟩) hW rfl hl.1 rfl (Nat.le_of_ble_eq_true rfl) dX6_planDoor_10 ⟨Nat.le_of_ble_eq_true rfl, Nat.le_of_ble_eq_true rfl⟩ hL (fun E ce q H locs hp hL hce hcv hcl => ?_) (fun v9 H locs hp hL => ?_)
    ·
      obtain ⟨rfl, c2, hW⟩ := hp
      replace c2 := k_one0 c2
      exact k_outX ht hlocks hce hcv hcl (Or.inl ⟨rfl, (by unfold s_x_planDoor; first | rfl | (simp only [if_neg c1, if_neg c2]; done) | (simp only [if_neg c1, if_neg c2]; rfl)), hW⟩) hL (Nat.le_of_ble_eq_true rfl) (Nat.le_of_ble_eq_true rfl)
    ·
      obtain ⟨c2, rfl, hW⟩ := hp
      refine lv_aload_n hx hb dX6_planDoor_13 rfl (lv_at hl 0 rfl) ?_
      refine k_callV (As := []) (rest := []) ⟨hx, hb, hml, hown, hts⟩ hK (c_X3_isDocked X l hd D lo.toNatClampNeg (vp_in.lt c1)) (cwV 0 hts gX6_planDoor_X3_isDocked rfl rfl rfl (by decide +kernel) ⟨Nat.le_of_ble_eq_true rfl, Nat.le_of_ble_eq_true rfl⟩) (k_recv hK hW 4 lo.toNatClampNeg (hd.lo (vp_in.lt c1)) (fun _ => rfl) rfl) hW rfl hl.1 rfl (Nat.le_of_ble_eq_true rfl) dX6_planDoor_14 ⟨Nat.le_of_ble_eq_true rfl, Nat.le_of_ble_eq_true rfl⟩ hL (fun v9 H locs hp hL => ?_)
      obtain ⟨rfl, hW⟩ := hp
      refine lv_if_eq (tgt := 30) hx hb dX6_planDoor_17 (by decide) (fun c3 => ?_) (fun c3 => ?_)
      ·
        refine lv_aload_n hx hb dX6_planDoor_30 rfl (lv_at hl 1 rfl) ?_
        refine lv_iconst (v := 2) hx hb dX6_planDoor_31 (by decide) ?_
        refine lv_iload_n hx hb dX6_planDoor_32 rfl (lv_at hl 2 rfl) ?_
        refine lv_iload_n hx hb dX6_planDoor_33 rfl (lv_at hl 3 rfl) ?_
        refine lv_iconst (v := 0) hx hb dX6_planDoor_34 (by decide) ?_
        have hok : kOk (D, nl, nt, ng) (k_fe 2 lo d 0) := Or.inr (Or.inr (Or.inl ⟨rfl, c1⟩))
        refine k_callV (As := [.int 2, .int lo, .int d, .int 0]) (rest := []) ⟨hx, hb, hml, hown, hts⟩ hK (c_X6_happen X l hd D hwf h9 hc hne 2 lo d 0 hok) (cwV 4 hts gX6_planDoor_X6_happen rfl rfl rfl (by decide +kernel) ⟨Nat.le_of_ble_eq_true rfl, Nat.le_of_ble_eq_true rfl⟩) (k_recv hK (k_ev hW) 16 0 hc.o (fun _ => rfl) rfl) hW rfl hl.1 rfl (Nat.le_of_ble_eq_true rfl) dX6_planDoor_35 ⟨Nat.le_of_ble_eq_true rfl, Nat.le_of_ble_eq_true rfl⟩ hL (fun v9 H locs hp hL => ?_)
        obtain ⟨rfl, hH⟩ := hp
        refine k_more (cells' := 7) (slots' := 817) (Nat.le_of_ble_eq_true rfl) (Nat.le_of_ble_eq_true rfl) (vx_ret ?_)
        exact k_iret hx hb hr hlocks (⟨(by unfold s_x_planDoor; first | rfl | (simp only [if_neg c1, if_pos c2, if_pos c3]; done) | (simp only [if_neg c1, if_pos c2, if_pos c3]; rfl)), rfl, hH⟩) hL dX6_planDoor_38
      ·
        exact k_throw (own := RX6) (cls := "java/lang/IllegalStateException") (text := "the lorry is past the yard") (ik := 41) (is := 75) (ic := 45) hx hb hl9 14 hown (by decide +kernel) hK rfl (hts (.classLink RX6 41 "java/lang/IllegalStateException") (by decide +kernel)) (hts (.initialized "java/lang/IllegalStateException") (by decide +kernel)) (fun w hw => hts w (ha_X6_planDoor_45 w hw)) bad_RX6_45 og_RX6_41_45 hW0 hW hL (hl.1.trans hml.symm) dX6_planDoor_20 dX6_planDoor_23 dX6_planDoor_24 dX6_planDoor_26 dX6_planDoor_29 ht (Nat.le_of_ble_eq_true rfl) (Nat.le_of_ble_eq_true rfl) (Nat.le_of_ble_eq_true rfl) (Nat.le_of_ble_eq_true rfl) hlocks (fun H1 hW => Or.inr (⟨rfl, (by unfold s_x_planDoor; first | rfl | (simp only [if_neg c1, if_pos c2, if_neg c3]; done) | (simp only [if_neg c1, if_pos c2, if_neg c3]; rfl)), hW⟩)) (Nat.le_of_ble_eq_true rfl) (Nat.le_of_ble_eq_true rfl)
theorem ha_X6_arrive_91 : ∀ w ∈ (vx_atS RX6 91 "java/lang/UnsupportedOperationException" ["java/lang/RuntimeException", "java/lang/Exception"]).filter goodWord, w ∈ wsX6_arrive := fun _ h => List.mem_cons_of_mem _ (List.mem_append_left _ (List.mem_append_left _ (List.mem_append_right _ h)))
theorem bad_RX6_91 : ∀ w ∈ (vx_atS RX6 91 "java/lang/UnsupportedOperationException" ["java/lang/RuntimeException", "java/lang/Exception"]).filter (fun w => !goodWord w), w ∈ k_nw := by decide +kernel
theorem og_RX6_87_91 : ∀ w ∈ Cond.classLink RX6 87 "java/lang/UnsupportedOperationException" :: Cond.initialized "java/lang/UnsupportedOperationException" :: vx_atS RX6 91 "java/lang/UnsupportedOperationException" ["java/lang/RuntimeException", "java/lang/Exception"], vx_ot w = true := by decide +kernel
theorem ha_X6_arrive_45 : ∀ w ∈ (vx_atS RX6 45 "java/lang/IllegalStateException" ["java/lang/RuntimeException", "java/lang/Exception"]).filter goodWord, w ∈ wsX6_arrive := fun _ h => List.mem_cons_of_mem _ (List.mem_append_left _ (List.mem_append_left _ (List.mem_append_left _ (List.mem_append_right _ h))))
def s_x_arrive (D : KD) (nl : Nat) (nt : Nat) (ng : Nat) (lo : Int32) : Int32 := (if lo < 0 ∨ nl ≤ lo.toNatClampNeg then 1 else (if (D 4 lo.toNatClampNeg 5) = 101 then (if (D 4 lo.toNatClampNeg 4) = (-1) then 3 else 0) else 2))
set_option maxHeartbeats 400000 in
set_option maxRecDepth 100000 in
theorem c_X6_arrive (X : kX) (l : Launch) {n : Nat → Nat → Nat} {ad L : Nat → Nat → Nat → Nat} {C : Nat → Nat → Nat → Nat → Int32} {fr : Nat → Option Cell} {nl nt ng : Nat} (hd : kDk n 0 nl nt ng) (D : KD) {ne : Nat} (hc : kCx n ne) (hwf : cWF D nl nt) (h9 : n 0 9 = 0) (hne : ne < 512) (lo : Int32) (hl9 : l.stackTraces = false) : k_X X l yX6_arrive wsX6_arrive ({ frames := 10, cells := 6, slots := 811, locals := 259 }) [.ref (ad 5 16 0), .int lo] (k_W X n ad L (k_g C 0 D) fr) (fun v H => s_x_arrive D nl nt ng lo = 0 ∧ v = some (.int (s_und (D, nl, nt, ng) (k_fe 3 lo 0 0)).2) ∧ kHap X n ad L C fr ne (k_fe 3 lo 0 0) (s_und (D, nl, nt, ng) (k_fe 3 lo 0 0)).1 H) (fun E H => (E = "java/lang/IndexOutOfBoundsException" ∧ s_x_arrive D nl nt ng lo = 1 ∧ k_W X n ad L (k_g C 0 D) fr H) ∨ (E = "java/lang/IllegalStateException" ∧ s_x_arrive D nl nt ng lo = 2 ∧ k_W X n ad L (k_g C 0 D) fr H) ∨ (E = "java/lang/UnsupportedOperationException" ∧ s_x_arrive D nl nt ng lo = 3 ∧ k_W X n ad L (k_g C 0 D) fr H)) 6 811 := by
  refine k_X.of (cc := cX6_arrive) (maxL := 3) (ret := (some .int)) (by decide) rfl (Nat.le_of_ble_eq_true rfl) ?_
  intro p e s m args below meth c ls hx hb hr hml hown hts hlocks hnm ht hK hW hl
  have hW0 := hW
  have hL : ∀ q ∈ ([] : List Loc), k_B X ≤ q.base := fun _ h => nomatch h
  have hl : lv_has ls 3 [(0, .ref (ad 5 16 0)), (1, .int lo)] := hl
  have fX6 : ∀ w ∈ u_ws RX6 TX6 2, w.before args s = true := fun w h => hts w ((by decide +kernel : ∀ w ∈ u_ws RX6 TX6 2, w ∈ wsX6_arrive) w h)
  have fX0 : ∀ w ∈ u_ws RX0 TX0 5, w.before args s = true := fun w h => hts w ((by decide +kernel : ∀ w ∈ u_ws RX0 TX0 5, w ∈ wsX6_arrive) w h)
  have fX3 : ∀ w ∈ u_ws RX3 TX3 15, w.before args s = true := fun w h => hts w ((by decide +kernel : ∀ w ∈ u_ws RX3 TX3 15, w ∈ wsX6_arrive) w h)
  have hl8 := hd.l8
  have ht16 := hd.t16
  have hg4 := hd.g4
  refine lv_aload_n hx hb dX6_arrive_0 rfl (lv_at hl 0 rfl) ?_
  refine k_get (g := 5) (K := RX6) (T := TX6) (N := 2) (v := .ref (ad 0 0 0)) (w := .ref (ad 0 0 0)) hx hb fX6 hown hK (k_ev hW) 16 0 hc.o (fun _ => rfl) rfl 0 (by decide) (hts (.fieldLink RX6 12 "Crossdockery" "dock" "LCrossdockery$Dock;") (by decide +kernel)) rfl rfl rfl dX6_arrive_1 ?_
  refine lv_iload_n hx hb dX6_arrive_4 rfl (lv_at hl 1 rfl) ?_
  refine kx_callV (As := [.int lo]) (rest := []) ⟨hx, hb, hml, hown, hts⟩ hK (c_X0_existingLorry_x X l hd D lo hl9) (cwV 1 hts gX6_arrive_X0_existingLorry rfl rfl rfl (by decide +kernel) ⟨Nat.le_of_ble_eq_true rfl, Nat.le_of_ble_eq_true rfl⟩) (k_recv hK hW 0 0 hd.o (fun _ => rfl) rfl) hW rfl hl.1 rfl (Nat.le_of_ble_eq_true rfl) dX6_arrive_5 ⟨Nat.le_of_ble_eq_true rfl, Nat.le_of_ble_eq_true rfl⟩ hL (fun E ce q H locs hp hL hce hcv hcl => ?_) (fun v9 H locs hp hL => ?_)
  ·
    obtain ⟨rfl, c1, hW⟩ := hp
    replace c1 := k_vout c1
    exact k_outX ht hlocks hce hcv hcl (Or.inl ⟨rfl, (by unfold s_x_arrive; first | rfl | (simp only [if_pos c1]; done) | (simp only [if_pos c1]; rfl)), hW⟩) hL (Nat.le_of_ble_eq_true rfl) (Nat.le_of_ble_eq_true rfl)
  ·
    obtain ⟨c1, rfl, hW⟩ := hp
    refine lv_astore_n (lv' := [(2, .ref (ad 0 4 lo.toNatClampNeg)), (0, .ref (ad 5 16 0)), (1, .int lo)]) hx hb dX6_arrive_8 rfl hl (by decide) rfl (fun ls hl => ?_)
    refine lv_aload_n hx hb dX6_arrive_9 rfl (lv_at hl 0 rfl) ?_
    refine k_get (K := RX3) (T := TX3) (N := 15) (v := .int (D 4 lo.toNatClampNeg 5)) (w := .int (D 4 lo.toNatClampNeg 5)) hx hb fX3 hown hK hW 4 lo.toNatClampNeg (hd.lo (vp_in.lt c1)) (fun _ => rfl) rfl 5 (by decide) (hts (.fieldLink RX6 77 "Crossdockery$Lorry" "state" "C") (by decide +kernel)) rfl rfl rfl dX6_arrive_10 ?_
    refine lv_bipush (v := 101) hx hb dX6_arrive_13 (by decide) ?_
    refine lv_icmp_eq (tgt := 28) hx hb dX6_arrive_15 (by decide) (fun c2 => ?_) (fun c2 => ?_)
    ·
      refine lv_aload_n hx hb dX6_arrive_28 rfl (lv_at hl 0 rfl) ?_
      refine k_get (K := RX3) (T := TX3) (N := 15) (v := .int (D 4 lo.toNatClampNeg 4)) (w := .int (D 4 lo.toNatClampNeg 4)) hx hb fX3 hown hK hW 4 lo.toNatClampNeg (hd.lo (vp_in.lt c1)) (fun _ => rfl) rfl 4 (by decide) (hts (.fieldLink RX6 83 "Crossdockery$Lorry" "door" "I") (by decide +kernel)) rfl rfl rfl dX6_arrive_29 ?_
      refine lv_iconst (v := (-1)) hx hb dX6_arrive_32 (by decide) ?_
      refine lv_icmp_ne (tgt := 46) hx hb dX6_arrive_33 (by decide) (fun c3 => ?_) (fun c3 => ?_)
      ·
        refine lv_aload_n hx hb dX6_arrive_46 rfl (lv_at hl 1 rfl) ?_
        refine lv_iconst (v := 3) hx hb dX6_arrive_47 (by decide) ?_
        refine lv_iload_n hx hb dX6_arrive_48 rfl (lv_at hl 2 rfl) ?_
        refine lv_iconst (v := 0) hx hb dX6_arrive_49 (by decide) ?_
        refine lv_iconst (v := 0) hx hb dX6_arrive_50 (by decide) ?_
        have hok : kOk (D, nl, nt, ng) (k_fe 3 lo 0 0) := Or.inr (Or.inr (Or.inr (Or.inl ⟨rfl, c1⟩)))
        refine k_callV (As := [.int 3, .int lo, .int 0, .int 0]) (rest := []) ⟨hx, hb, hml, hown, hts⟩ hK (c_X6_happen X l hd D hwf h9 hc hne 3 lo 0 0 hok) (cwV 4 hts gX6_arrive_X6_happen rfl rfl rfl (by decide +kernel) ⟨Nat.le_of_ble_eq_true rfl, Nat.le_of_ble_eq_true rfl⟩) (k_recv hK (k_ev hW) 16 0 hc.o (fun _ => rfl) rfl) hW rfl hl.1 rfl (Nat.le_of_ble_eq_true rfl) dX6_arrive_51 ⟨Nat.le_of_ble_eq_true rfl, Nat.le_of_ble_eq_true rfl⟩ hL (fun v9 H locs hp hL => ?_)
        obtain ⟨rfl, hH⟩ := hp
        refine k_more (cells' := 6) (slots' := 811) (Nat.le_of_ble_eq_true rfl) (Nat.le_of_ble_eq_true rfl) (vx_ret ?_)
        exact k_iret hx hb hr hlocks (⟨(by unfold s_x_arrive; first | rfl | (simp only [if_neg c1, if_pos c2, if_neg c3]; done) | (simp only [if_neg c1, if_pos c2, if_neg c3]; rfl)), rfl, hH⟩) hL dX6_arrive_54
      ·
        exact k_throw (own := RX6) (cls := "java/lang/UnsupportedOperationException") (text := "no door is planned") (ik := 87) (is := 89) (ic := 91) hx hb hl9 16 hown (by decide +kernel) hK rfl (hts (.classLink RX6 87 "java/lang/UnsupportedOperationException") (by decide +kernel)) (hts (.initialized "java/lang/UnsupportedOperationException") (by decide +kernel)) (fun w hw => hts w (ha_X6_arrive_91 w hw)) bad_RX6_91 og_RX6_87_91 hW0 hW hL (hl.1.trans hml.symm) dX6_arrive_36 dX6_arrive_39 dX6_arrive_40 dX6_arrive_42 dX6_arrive_45 ht (Nat.le_of_ble_eq_true rfl) (Nat.le_of_ble_eq_true rfl) (Nat.le_of_ble_eq_true rfl) (Nat.le_of_ble_eq_true rfl) hlocks (fun H1 hW => Or.inr (Or.inr (⟨rfl, (by unfold s_x_arrive; first | rfl | (simp only [if_neg c1, if_pos c2, if_pos c3]; done) | (simp only [if_neg c1, if_pos c2, if_pos c3]; rfl)), hW⟩))) (Nat.le_of_ble_eq_true rfl) (Nat.le_of_ble_eq_true rfl)
    ·
      exact k_throw (own := RX6) (cls := "java/lang/IllegalStateException") (text := "the lorry is not expected") (ik := 41) (is := 81) (ic := 45) hx hb hl9 15 hown (by decide +kernel) hK rfl (hts (.classLink RX6 41 "java/lang/IllegalStateException") (by decide +kernel)) (hts (.initialized "java/lang/IllegalStateException") (by decide +kernel)) (fun w hw => hts w (ha_X6_arrive_45 w hw)) bad_RX6_45 og_RX6_41_45 hW0 hW hL (hl.1.trans hml.symm) dX6_arrive_18 dX6_arrive_21 dX6_arrive_22 dX6_arrive_24 dX6_arrive_27 ht (Nat.le_of_ble_eq_true rfl) (Nat.le_of_ble_eq_true rfl) (Nat.le_of_ble_eq_true rfl) (Nat.le_of_ble_eq_true rfl) hlocks (fun H1 hW => Or.inr (Or.inl ⟨rfl, (by unfold s_x_arrive; first | rfl | (simp only [if_neg c1, if_neg c2]; done) | (simp only [if_neg c1, if_neg c2]; rfl)), hW⟩)) (Nat.le_of_ble_eq_true rfl) (Nat.le_of_ble_eq_true rfl)
theorem ha_X6_sendOff_45 : ∀ w ∈ (vx_atS RX6 45 "java/lang/IllegalStateException" ["java/lang/RuntimeException", "java/lang/Exception"]).filter goodWord, w ∈ wsX6_sendOff := fun _ h => List.mem_cons_of_mem _ (List.mem_append_left _ (List.mem_append_left _ (List.mem_append_right _ h)))
def s_x_sendOff (D : KD) (nl : Nat) (nt : Nat) (ng : Nat) (lo : Int32) : Int32 := (if lo < 0 ∨ nl ≤ lo.toNatClampNeg then 1 else (if (s_X3_isPresent D lo.toNatClampNeg) = 0 then 2 else 0))
set_option maxHeartbeats 400000 in
set_option maxRecDepth 100000 in
theorem c_X6_sendOff (X : kX) (l : Launch) {n : Nat → Nat → Nat} {ad L : Nat → Nat → Nat → Nat} {C : Nat → Nat → Nat → Nat → Int32} {fr : Nat → Option Cell} {nl nt ng : Nat} (hd : kDk n 0 nl nt ng) (D : KD) {ne : Nat} (hc : kCx n ne) (hwf : cWF D nl nt) (h9 : n 0 9 = 0) (hne : ne < 512) (lo : Int32) (hl9 : l.stackTraces = false) : k_X X l yX6_sendOff wsX6_sendOff ({ frames := 10, cells := 6, slots := 811, locals := 259 }) [.ref (ad 5 16 0), .int lo] (k_W X n ad L (k_g C 0 D) fr) (fun v H => s_x_sendOff D nl nt ng lo = 0 ∧ v = some (.int (s_und (D, nl, nt, ng) (k_fe 4 lo 0 0)).2) ∧ kHap X n ad L C fr ne (k_fe 4 lo 0 0) (s_und (D, nl, nt, ng) (k_fe 4 lo 0 0)).1 H) (fun E H => (E = "java/lang/IndexOutOfBoundsException" ∧ s_x_sendOff D nl nt ng lo = 1 ∧ k_W X n ad L (k_g C 0 D) fr H) ∨ (E = "java/lang/IllegalStateException" ∧ s_x_sendOff D nl nt ng lo = 2 ∧ k_W X n ad L (k_g C 0 D) fr H)) 6 811 := by
  refine k_X.of (cc := cX6_sendOff) (maxL := 3) (ret := (some .int)) (by decide) rfl (Nat.le_of_ble_eq_true rfl) ?_
  intro p e s m args below meth c ls hx hb hr hml hown hts hlocks hnm ht hK hW hl
  have hW0 := hW
  have hL : ∀ q ∈ ([] : List Loc), k_B X ≤ q.base := fun _ h => nomatch h
  have hl : lv_has ls 3 [(0, .ref (ad 5 16 0)), (1, .int lo)] := hl
  have fX6 : ∀ w ∈ u_ws RX6 TX6 2, w.before args s = true := fun w h => hts w ((by decide +kernel : ∀ w ∈ u_ws RX6 TX6 2, w ∈ wsX6_sendOff) w h)
  have fX0 : ∀ w ∈ u_ws RX0 TX0 5, w.before args s = true := fun w h => hts w ((by decide +kernel : ∀ w ∈ u_ws RX0 TX0 5, w ∈ wsX6_sendOff) w h)
  have fX3 : ∀ w ∈ u_ws RX3 TX3 15, w.before args s = true := fun w h => hts w ((by decide +kernel : ∀ w ∈ u_ws RX3 TX3 15, w ∈ wsX6_sendOff) w h)
  have hl8 := hd.l8
  have ht16 := hd.t16
  have hg4 := hd.g4
  refine lv_aload_n hx hb dX6_sendOff_0 rfl (lv_at hl 0 rfl) ?_
  refine k_get (g := 5) (K := RX6) (T := TX6) (N := 2) (v := .ref (ad 0 0 0)) (w := .ref (ad 0 0 0)) hx hb fX6 hown hK (k_ev hW) 16 0 hc.o (fun _ => rfl) rfl 0 (by decide) (hts (.fieldLink RX6 12 "Crossdockery" "dock" "LCrossdockery$Dock;") (by decide +kernel)) rfl rfl rfl dX6_sendOff_1 ?_
  refine lv_iload_n hx hb dX6_sendOff_4 rfl (lv_at hl 1 rfl) ?_
  refine kx_callV (As := [.int lo]) (rest := []) ⟨hx, hb, hml, hown, hts⟩ hK (c_X0_existingLorry_x X l hd D lo hl9) (cwV 1 hts gX6_sendOff_X0_existingLorry rfl rfl rfl (by decide +kernel) ⟨Nat.le_of_ble_eq_true rfl, Nat.le_of_ble_eq_true rfl⟩) (k_recv hK hW 0 0 hd.o (fun _ => rfl) rfl) hW rfl hl.1 rfl (Nat.le_of_ble_eq_true rfl) dX6_sendOff_5 ⟨Nat.le_of_ble_eq_true rfl, Nat.le_of_ble_eq_true rfl⟩ hL (fun E ce q H locs hp hL hce hcv hcl => ?_) (fun v9 H locs hp hL => ?_)
  ·
    obtain ⟨rfl, c1, hW⟩ := hp
    replace c1 := k_vout c1
    exact k_outX ht hlocks hce hcv hcl (Or.inl ⟨rfl, (by unfold s_x_sendOff; first | rfl | (simp only [if_pos c1]; done) | (simp only [if_pos c1]; rfl)), hW⟩) hL (Nat.le_of_ble_eq_true rfl) (Nat.le_of_ble_eq_true rfl)
  ·
    obtain ⟨c1, rfl, hW⟩ := hp
    refine lv_astore_n (lv' := [(2, .ref (ad 0 4 lo.toNatClampNeg)), (0, .ref (ad 5 16 0)), (1, .int lo)]) hx hb dX6_sendOff_8 rfl hl (by decide) rfl (fun ls hl => ?_)
    refine lv_aload_n hx hb dX6_sendOff_9 rfl (lv_at hl 0 rfl) ?_
    refine k_callV (As := []) (rest := []) ⟨hx, hb, hml, hown, hts⟩ hK (c_X3_isPresent X l hd D lo.toNatClampNeg (vp_in.lt c1)) (cwV 0 hts gX6_sendOff_X3_isPresent rfl rfl rfl (by decide +kernel) ⟨Nat.le_of_ble_eq_true rfl, Nat.le_of_ble_eq_true rfl⟩) (k_recv hK hW 4 lo.toNatClampNeg (hd.lo (vp_in.lt c1)) (fun _ => rfl) rfl) hW rfl hl.1 rfl (Nat.le_of_ble_eq_true rfl) dX6_sendOff_10 ⟨Nat.le_of_ble_eq_true rfl, Nat.le_of_ble_eq_true rfl⟩ hL (fun v9 H locs hp hL => ?_)
    obtain ⟨rfl, hW⟩ := hp
    refine lv_if_ne (tgt := 26) hx hb dX6_sendOff_13 (by decide) (fun c2 => ?_) (fun c2 => ?_)
    ·
      refine lv_aload_n hx hb dX6_sendOff_26 rfl (lv_at hl 1 rfl) ?_
      refine lv_iconst (v := 4) hx hb dX6_sendOff_27 (by decide) ?_
      refine lv_iload_n hx hb dX6_sendOff_28 rfl (lv_at hl 2 rfl) ?_
      refine lv_iconst (v := 0) hx hb dX6_sendOff_29 (by decide) ?_
      refine lv_iconst (v := 0) hx hb dX6_sendOff_30 (by decide) ?_
      have hok : kOk (D, nl, nt, ng) (k_fe 4 lo 0 0) := Or.inr (Or.inr (Or.inr (Or.inr (Or.inl ⟨rfl, c1⟩))))
      refine k_callV (As := [.int 4, .int lo, .int 0, .int 0]) (rest := []) ⟨hx, hb, hml, hown, hts⟩ hK (c_X6_happen X l hd D hwf h9 hc hne 4 lo 0 0 hok) (cwV 4 hts gX6_sendOff_X6_happen rfl rfl rfl (by decide +kernel) ⟨Nat.le_of_ble_eq_true rfl, Nat.le_of_ble_eq_true rfl⟩) (k_recv hK (k_ev hW) 16 0 hc.o (fun _ => rfl) rfl) hW rfl hl.1 rfl (Nat.le_of_ble_eq_true rfl) dX6_sendOff_31 ⟨Nat.le_of_ble_eq_true rfl, Nat.le_of_ble_eq_true rfl⟩ hL (fun v9 H locs hp hL => ?_)
      obtain ⟨rfl, hH⟩ := hp
      refine k_more (cells' := 6) (slots' := 811) (Nat.le_of_ble_eq_true rfl) (Nat.le_of_ble_eq_true rfl) (vx_ret ?_)
      exact k_iret hx hb hr hlocks (⟨(by unfold s_x_sendOff; first | rfl | (simp only [if_neg c1, if_neg c2]; done) | (simp only [if_neg c1, if_neg c2]; rfl)), rfl, hH⟩) hL dX6_sendOff_34
    ·
      exact k_throw (own := RX6) (cls := "java/lang/IllegalStateException") (text := "the lorry is not here") (ik := 41) (is := 95) (ic := 45) hx hb hl9 17 hown (by decide +kernel) hK rfl (hts (.classLink RX6 41 "java/lang/IllegalStateException") (by decide +kernel)) (hts (.initialized "java/lang/IllegalStateException") (by decide +kernel)) (fun w hw => hts w (ha_X6_sendOff_45 w hw)) bad_RX6_45 og_RX6_41_45 hW0 hW hL (hl.1.trans hml.symm) dX6_sendOff_16 dX6_sendOff_19 dX6_sendOff_20 dX6_sendOff_22 dX6_sendOff_25 ht (Nat.le_of_ble_eq_true rfl) (Nat.le_of_ble_eq_true rfl) (Nat.le_of_ble_eq_true rfl) (Nat.le_of_ble_eq_true rfl) hlocks (fun H1 hW => Or.inr (⟨rfl, (by unfold s_x_sendOff; first | rfl | (simp only [if_neg c1, if_pos c2]; done) | (simp only [if_neg c1, if_pos c2]; rfl)), hW⟩)) (Nat.le_of_ble_eq_true rfl) (Nat.le_of_ble_eq_true rfl)
theorem ha_X6_addGang_31 : ∀ w ∈ (vx_atS RX6 31 "java/lang/IllegalArgumentException" ["java/lang/RuntimeException", "java/lang/Exception"]).filter goodWord, w ∈ wsX6_addGang := fun _ h => List.mem_cons_of_mem _ (List.mem_append_left _ (List.mem_append_left _ (List.mem_append_left _ (List.mem_append_right _ h))))
theorem ha_X6_addGang_45 : ∀ w ∈ (vx_atS RX6 45 "java/lang/IllegalStateException" ["java/lang/RuntimeException", "java/lang/Exception"]).filter goodWord, w ∈ wsX6_addGang := fun _ h => List.mem_cons_of_mem _ (List.mem_append_left _ (List.mem_append_left _ (List.mem_append_right _ h)))
def s_x_addGang (D : KD) (nl : Nat) (nt : Nat) (ng : Nat) (sp : Int32) (fo : Int32) (tu : Int32) : Int32 := (if (s_X6_isWithin sp 1 9) = 0 then 1 else (if (s_X6_isWithin fo 0 1999) = 0 then 1 else (if tu ≤ fo then 1 else (if tu ≤ 2000 then (if (nI ng) < 4 then 0 else 2) else 1))))
set_option maxHeartbeats 400000 in
set_option maxRecDepth 100000 in
theorem c_X6_addGang (X : kX) (l : Launch) {n : Nat → Nat → Nat} {ad L : Nat → Nat → Nat → Nat} {C : Nat → Nat → Nat → Nat → Int32} {fr : Nat → Option Cell} {nl nt ng : Nat} (hd : kDk n 0 nl nt ng) (D : KD) {ne : Nat} (hc : kCx n ne) (hwf : cWF D nl nt) (h9 : n 0 9 = 0) (hne : ne < 512) (sp : Int32) (fo : Int32) (tu : Int32) (hl9 : l.stackTraces = false) : k_X X l yX6_addGang wsX6_addGang ({ frames := 10, cells := 5, slots := 805, locals := 259 }) [.ref (ad 5 16 0), .int sp, .int fo, .int tu] (k_W X n ad L (k_g C 0 D) fr) (fun v H => s_x_addGang D nl nt ng sp fo tu = 0 ∧ v = some (.int (s_und (D, nl, nt, ng) (k_fe 5 sp fo tu)).2) ∧ kHap X n ad L C fr ne (k_fe 5 sp fo tu) (s_und (D, nl, nt, ng) (k_fe 5 sp fo tu)).1 H) (fun E H => (E = "java/lang/IllegalArgumentException" ∧ s_x_addGang D nl nt ng sp fo tu = 1 ∧ k_W X n ad L (k_g C 0 D) fr H) ∨ (E = "java/lang/IllegalStateException" ∧ s_x_addGang D nl nt ng sp fo tu = 2 ∧ k_W X n ad L (k_g C 0 D) fr H)) 5 805 := by
  refine k_X.of (cc := cX6_addGang) (maxL := 4) (ret := (some .int)) (by decide) rfl (Nat.le_of_ble_eq_true rfl) ?_
  intro p e s m args below meth c ls hx hb hr hml hown hts hlocks hnm ht hK hW hl
  have hW0 := hW
  have hL : ∀ q ∈ ([] : List Loc), k_B X ≤ q.base := fun _ h => nomatch h
  have hl : lv_has ls 4 [(0, .ref (ad 5 16 0)), (1, .int sp), (2, .int fo), (3, .int tu)] := hl
  have fX6 : ∀ w ∈ u_ws RX6 TX6 2, w.before args s = true := fun w h => hts w ((by decide +kernel : ∀ w ∈ u_ws RX6 TX6 2, w ∈ wsX6_addGang) w h)
  have fX0 : ∀ w ∈ u_ws RX0 TX0 5, w.before args s = true := fun w h => hts w ((by decide +kernel : ∀ w ∈ u_ws RX0 TX0 5, w ∈ wsX6_addGang) w h)
  have hl8 := hd.l8
  have ht16 := hd.t16
  have hg4 := hd.g4
  refine lv_iload_n hx hb dX6_addGang_0 rfl (lv_at hl 1 rfl) ?_
  refine lv_iconst (v := 1) hx hb dX6_addGang_1 (by decide) ?_
  refine lv_bipush (v := 9) hx hb dX6_addGang_2 (by decide) ?_
  refine k_callS (As := [.int sp, .int 1, .int 9]) (rest := []) ⟨hx, hb, hml, hown, hts⟩ hK (c_X6_isWithin X l (k_W X n ad L (k_g C 0 D) fr) sp 1 9) (va_cwS 3 hts gX6_addGang_X6_isWithin rfl rfl rfl (by decide +kernel) ⟨Nat.le_of_ble_eq_true rfl, Nat.le_of_ble_eq_true rfl⟩) hW rfl hl.1 rfl (Nat.le_of_ble_eq_true rfl) dX6_addGang_4 ⟨Nat.le_of_ble_eq_true rfl, Nat.le_of_ble_eq_true rfl⟩ hL (fun v9 H locs hp hL => ?_)
  obtain ⟨rfl, hW⟩ := hp
  refine lv_if_eq (tgt := 33) hx hb dX6_addGang_7 (by decide) (fun c1 => ?_) (fun c1 => ?_)
  ·
    exact k_throw (own := RX6) (cls := "java/lang/IllegalArgumentException") (text := "speed or shift out of range") (ik := 27) (is := 97) (ic := 31) hx hb hl9 18 hown (by decide +kernel) hK rfl (hts (.classLink RX6 27 "java/lang/IllegalArgumentException") (by decide +kernel)) (hts (.initialized "java/lang/IllegalArgumentException") (by decide +kernel)) (fun w hw => hts w (ha_X6_addGang_31 w hw)) bad_RX6_31 og_RX6_27_31 hW0 hW hL (hl.1.trans hml.symm) dX6_addGang_33 dX6_addGang_36 dX6_addGang_37 dX6_addGang_39 dX6_addGang_42 ht (Nat.le_of_ble_eq_true rfl) (Nat.le_of_ble_eq_true rfl) (Nat.le_of_ble_eq_true rfl) (Nat.le_of_ble_eq_true rfl) hlocks (fun H1 hW => Or.inl ⟨rfl, (by unfold s_x_addGang; first | rfl | (simp only [if_pos c1]; done) | (simp only [if_pos c1]; rfl)), hW⟩) (Nat.le_of_ble_eq_true rfl) (Nat.le_of_ble_eq_true rfl)
  ·
    refine lv_iload_n hx hb dX6_addGang_10 rfl (lv_at hl 2 rfl) ?_
    refine lv_iconst (v := 0) hx hb dX6_addGang_11 (by decide) ?_
    refine lv_sipush (v := 1999) hx hb dX6_addGang_12 (by decide) ?_
    refine k_callS (As := [.int fo, .int 0, .int 1999]) (rest := []) ⟨hx, hb, hml, hown, hts⟩ hK (c_X6_isWithin X l (k_W X n ad L (k_g C 0 D) fr) fo 0 1999) (va_cwS 3 hts gX6_addGang_X6_isWithin rfl rfl rfl (by decide +kernel) ⟨Nat.le_of_ble_eq_true rfl, Nat.le_of_ble_eq_true rfl⟩) hW rfl hl.1 rfl (Nat.le_of_ble_eq_true rfl) dX6_addGang_15 ⟨Nat.le_of_ble_eq_true rfl, Nat.le_of_ble_eq_true rfl⟩ hL (fun v9 H locs hp hL => ?_)
    obtain ⟨rfl, hW⟩ := hp
    refine lv_if_eq (tgt := 33) hx hb dX6_addGang_18 (by decide) (fun c2 => ?_) (fun c2 => ?_)
    ·
      exact k_throw (own := RX6) (cls := "java/lang/IllegalArgumentException") (text := "speed or shift out of range") (ik := 27) (is := 97) (ic := 31) hx hb hl9 18 hown (by decide +kernel) hK rfl (hts (.classLink RX6 27 "java/lang/IllegalArgumentException") (by decide +kernel)) (hts (.initialized "java/lang/IllegalArgumentException") (by decide +kernel)) (fun w hw => hts w (ha_X6_addGang_31 w hw)) bad_RX6_31 og_RX6_27_31 hW0 hW hL (hl.1.trans hml.symm) dX6_addGang_33 dX6_addGang_36 dX6_addGang_37 dX6_addGang_39 dX6_addGang_42 ht (Nat.le_of_ble_eq_true rfl) (Nat.le_of_ble_eq_true rfl) (Nat.le_of_ble_eq_true rfl) (Nat.le_of_ble_eq_true rfl) hlocks (fun H1 hW => Or.inl ⟨rfl, (by unfold s_x_addGang; first | rfl | (simp only [if_neg c1, if_pos c2]; done) | (simp only [if_neg c1, if_pos c2]; rfl)), hW⟩) (Nat.le_of_ble_eq_true rfl) (Nat.le_of_ble_eq_true rfl)
    ·
      refine lv_iload_n hx hb dX6_addGang_21 rfl (lv_at hl 3 rfl) ?_
      refine lv_iload_n hx hb dX6_addGang_22 rfl (lv_at hl 2 rfl) ?_
      refine lv_icmp_le (tgt := 33) hx hb dX6_addGang_23 (by decide) (fun c3 => ?_) (fun c3 => ?_)
      ·
        exact k_throw (own := RX6) (cls := "java/lang/IllegalArgumentException") (text := "speed or shift out of range") (ik := 27) (is := 97) (ic := 31) hx hb hl9 18 hown (by decide +kernel) hK rfl (hts (.classLink RX6 27 "java/lang/IllegalArgumentException") (by decide +kernel)) (hts (.initialized "java/lang/IllegalArgumentException") (by decide +kernel)) (fun w hw => hts w (ha_X6_addGang_31 w hw)) bad_RX6_31 og_RX6_27_31 hW0 hW hL (hl.1.trans hml.symm) dX6_addGang_33 dX6_addGang_36 dX6_addGang_37 dX6_addGang_39 dX6_addGang_42 ht (Nat.le_of_ble_eq_true rfl) (Nat.le_of_ble_eq_true rfl) (Nat.le_of_ble_eq_true rfl) (Nat.le_of_ble_eq_true rfl) hlocks (fun H1 hW => Or.inl ⟨rfl, (by unfold s_x_addGang; first | rfl | (simp only [if_neg c1, if_neg c2, if_pos c3]; done) | (simp only [if_neg c1, if_neg c2, if_pos c3]; rfl)), hW⟩) (Nat.le_of_ble_eq_true rfl) (Nat.le_of_ble_eq_true rfl)
      ·
        refine lv_iload_n hx hb dX6_addGang_26 rfl (lv_at hl 3 rfl) ?_
        refine lv_sipush (v := 2000) hx hb dX6_addGang_27 (by decide) ?_
        refine lv_icmp_le (tgt := 43) hx hb dX6_addGang_30 (by decide) (fun c4 => ?_) (fun c4 => ?_)
        ·
          refine lv_aload_n hx hb dX6_addGang_43 rfl (lv_at hl 0 rfl) ?_
          refine k_get (g := 5) (K := RX6) (T := TX6) (N := 2) (v := .ref (ad 0 0 0)) (w := .ref (ad 0 0 0)) hx hb fX6 hown hK (k_ev hW) 16 0 hc.o (fun _ => rfl) rfl 0 (by decide) (hts (.fieldLink RX6 12 "Crossdockery" "dock" "LCrossdockery$Dock;") (by decide +kernel)) rfl rfl rfl dX6_addGang_44 ?_
          refine k_get (K := RX0) (T := TX0) (N := 5) (v := .ref (ad 0 1 2)) (w := .ref (ad 0 1 2)) hx hb fX0 hown hK hW 0 0 hd.o (fun _ => rfl) rfl 2 (by decide) (hts (.fieldLink RX6 99 "Crossdockery$Dock" "gangs" "Ljava/util/ArrayList;") (by decide +kernel)) rfl rfl rfl dX6_addGang_47 ?_
          refine k_callV (As := []) (rest := []) ⟨hx, hb, hml, hown, hts⟩ hK (c_size2 X l hd) (cwV 0 hts gX6_addGang_Jx4a65c_size_8abf5 rfl rfl rfl (by decide +kernel) ⟨Nat.le_of_ble_eq_true rfl, Nat.le_of_ble_eq_true rfl⟩) (k_recv hK hW 1 2 (hd.li (by decide)) (fun _ => rfl) rfl) hW rfl hl.1 rfl (Nat.le_of_ble_eq_true rfl) dX6_addGang_50 ⟨Nat.le_of_ble_eq_true rfl, Nat.le_of_ble_eq_true rfl⟩ hL (fun v9 H locs hp hL => ?_)
          obtain ⟨rfl, hW⟩ := hp
          refine lv_iconst (v := 4) hx hb dX6_addGang_53 (by decide) ?_
          refine lv_icmp_lt (tgt := 67) hx hb dX6_addGang_54 (by decide) (fun c5 => ?_) (fun c5 => ?_)
          ·
            refine lv_aload_n hx hb dX6_addGang_67 rfl (lv_at hl 0 rfl) ?_
            refine lv_iconst (v := 5) hx hb dX6_addGang_68 (by decide) ?_
            refine lv_iload_n hx hb dX6_addGang_69 rfl (lv_at hl 1 rfl) ?_
            refine lv_iload_n hx hb dX6_addGang_70 rfl (lv_at hl 2 rfl) ?_
            refine lv_iload_n hx hb dX6_addGang_71 rfl (lv_at hl 3 rfl) ?_
            have hok : kOk (D, nl, nt, ng) (k_fe 5 sp fo tu) := Or.inr (Or.inr (Or.inr (Or.inr (Or.inr (Or.inl ⟨rfl, (nI_ltI (a := ng) (b := 4) (by omega) (by decide)).mp (show nI ng < nI 4 from c5)⟩)))))
            refine k_callV (As := [.int 5, .int sp, .int fo, .int tu]) (rest := []) ⟨hx, hb, hml, hown, hts⟩ hK (c_X6_happen X l hd D hwf h9 hc hne 5 sp fo tu hok) (cwV 4 hts gX6_addGang_X6_happen rfl rfl rfl (by decide +kernel) ⟨Nat.le_of_ble_eq_true rfl, Nat.le_of_ble_eq_true rfl⟩) (k_recv hK (k_ev hW) 16 0 hc.o (fun _ => rfl) rfl) hW rfl hl.1 rfl (Nat.le_of_ble_eq_true rfl) dX6_addGang_72 ⟨Nat.le_of_ble_eq_true rfl, Nat.le_of_ble_eq_true rfl⟩ hL (fun v9 H locs hp hL => ?_)
            obtain ⟨rfl, hH⟩ := hp
            refine k_more (cells' := 5) (slots' := 805) (Nat.le_of_ble_eq_true rfl) (Nat.le_of_ble_eq_true rfl) (vx_ret ?_)
            exact k_iret hx hb hr hlocks (⟨(by unfold s_x_addGang; first | rfl | (simp only [if_neg c1, if_neg c2, if_neg c3, if_pos c4, if_pos c5]; done) | (simp only [if_neg c1, if_neg c2, if_neg c3, if_pos c4, if_pos c5]; rfl)), rfl, hH⟩) hL dX6_addGang_75
          ·
            exact k_throw (own := RX6) (cls := "java/lang/IllegalStateException") (text := "no room for another gang") (ik := 41) (is := 102) (ic := 45) hx hb hl9 0 hown (by decide +kernel) hK rfl (hts (.classLink RX6 41 "java/lang/IllegalStateException") (by decide +kernel)) (hts (.initialized "java/lang/IllegalStateException") (by decide +kernel)) (fun w hw => hts w (ha_X6_addGang_45 w hw)) bad_RX6_45 og_RX6_41_45 hW0 hW hL (hl.1.trans hml.symm) dX6_addGang_57 dX6_addGang_60 dX6_addGang_61 dX6_addGang_63 dX6_addGang_66 ht (Nat.le_of_ble_eq_true rfl) (Nat.le_of_ble_eq_true rfl) (Nat.le_of_ble_eq_true rfl) (Nat.le_of_ble_eq_true rfl) hlocks (fun H1 hW => Or.inr (⟨rfl, (by unfold s_x_addGang; first | rfl | (simp only [if_neg c1, if_neg c2, if_neg c3, if_pos c4, if_neg c5]; done) | (simp only [if_neg c1, if_neg c2, if_neg c3, if_pos c4, if_neg c5]; rfl)), hW⟩)) (Nat.le_of_ble_eq_true rfl) (Nat.le_of_ble_eq_true rfl)
        ·
          exact k_throw (own := RX6) (cls := "java/lang/IllegalArgumentException") (text := "speed or shift out of range") (ik := 27) (is := 97) (ic := 31) hx hb hl9 18 hown (by decide +kernel) hK rfl (hts (.classLink RX6 27 "java/lang/IllegalArgumentException") (by decide +kernel)) (hts (.initialized "java/lang/IllegalArgumentException") (by decide +kernel)) (fun w hw => hts w (ha_X6_addGang_31 w hw)) bad_RX6_31 og_RX6_27_31 hW0 hW hL (hl.1.trans hml.symm) dX6_addGang_33 dX6_addGang_36 dX6_addGang_37 dX6_addGang_39 dX6_addGang_42 ht (Nat.le_of_ble_eq_true rfl) (Nat.le_of_ble_eq_true rfl) (Nat.le_of_ble_eq_true rfl) (Nat.le_of_ble_eq_true rfl) hlocks (fun H1 hW => Or.inl ⟨rfl, (by unfold s_x_addGang; first | rfl | (simp only [if_neg c1, if_neg c2, if_neg c3, if_neg c4]; done) | (simp only [if_neg c1, if_neg c2, if_neg c3, if_neg c4]; rfl)), hW⟩) (Nat.le_of_ble_eq_true rfl) (Nat.le_of_ble_eq_true rfl)
def s_x_moveGang (D : KD) (nl : Nat) (nt : Nat) (ng : Nat) (ga : Int32) (d : Int32) : Int32 := (if ga < 0 ∨ ng ≤ ga.toNatClampNeg then 1 else (if d = (-1) then 0 else (if s_x_requireDoor d = 0 then 0 else 1)))
set_option maxHeartbeats 400000 in
set_option maxRecDepth 100000 in
theorem c_X6_moveGang (X : kX) (l : Launch) {n : Nat → Nat → Nat} {ad L : Nat → Nat → Nat → Nat} {C : Nat → Nat → Nat → Nat → Int32} {fr : Nat → Option Cell} {nl nt ng : Nat} (hd : kDk n 0 nl nt ng) (D : KD) {ne : Nat} (hc : kCx n ne) (hwf : cWF D nl nt) (h9 : n 0 9 = 0) (hne : ne < 512) (ga : Int32) (d : Int32) (hl9 : l.stackTraces = false) : k_X X l yX6_moveGang wsX6_moveGang ({ frames := 10, cells := 7, slots := 817, locals := 259 }) [.ref (ad 5 16 0), .int ga, .int d] (k_W X n ad L (k_g C 0 D) fr) (fun v H => s_x_moveGang D nl nt ng ga d = 0 ∧ v = some (.int (s_und (D, nl, nt, ng) (k_fe 6 ga d 0)).2) ∧ kHap X n ad L C fr ne (k_fe 6 ga d 0) (s_und (D, nl, nt, ng) (k_fe 6 ga d 0)).1 H) (fun E H => (E = "java/lang/IndexOutOfBoundsException" ∧ s_x_moveGang D nl nt ng ga d = 1 ∧ k_W X n ad L (k_g C 0 D) fr H)) 7 817 := by
  refine k_X.of (cc := cX6_moveGang) (maxL := 3) (ret := (some .int)) (by decide) rfl (Nat.le_of_ble_eq_true rfl) ?_
  intro p e s m args below meth c ls hx hb hr hml hown hts hlocks hnm ht hK hW hl
  have hW0 := hW
  have hL : ∀ q ∈ ([] : List Loc), k_B X ≤ q.base := fun _ h => nomatch h
  have hl : lv_has ls 3 [(0, .ref (ad 5 16 0)), (1, .int ga), (2, .int d)] := hl
  have fX6 : ∀ w ∈ u_ws RX6 TX6 2, w.before args s = true := fun w h => hts w ((by decide +kernel : ∀ w ∈ u_ws RX6 TX6 2, w ∈ wsX6_moveGang) w h)
  have fX0 : ∀ w ∈ u_ws RX0 TX0 5, w.before args s = true := fun w h => hts w ((by decide +kernel : ∀ w ∈ u_ws RX0 TX0 5, w ∈ wsX6_moveGang) w h)
  have hl8 := hd.l8
  have ht16 := hd.t16
  have hg4 := hd.g4
  refine lv_aload_n hx hb dX6_moveGang_0 rfl (lv_at hl 0 rfl) ?_
  refine k_get (g := 5) (K := RX6) (T := TX6) (N := 2) (v := .ref (ad 0 0 0)) (w := .ref (ad 0 0 0)) hx hb fX6 hown hK (k_ev hW) 16 0 hc.o (fun _ => rfl) rfl 0 (by decide) (hts (.fieldLink RX6 12 "Crossdockery" "dock" "LCrossdockery$Dock;") (by decide +kernel)) rfl rfl rfl dX6_moveGang_1 ?_
  refine lv_iload_n hx hb dX6_moveGang_4 rfl (lv_at hl 1 rfl) ?_
  refine kx_callV (As := [.int ga]) (rest := []) ⟨hx, hb, hml, hown, hts⟩ hK (c_X0_existingGang_x X l hd D ga hl9) (cwV 1 hts gX6_moveGang_X0_existingGang rfl rfl rfl (by decide +kernel) ⟨Nat.le_of_ble_eq_true rfl, Nat.le_of_ble_eq_true rfl⟩) (k_recv hK hW 0 0 hd.o (fun _ => rfl) rfl) hW rfl hl.1 rfl (Nat.le_of_ble_eq_true rfl) dX6_moveGang_5 ⟨Nat.le_of_ble_eq_true rfl, Nat.le_of_ble_eq_true rfl⟩ hL (fun E ce q H locs hp hL hce hcv hcl => ?_) (fun v9 H locs hp hL => ?_)
  ·
    obtain ⟨rfl, c1, hW⟩ := hp
    replace c1 := k_vout c1
    exact k_outX ht hlocks hce hcv hcl (⟨rfl, (by unfold s_x_moveGang; first | rfl | (simp only [if_pos c1]; done) | (simp only [if_pos c1]; rfl)), hW⟩) hL (Nat.le_of_ble_eq_true rfl) (Nat.le_of_ble_eq_true rfl)
  ·
    obtain ⟨c1, rfl, hW⟩ := hp
    refine lv_pop hx hb dX6_moveGang_8 rfl ?_
    refine lv_iload_n hx hb dX6_moveGang_9 rfl (lv_at hl 2 rfl) ?_
    refine lv_iconst (v := (-1)) hx hb dX6_moveGang_10 (by decide) ?_
    refine lv_icmp_eq (tgt := 18) hx hb dX6_moveGang_11 (by decide) (fun c2 => ?_) (fun c2 => ?_)
    ·
      refine lv_aload_n hx hb dX6_moveGang_18 rfl (lv_at hl 0 rfl) ?_
      refine lv_bipush (v := 6) hx hb dX6_moveGang_19 (by decide) ?_
      refine lv_iload_n hx hb dX6_moveGang_21 rfl (lv_at hl 1 rfl) ?_
      refine lv_iload_n hx hb dX6_moveGang_22 rfl (lv_at hl 2 rfl) ?_
      refine lv_iconst (v := 0) hx hb dX6_moveGang_23 (by decide) ?_
      have hok : kOk (D, nl, nt, ng) (k_fe 6 ga d 0) := Or.inr (Or.inr (Or.inr (Or.inr (Or.inr (Or.inr (Or.inl ⟨rfl, c1⟩))))))
      refine k_callV (As := [.int 6, .int ga, .int d, .int 0]) (rest := []) ⟨hx, hb, hml, hown, hts⟩ hK (c_X6_happen X l hd D hwf h9 hc hne 6 ga d 0 hok) (cwV 4 hts gX6_moveGang_X6_happen rfl rfl rfl (by decide +kernel) ⟨Nat.le_of_ble_eq_true rfl, Nat.le_of_ble_eq_true rfl⟩) (k_recv hK (k_ev hW) 16 0 hc.o (fun _ => rfl) rfl) hW rfl hl.1 rfl (Nat.le_of_ble_eq_true rfl) dX6_moveGang_24 ⟨Nat.le_of_ble_eq_true rfl, Nat.le_of_ble_eq_true rfl⟩ hL (fun v9 H locs hp hL => ?_)
      obtain ⟨rfl, hH⟩ := hp
      refine k_more (cells' := 7) (slots' := 817) (Nat.le_of_ble_eq_true rfl) (Nat.le_of_ble_eq_true rfl) (vx_ret ?_)
      exact k_iret hx hb hr hlocks (⟨(by unfold s_x_moveGang; first | rfl | (simp only [if_neg c1, if_pos c2]; done) | (simp only [if_neg c1, if_pos c2]; rfl)), rfl, hH⟩) hL dX6_moveGang_27
    ·
      refine lv_iload_n hx hb dX6_moveGang_14 rfl (lv_at hl 2 rfl) ?_
      refine kx_callS (As := [.int d]) (rest := []) ⟨hx, hb, hml, hown, hts⟩ hK (c_X6_requireDoor X l D d hl9) (cwS 1 hts gX6_moveGang_X6_requireDoor rfl rfl rfl (by decide +kernel) ⟨Nat.le_of_ble_eq_true rfl, Nat.le_of_ble_eq_true rfl⟩) hW rfl hl.1 rfl (Nat.le_of_ble_eq_true rfl) dX6_moveGang_15 ⟨Nat.le_of_ble_eq_true rfl, Nat.le_of_ble_eq_true rfl⟩ hL (fun E ce q H locs hp hL hce hcv hcl => ?_) (fun v9 H locs hp hL => ?_)
      ·
        obtain ⟨rfl, c3, hW⟩ := hp
        replace c3 := k_one0 c3
        exact k_outX ht hlocks hce hcv hcl (⟨rfl, (by unfold s_x_moveGang; first | rfl | (simp only [if_neg c1, if_neg c2, if_neg c3]; done) | (simp only [if_neg c1, if_neg c2, if_neg c3]; rfl)), hW⟩) hL (Nat.le_of_ble_eq_true rfl) (Nat.le_of_ble_eq_true rfl)
      ·
        obtain ⟨c3, rfl, hW⟩ := hp
        refine lv_aload_n hx hb dX6_moveGang_18 rfl (lv_at hl 0 rfl) ?_
        refine lv_bipush (v := 6) hx hb dX6_moveGang_19 (by decide) ?_
        refine lv_iload_n hx hb dX6_moveGang_21 rfl (lv_at hl 1 rfl) ?_
        refine lv_iload_n hx hb dX6_moveGang_22 rfl (lv_at hl 2 rfl) ?_
        refine lv_iconst (v := 0) hx hb dX6_moveGang_23 (by decide) ?_
        have hok : kOk (D, nl, nt, ng) (k_fe 6 ga d 0) := Or.inr (Or.inr (Or.inr (Or.inr (Or.inr (Or.inr (Or.inl ⟨rfl, c1⟩))))))
        refine k_callV (As := [.int 6, .int ga, .int d, .int 0]) (rest := []) ⟨hx, hb, hml, hown, hts⟩ hK (c_X6_happen X l hd D hwf h9 hc hne 6 ga d 0 hok) (cwV 4 hts gX6_moveGang_X6_happen rfl rfl rfl (by decide +kernel) ⟨Nat.le_of_ble_eq_true rfl, Nat.le_of_ble_eq_true rfl⟩) (k_recv hK (k_ev hW) 16 0 hc.o (fun _ => rfl) rfl) hW rfl hl.1 rfl (Nat.le_of_ble_eq_true rfl) dX6_moveGang_24 ⟨Nat.le_of_ble_eq_true rfl, Nat.le_of_ble_eq_true rfl⟩ hL (fun v9 H locs hp hL => ?_)
        obtain ⟨rfl, hH⟩ := hp
        refine k_more (cells' := 7) (slots' := 817) (Nat.le_of_ble_eq_true rfl) (Nat.le_of_ble_eq_true rfl) (vx_ret ?_)
        exact k_iret hx hb hr hlocks (⟨(by unfold s_x_moveGang; first | rfl | (simp only [if_neg c1, if_neg c2, if_pos c3]; done) | (simp only [if_neg c1, if_neg c2, if_pos c3]; rfl)), rfl, hH⟩) hL dX6_moveGang_27
theorem ha_X6_pass_45 : ∀ w ∈ (vx_atS RX6 45 "java/lang/IllegalStateException" ["java/lang/RuntimeException", "java/lang/Exception"]).filter goodWord, w ∈ wsX6_pass := fun _ h => List.mem_cons_of_mem _ (List.mem_append_left _ (List.mem_append_left _ (List.mem_append_right _ h)))
theorem ha_X6_pass_31 : ∀ w ∈ (vx_atS RX6 31 "java/lang/IllegalArgumentException" ["java/lang/RuntimeException", "java/lang/Exception"]).filter goodWord, w ∈ wsX6_pass := fun _ h => List.mem_cons_of_mem _ (List.mem_append_left _ (List.mem_append_left _ (List.mem_append_left _ (List.mem_append_right _ h))))
def s_x_pass (D : KD) (nl : Nat) (nt : Nat) (ng : Nat) (mi : Int32) : Int32 := (if (s_X6_isWithin mi 1 300) = 0 then 1 else (if ((D 0 0 4) + mi) ≤ 2000 then 0 else 2))
set_option maxHeartbeats 400000 in
set_option maxRecDepth 100000 in
theorem c_X6_pass (X : kX) (l : Launch) {n : Nat → Nat → Nat} {ad L : Nat → Nat → Nat → Nat} {C : Nat → Nat → Nat → Nat → Int32} {fr : Nat → Option Cell} {nl nt ng : Nat} (hd : kDk n 0 nl nt ng) (D : KD) {ne : Nat} (hc : kCx n ne) (hwf : cWF D nl nt) (h9 : n 0 9 = 0) (hne : ne < 512) (mi : Int32) (hl9 : l.stackTraces = false) : k_X X l yX6_pass wsX6_pass ({ frames := 10, cells := 5, slots := 805, locals := 259 }) [.ref (ad 5 16 0), .int mi] (k_W X n ad L (k_g C 0 D) fr) (fun v H => s_x_pass D nl nt ng mi = 0 ∧ v = some (.int (s_und (D, nl, nt, ng) (k_fe 7 mi 0 0)).2) ∧ kHap X n ad L C fr ne (k_fe 7 mi 0 0) (s_und (D, nl, nt, ng) (k_fe 7 mi 0 0)).1 H) (fun E H => (E = "java/lang/IllegalArgumentException" ∧ s_x_pass D nl nt ng mi = 1 ∧ k_W X n ad L (k_g C 0 D) fr H) ∨ (E = "java/lang/IllegalStateException" ∧ s_x_pass D nl nt ng mi = 2 ∧ k_W X n ad L (k_g C 0 D) fr H)) 5 805 := by
  refine k_X.of (cc := cX6_pass) (maxL := 2) (ret := (some .int)) (by decide) rfl (Nat.le_of_ble_eq_true rfl) ?_
  intro p e s m args below meth c ls hx hb hr hml hown hts hlocks hnm ht hK hW hl
  have hW0 := hW
  have hL : ∀ q ∈ ([] : List Loc), k_B X ≤ q.base := fun _ h => nomatch h
  have hl : lv_has ls 2 [(0, .ref (ad 5 16 0)), (1, .int mi)] := hl
  have fX6 : ∀ w ∈ u_ws RX6 TX6 2, w.before args s = true := fun w h => hts w ((by decide +kernel : ∀ w ∈ u_ws RX6 TX6 2, w ∈ wsX6_pass) w h)
  have fX0 : ∀ w ∈ u_ws RX0 TX0 5, w.before args s = true := fun w h => hts w ((by decide +kernel : ∀ w ∈ u_ws RX0 TX0 5, w ∈ wsX6_pass) w h)
  have hl8 := hd.l8
  have ht16 := hd.t16
  have hg4 := hd.g4
  refine lv_iload_n hx hb dX6_pass_0 rfl (lv_at hl 1 rfl) ?_
  refine lv_iconst (v := 1) hx hb dX6_pass_1 (by decide) ?_
  refine lv_sipush (v := 300) hx hb dX6_pass_2 (by decide) ?_
  refine k_callS (As := [.int mi, .int 1, .int 300]) (rest := []) ⟨hx, hb, hml, hown, hts⟩ hK (c_X6_isWithin X l (k_W X n ad L (k_g C 0 D) fr) mi 1 300) (va_cwS 3 hts gX6_pass_X6_isWithin rfl rfl rfl (by decide +kernel) ⟨Nat.le_of_ble_eq_true rfl, Nat.le_of_ble_eq_true rfl⟩) hW rfl hl.1 rfl (Nat.le_of_ble_eq_true rfl) dX6_pass_5 ⟨Nat.le_of_ble_eq_true rfl, Nat.le_of_ble_eq_true rfl⟩ hL (fun v9 H locs hp hL => ?_)
  obtain ⟨rfl, hW⟩ := hp
  refine lv_if_ne (tgt := 21) hx hb dX6_pass_8 (by decide) (fun c1 => ?_) (fun c1 => ?_)
  ·
    refine lv_aload_n hx hb dX6_pass_21 rfl (lv_at hl 0 rfl) ?_
    refine k_get (g := 5) (K := RX6) (T := TX6) (N := 2) (v := .ref (ad 0 0 0)) (w := .ref (ad 0 0 0)) hx hb fX6 hown hK (k_ev hW) 16 0 hc.o (fun _ => rfl) rfl 0 (by decide) (hts (.fieldLink RX6 12 "Crossdockery" "dock" "LCrossdockery$Dock;") (by decide +kernel)) rfl rfl rfl dX6_pass_22 ?_
    refine k_get (K := RX0) (T := TX0) (N := 5) (v := .int (D 0 0 4)) (w := .int (D 0 0 4)) hx hb fX0 hown hK hW 0 0 hd.o (fun _ => rfl) rfl 4 (by decide) (hts (.fieldLink RX6 110 "Crossdockery$Dock" "minute" "I") (by decide +kernel)) rfl rfl rfl dX6_pass_25 ?_
    refine lv_iload_n hx hb dX6_pass_28 rfl (lv_at hl 1 rfl) ?_
    refine lv_iadd hx hb dX6_pass_29 ?_
    refine lv_sipush (v := 2000) hx hb dX6_pass_30 (by decide) ?_
    refine lv_icmp_le (tgt := 46) hx hb dX6_pass_33 (by decide) (fun c2 => ?_) (fun c2 => ?_)
    ·
      refine lv_aload_n hx hb dX6_pass_46 rfl (lv_at hl 0 rfl) ?_
      refine lv_bipush (v := 7) hx hb dX6_pass_47 (by decide) ?_
      refine lv_iload_n hx hb dX6_pass_49 rfl (lv_at hl 1 rfl) ?_
      refine lv_iconst (v := 0) hx hb dX6_pass_50 (by decide) ?_
      refine lv_iconst (v := 0) hx hb dX6_pass_51 (by decide) ?_
      have hok : kOk (D, nl, nt, ng) (k_fe 7 mi 0 0) := Or.inr (Or.inr (Or.inr (Or.inr (Or.inr (Or.inr (Or.inr (⟨rfl, k_within c1⟩)))))))
      refine k_callV (As := [.int 7, .int mi, .int 0, .int 0]) (rest := []) ⟨hx, hb, hml, hown, hts⟩ hK (c_X6_happen X l hd D hwf h9 hc hne 7 mi 0 0 hok) (cwV 4 hts gX6_pass_X6_happen rfl rfl rfl (by decide +kernel) ⟨Nat.le_of_ble_eq_true rfl, Nat.le_of_ble_eq_true rfl⟩) (k_recv hK (k_ev hW) 16 0 hc.o (fun _ => rfl) rfl) hW rfl hl.1 rfl (Nat.le_of_ble_eq_true rfl) dX6_pass_52 ⟨Nat.le_of_ble_eq_true rfl, Nat.le_of_ble_eq_true rfl⟩ hL (fun v9 H locs hp hL => ?_)
      obtain ⟨rfl, hH⟩ := hp
      refine k_more (cells' := 5) (slots' := 805) (Nat.le_of_ble_eq_true rfl) (Nat.le_of_ble_eq_true rfl) (vx_ret ?_)
      exact k_iret hx hb hr hlocks (⟨(by unfold s_x_pass; first | rfl | (simp only [if_neg c1, if_pos c2]; done) | (simp only [if_neg c1, if_pos c2]; rfl)), rfl, hH⟩) hL dX6_pass_55
    ·
      exact k_throw (own := RX6) (cls := "java/lang/IllegalStateException") (text := "the dock's time ends before") (ik := 41) (is := 113) (ic := 45) hx hb hl9 2 hown (by decide +kernel) hK rfl (hts (.classLink RX6 41 "java/lang/IllegalStateException") (by decide +kernel)) (hts (.initialized "java/lang/IllegalStateException") (by decide +kernel)) (fun w hw => hts w (ha_X6_pass_45 w hw)) bad_RX6_45 og_RX6_41_45 hW0 hW hL (hl.1.trans hml.symm) dX6_pass_36 dX6_pass_39 dX6_pass_40 dX6_pass_42 dX6_pass_45 ht (Nat.le_of_ble_eq_true rfl) (Nat.le_of_ble_eq_true rfl) (Nat.le_of_ble_eq_true rfl) (Nat.le_of_ble_eq_true rfl) hlocks (fun H1 hW => Or.inr (⟨rfl, (by unfold s_x_pass; first | rfl | (simp only [if_neg c1, if_neg c2]; done) | (simp only [if_neg c1, if_neg c2]; rfl)), hW⟩)) (Nat.le_of_ble_eq_true rfl) (Nat.le_of_ble_eq_true rfl)
  ·
    exact k_throw (own := RX6) (cls := "java/lang/IllegalArgumentException") (text := "minutes out of range") (ik := 27) (is := 108) (ic := 31) hx hb hl9 1 hown (by decide +kernel) hK rfl (hts (.classLink RX6 27 "java/lang/IllegalArgumentException") (by decide +kernel)) (hts (.initialized "java/lang/IllegalArgumentException") (by decide +kernel)) (fun w hw => hts w (ha_X6_pass_31 w hw)) bad_RX6_31 og_RX6_27_31 hW0 hW hL (hl.1.trans hml.symm) dX6_pass_11 dX6_pass_14 dX6_pass_15 dX6_pass_17 dX6_pass_20 ht (Nat.le_of_ble_eq_true rfl) (Nat.le_of_ble_eq_true rfl) (Nat.le_of_ble_eq_true rfl) (Nat.le_of_ble_eq_true rfl) hlocks (fun H1 hW => Or.inl ⟨rfl, (by unfold s_x_pass; first | rfl | (simp only [if_pos c1]; done) | (simp only [if_pos c1]; rfl)), hW⟩) (Nat.le_of_ble_eq_true rfl) (Nat.le_of_ble_eq_true rfl)
