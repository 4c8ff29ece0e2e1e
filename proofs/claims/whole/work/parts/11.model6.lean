theorem mWho_in {D : KD} {nl nt ng : Nat} (h : mWF D nl nt ng) {x : Int32} (hc : ¬ s_X7_isIn x (-1) (D 14 0 1 - 1) = 0) : x = -1 ∨ vp_in x nl := by
  have h8 := h.l8
  rw [h.l] at hc
  obtain ⟨h1, h2⟩ := s_isIn_0 hc
  by_cases q : x < 0
  · refine Or.inl ?_
    have a := mt Int32.lt_iff_toInt_lt.mpr h1
    have b := Int32.lt_iff_toInt_lt.mp q
    have e1 : (-1 : Int32).toInt = -1 := by decide
    have e0 : (0 : Int32).toInt = 0 := by decide
    exact Int32.toInt_inj.mp (by omega)
  · refine Or.inr ?_
    rcases Nat.eq_zero_or_pos nl with h0 | h0
    · exfalso
      obtain ⟨j, hj, rfl⟩ := nI_of q
      rw [h0] at h2
      refine h2 ?_
      show nI 0 - 1 < nI j
      rw [show nI 0 - 1 = -1 by decide, Int32.lt_iff_toInt_lt, nI_toInt hj]
      have e1 : (-1 : Int32).toInt = -1 := by decide
      omega
    · exact vp_in_toI (by omega) q h2 h0
theorem mOwed_in2 {is l : Int32} (h1 : is = -1 ∨ vp_in is 8) (hl : vp_in l 8) : vp_in (8 * (is + 1) + l) 72 := by
  refine mOwed_in (Or.inr h1) ?_ hl
  rintro rfl
  rcases h1 with q | q
  · exact absurd q (by decide)
  · exact q (Or.inl (by decide))

def s_X7_sendOff (D : KD) (nl : Nat) (nt : Nat) (ng : Nat) (l0 : Int32) : KD × Int32 := (if (j_X7_noLorry_20 D l0) = 0 then (if (D 15 11 (l0.toNatClampNeg)) = 121 then ((s_X7_leaves (k_d D 14 0 0 (j_X7_noLorry_20 D l0)) nl nt ng l0 (D 14 0 4)), (s_X7_missing (s_X7_leaves (k_d D 14 0 0 (j_X7_noLorry_20 D l0)) nl nt ng l0 (D 14 0 4)) nl nt ng l0)) else (if (D 15 11 (l0.toNatClampNeg)) = 100 then ((s_X7_leaves (k_d D 14 0 0 (j_X7_noLorry_20 D l0)) nl nt ng l0 (D 14 0 4)), (s_X7_missing (s_X7_leaves (k_d D 14 0 0 (j_X7_noLorry_20 D l0)) nl nt ng l0 (D 14 0 4)) nl nt ng l0)) else (k_d (k_d D 14 0 0 (j_X7_noLorry_20 D l0)) 14 0 0 2, 0))) else (k_d D 14 0 0 (j_X7_noLorry_20 D l0), 0))
set_option maxHeartbeats 4000000 in
set_option maxRecDepth 100000 in
theorem c_X7_sendOff (X : kX) (l : Launch) {n : Nat → Nat → Nat} {ad L : Nat → Nat → Nat → Nat} {C : Nat → Nat → Nat → Nat → Int32} {fr : Nat → Option Cell} {g : Nat} (hm : k_mod n g) (D : KD) (l0 : Int32) {nl nt ng : Nat} (hwf : mWF D nl nt ng) : k_M X l yX7_sendOff wsX7_sendOff ({ frames := 3, cells := 0, slots := 0, locals := 55 }) [.ref (ad g 14 0), .int l0] (k_W X n ad L (k_g C g D) fr) (fun v H => v = some (.int ((s_X7_sendOff D nl nt ng l0).2)) ∧ k_W X n ad L (k_g C g ((s_X7_sendOff D nl nt ng l0).1)) fr H) 0 0 := by
  refine k_M.of (cc := cX7_sendOff) (maxL := 2) (ret := (some .int)) (by decide) rfl (Nat.le_of_ble_eq_true rfl) ?_
  intro p e s m args below meth c ls hx hb hr hml hown hts hlocks hnm hK hW hl
  have hL : ∀ q ∈ ([] : List Loc), k_B X ≤ q.base := fun _ h => nomatch h
  have hl : lv_has ls 2 [(0, .ref (ad g 14 0)), (1, .int l0)] := hl
  have fX7 : ∀ w ∈ u_ws RX7 TX7 34, w.before args s = true := fun w h => hts w ((by decide +kernel : ∀ w ∈ u_ws RX7 TX7 34, w ∈ wsX7_sendOff) w h)
  have hl8 := hwf.l8
  have ht16 := hwf.t16
  have hg4 := hwf.g4
  refine lv_aload_n hx hb dX7_sendOff_0 rfl (lv_at hl 0 rfl) ?_
  refine lv_iload_n hx hb dX7_sendOff_1 rfl (lv_at hl 1 rfl) ?_
  refine k_callV (As := [.int l0]) (rest := []) ⟨hx, hb, hml, hown, hts⟩ hK (c_X7_noLorry2 X l hm D l0) (cwV 1 hts gX7_sendOff_X7_noLorry rfl rfl rfl (by decide +kernel) ⟨Nat.le_of_ble_eq_true rfl, Nat.le_of_ble_eq_true rfl⟩) (k_recv hK hW 14 0 hm.o (fun _ => rfl) rfl) hW rfl hl.1 rfl (Nat.le_of_ble_eq_true rfl) dX7_sendOff_2 ⟨Nat.le_of_ble_eq_true rfl, Nat.le_of_ble_eq_true rfl⟩ hL (fun v9 H locs hp hL => ?_)
  obtain ⟨rfl, hW⟩ := hp
  refine lv_if_eq (tgt := 10) hx hb dX7_sendOff_5 (by decide) (fun c1 => ?_) (fun c1 => ?_)
  ·
    have hin_l0 := mNoL_in hwf c1
    refine lv_aload_n hx hb dX7_sendOff_10 rfl (lv_at hl 0 rfl) ?_
    refine k_get (K := RX7) (T := TX7) (N := 34) (v := .ref (ad g 15 11)) (w := .ref (ad g 15 11)) hx hb fX7 hown hK hW 14 0 hm.o (fun _ => rfl) rfl 18 (by decide) (hts (.fieldLink RX7 44 "CrossdockeryModel" "state" "[C") (by decide +kernel)) rfl rfl rfl dX7_sendOff_11 ?_
    refine lv_iload_n hx hb dX7_sendOff_14 rfl (lv_at hl 1 rfl) ?_
    refine k_cald (z := 8) (k := (l0.toNatClampNeg)) hx hb hK hW 15 11 (hm.a (i := 11) (by decide)) (fun _ => rfl) rfl (hin_l0.mono (by omega)) (v := (D 15 11 (l0.toNatClampNeg))) (k_dr rfl) dX7_sendOff_15 ?_
    refine lv_bipush (v := 121) hx hb dX7_sendOff_16 (by decide) ?_
    refine lv_icmp_eq (tgt := 38) hx hb dX7_sendOff_18 (by decide) (fun c2 => ?_) (fun c2 => ?_)
    ·
      refine lv_aload_n hx hb dX7_sendOff_38 rfl (lv_at hl 0 rfl) ?_
      refine lv_iload_n hx hb dX7_sendOff_39 rfl (lv_at hl 1 rfl) ?_
      refine lv_aload_n hx hb dX7_sendOff_40 rfl (lv_at hl 0 rfl) ?_
      refine k_get (K := RX7) (T := TX7) (N := 34) (v := .int ((k_d D 14 0 0 (j_X7_noLorry_20 D l0)) 14 0 4)) (w := .int (D 14 0 4)) hx hb fX7 hown hK hW 14 0 hm.o (fun _ => rfl) rfl 4 (by decide) (hts (.fieldLink RX7 121 "CrossdockeryModel" "now" "I") (by decide +kernel)) rfl rfl (congrArg Value.int (k_dk rfl)) dX7_sendOff_41 ?_
      refine k_callV (As := [.int l0, .int (D 14 0 4)]) (rest := []) ⟨hx, hb, hml, hown, hts⟩ hK (c_X7_leaves X l hm (k_d D 14 0 0 (j_X7_noLorry_20 D l0)) l0 (D 14 0 4) (hwf.put14 (by decide)) (hin_l0.mono (by omega)) (fun q => (hwf.put14 (by decide)).sdr hin_l0.lt (Or.inr q))) (cwV 2 hts gX7_sendOff_X7_leaves rfl rfl rfl (by decide +kernel) ⟨Nat.le_of_ble_eq_true rfl, Nat.le_of_ble_eq_true rfl⟩) (k_recv hK hW 14 0 hm.o (fun _ => rfl) rfl) hW rfl hl.1 rfl (Nat.le_of_ble_eq_true rfl) dX7_sendOff_44 ⟨Nat.le_of_ble_eq_true rfl, Nat.le_of_ble_eq_true rfl⟩ hL (fun v9 H locs hp hL => ?_)
      obtain ⟨rfl, hW⟩ := hp
      refine lv_aload_n hx hb dX7_sendOff_47 rfl (lv_at hl 0 rfl) ?_
      refine lv_iload_n hx hb dX7_sendOff_48 rfl (lv_at hl 1 rfl) ?_
      refine k_callV (As := [.int l0]) (rest := []) ⟨hx, hb, hml, hown, hts⟩ hK (c_X7_missing X l hm (s_X7_leaves (k_d D 14 0 0 (j_X7_noLorry_20 D l0)) nl nt ng l0 (D 14 0 4)) l0 (mWF_leaves2 (hwf.put14 (by decide)) hin_l0 (by first | exact Or.inl c2 | exact Or.inr c2) _) (hin_l0.mono (by omega))) (cwV 1 hts gX7_sendOff_X7_missing rfl rfl rfl (by decide +kernel) ⟨Nat.le_of_ble_eq_true rfl, Nat.le_of_ble_eq_true rfl⟩) (k_recv hK hW 14 0 hm.o (fun _ => rfl) rfl) hW rfl hl.1 rfl (Nat.le_of_ble_eq_true rfl) dX7_sendOff_49 ⟨Nat.le_of_ble_eq_true rfl, Nat.le_of_ble_eq_true rfl⟩ hL (fun v9 H locs hp hL => ?_)
      obtain ⟨rfl, hW⟩ := hp
      have e9 : (s_X7_sendOff D nl nt ng l0) = ((s_X7_leaves (k_d D 14 0 0 (j_X7_noLorry_20 D l0)) nl nt ng l0 (D 14 0 4)), (s_X7_missing (s_X7_leaves (k_d D 14 0 0 (j_X7_noLorry_20 D l0)) nl nt ng l0 (D 14 0 4)) nl nt ng l0)) := by unfold s_X7_sendOff; first | done | (simp only [if_pos c1, if_pos c2]; done) | rfl
      exact k_iret hx hb hr hlocks (⟨by rw [e9], by rw [e9]; exact hW⟩) hL dX7_sendOff_52
    ·
      refine lv_aload_n hx hb dX7_sendOff_21 rfl (lv_at hl 0 rfl) ?_
      refine k_get (K := RX7) (T := TX7) (N := 34) (v := .ref (ad g 15 11)) (w := .ref (ad g 15 11)) hx hb fX7 hown hK hW 14 0 hm.o (fun _ => rfl) rfl 18 (by decide) (hts (.fieldLink RX7 44 "CrossdockeryModel" "state" "[C") (by decide +kernel)) rfl rfl rfl dX7_sendOff_22 ?_
      refine lv_iload_n hx hb dX7_sendOff_25 rfl (lv_at hl 1 rfl) ?_
      refine k_cald (z := 8) (k := (l0.toNatClampNeg)) hx hb hK hW 15 11 (hm.a (i := 11) (by decide)) (fun _ => rfl) rfl (hin_l0.mono (by omega)) (v := (D 15 11 (l0.toNatClampNeg))) (k_dr rfl) dX7_sendOff_26 ?_
      refine lv_bipush (v := 100) hx hb dX7_sendOff_27 (by decide) ?_
      refine lv_icmp_eq (tgt := 38) hx hb dX7_sendOff_29 (by decide) (fun c3 => ?_) (fun c3 => ?_)
      ·
        refine lv_aload_n hx hb dX7_sendOff_38 rfl (lv_at hl 0 rfl) ?_
        refine lv_iload_n hx hb dX7_sendOff_39 rfl (lv_at hl 1 rfl) ?_
        refine lv_aload_n hx hb dX7_sendOff_40 rfl (lv_at hl 0 rfl) ?_
        refine k_get (K := RX7) (T := TX7) (N := 34) (v := .int ((k_d D 14 0 0 (j_X7_noLorry_20 D l0)) 14 0 4)) (w := .int (D 14 0 4)) hx hb fX7 hown hK hW 14 0 hm.o (fun _ => rfl) rfl 4 (by decide) (hts (.fieldLink RX7 121 "CrossdockeryModel" "now" "I") (by decide +kernel)) rfl rfl (congrArg Value.int (k_dk rfl)) dX7_sendOff_41 ?_
        refine k_callV (As := [.int l0, .int (D 14 0 4)]) (rest := []) ⟨hx, hb, hml, hown, hts⟩ hK (c_X7_leaves X l hm (k_d D 14 0 0 (j_X7_noLorry_20 D l0)) l0 (D 14 0 4) (hwf.put14 (by decide)) (hin_l0.mono (by omega)) (fun q => (hwf.put14 (by decide)).sdr hin_l0.lt (Or.inr q))) (cwV 2 hts gX7_sendOff_X7_leaves rfl rfl rfl (by decide +kernel) ⟨Nat.le_of_ble_eq_true rfl, Nat.le_of_ble_eq_true rfl⟩) (k_recv hK hW 14 0 hm.o (fun _ => rfl) rfl) hW rfl hl.1 rfl (Nat.le_of_ble_eq_true rfl) dX7_sendOff_44 ⟨Nat.le_of_ble_eq_true rfl, Nat.le_of_ble_eq_true rfl⟩ hL (fun v9 H locs hp hL => ?_)
        obtain ⟨rfl, hW⟩ := hp
        refine lv_aload_n hx hb dX7_sendOff_47 rfl (lv_at hl 0 rfl) ?_
        refine lv_iload_n hx hb dX7_sendOff_48 rfl (lv_at hl 1 rfl) ?_
        refine k_callV (As := [.int l0]) (rest := []) ⟨hx, hb, hml, hown, hts⟩ hK (c_X7_missing X l hm (s_X7_leaves (k_d D 14 0 0 (j_X7_noLorry_20 D l0)) nl nt ng l0 (D 14 0 4)) l0 (mWF_leaves2 (hwf.put14 (by decide)) hin_l0 (by first | exact Or.inl c3 | exact Or.inr c3) _) (hin_l0.mono (by omega))) (cwV 1 hts gX7_sendOff_X7_missing rfl rfl rfl (by decide +kernel) ⟨Nat.le_of_ble_eq_true rfl, Nat.le_of_ble_eq_true rfl⟩) (k_recv hK hW 14 0 hm.o (fun _ => rfl) rfl) hW rfl hl.1 rfl (Nat.le_of_ble_eq_true rfl) dX7_sendOff_49 ⟨Nat.le_of_ble_eq_true rfl, Nat.le_of_ble_eq_true rfl⟩ hL (fun v9 H locs hp hL => ?_)
        obtain ⟨rfl, hW⟩ := hp
        have e9 : (s_X7_sendOff D nl nt ng l0) = ((s_X7_leaves (k_d D 14 0 0 (j_X7_noLorry_20 D l0)) nl nt ng l0 (D 14 0 4)), (s_X7_missing (s_X7_leaves (k_d D 14 0 0 (j_X7_noLorry_20 D l0)) nl nt ng l0 (D 14 0 4)) nl nt ng l0)) := by unfold s_X7_sendOff; first | done | (simp only [if_pos c1, if_neg c2, if_pos c3]; done) | rfl
        exact k_iret hx hb hr hlocks (⟨by rw [e9], by rw [e9]; exact hW⟩) hL dX7_sendOff_52
      ·
        refine lv_aload_n hx hb dX7_sendOff_32 rfl (lv_at hl 0 rfl) ?_
        refine lv_iconst (v := 2) hx hb dX7_sendOff_33 (by decide) ?_
        refine k_callV (As := [.int 2]) (rest := []) ⟨hx, hb, hml, hown, hts⟩ hK (c_X7_fail2 X l hm (k_d D 14 0 0 (j_X7_noLorry_20 D l0)) 2) (cwV 1 hts gX7_sendOff_X7_fail rfl rfl rfl (by decide +kernel) ⟨Nat.le_of_ble_eq_true rfl, Nat.le_of_ble_eq_true rfl⟩) (k_recv hK hW 14 0 hm.o (fun _ => rfl) rfl) hW rfl hl.1 rfl (Nat.le_of_ble_eq_true rfl) dX7_sendOff_34 ⟨Nat.le_of_ble_eq_true rfl, Nat.le_of_ble_eq_true rfl⟩ hL (fun v9 H locs hp hL => ?_)
        obtain ⟨rfl, hW⟩ := hp
        have e9 : (s_X7_sendOff D nl nt ng l0) = (k_d (k_d D 14 0 0 (j_X7_noLorry_20 D l0)) 14 0 0 2, 0) := by unfold s_X7_sendOff; first | done | (simp only [if_pos c1, if_neg c2, if_neg c3]; done) | rfl
        exact k_iret hx hb hr hlocks (⟨by rw [e9], by rw [e9]; exact hW⟩) hL dX7_sendOff_37
  ·
    refine lv_iconst (v := 0) hx hb dX7_sendOff_8 (by decide) ?_
    have e9 : (s_X7_sendOff D nl nt ng l0) = (k_d D 14 0 0 (j_X7_noLorry_20 D l0), 0) := by unfold s_X7_sendOff; first | done | (simp only [if_neg c1]; done) | rfl
    exact k_iret hx hb hr hlocks (⟨by rw [e9], by rw [e9]; exact hW⟩) hL dX7_sendOff_9
def s_X7_now (D : KD) : Int32 := D 14 0 4
set_option maxHeartbeats 4000000 in
set_option maxRecDepth 100000 in
theorem c_X7_now (X : kX) (l : Launch) {n : Nat → Nat → Nat} {ad L : Nat → Nat → Nat → Nat} {C : Nat → Nat → Nat → Nat → Int32} {fr : Nat → Option Cell} {g : Nat} (hm : k_mod n g) (D : KD)  : k_M X l yX7_now wsX7_now ({ frames := 1, cells := 0, slots := 0, locals := 12 }) [.ref (ad g 14 0)] (k_W X n ad L (k_g C g D) fr) (fun v H => v = some (.int (s_X7_now D)) ∧ k_W X n ad L (k_g C g D) fr H) 0 0 := by
  refine k_M.of (cc := cX7_now) (maxL := 1) (ret := (some .int)) (by decide) rfl (Nat.le_of_ble_eq_true rfl) ?_
  intro p e s m args below meth c ls hx hb hr hml hown hts hlocks hnm hK hW hl
  have hL : ∀ q ∈ ([] : List Loc), k_B X ≤ q.base := fun _ h => nomatch h
  have hl : lv_has ls 1 [(0, .ref (ad g 14 0))] := hl
  have fX7 : ∀ w ∈ u_ws RX7 TX7 34, w.before args s = true := fun w h => hts w ((by decide +kernel : ∀ w ∈ u_ws RX7 TX7 34, w ∈ wsX7_now) w h)
  refine lv_aload_n hx hb dX7_now_0 rfl (lv_at hl 0 rfl) ?_
  refine k_get (K := RX7) (T := TX7) (N := 34) (v := .int (D 14 0 4)) (w := .int (D 14 0 4)) hx hb fX7 hown hK hW 14 0 hm.o (fun _ => rfl) rfl 4 (by decide) (hts (.fieldLink RX7 121 "CrossdockeryModel" "now" "I") (by decide +kernel)) rfl rfl rfl dX7_now_1 ?_
  have e9 : (s_X7_now D) = D 14 0 4 := by unfold s_X7_now; first | done | rfl
  exact k_iret hx hb hr hlocks (⟨by rw [e9], hW⟩) hL dX7_now_4
def s_X7_power (D : KD) (nl : Nat) (nt : Nat) (ng : Nat) (d : Int32) : KD × Int32 := (if (j_X7_noDoor_15 D d) = 0 then (k_d D 14 0 0 (j_X7_noDoor_15 D d), (s_X7_powerOf (k_d D 14 0 0 (j_X7_noDoor_15 D d)) nl nt ng d)) else (k_d D 14 0 0 (j_X7_noDoor_15 D d), 0))
set_option maxHeartbeats 4000000 in
set_option maxRecDepth 100000 in
theorem c_X7_power (X : kX) (l : Launch) {n : Nat → Nat → Nat} {ad L : Nat → Nat → Nat → Nat} {C : Nat → Nat → Nat → Nat → Int32} {fr : Nat → Option Cell} {g : Nat} (hm : k_mod n g) (D : KD) (d : Int32) {nl nt ng : Nat} (hwf : mWF D nl nt ng) : k_M X l yX7_power wsX7_power ({ frames := 3, cells := 0, slots := 0, locals := 57 }) [.ref (ad g 14 0), .int d] (k_W X n ad L (k_g C g D) fr) (fun v H => v = some (.int ((s_X7_power D nl nt ng d).2)) ∧ k_W X n ad L (k_g C g ((s_X7_power D nl nt ng d).1)) fr H) 0 0 := by
  refine k_M.of (cc := cX7_power) (maxL := 2) (ret := (some .int)) (by decide) rfl (Nat.le_of_ble_eq_true rfl) ?_
  intro p e s m args below meth c ls hx hb hr hml hown hts hlocks hnm hK hW hl
  have hL : ∀ q ∈ ([] : List Loc), k_B X ≤ q.base := fun _ h => nomatch h
  have hl : lv_has ls 2 [(0, .ref (ad g 14 0)), (1, .int d)] := hl
  have fX7 : ∀ w ∈ u_ws RX7 TX7 34, w.before args s = true := fun w h => hts w ((by decide +kernel : ∀ w ∈ u_ws RX7 TX7 34, w ∈ wsX7_power) w h)
  have hl8 := hwf.l8
  have ht16 := hwf.t16
  have hg4 := hwf.g4
  refine lv_aload_n hx hb dX7_power_0 rfl (lv_at hl 0 rfl) ?_
  refine lv_iload_n hx hb dX7_power_1 rfl (lv_at hl 1 rfl) ?_
  refine k_callV (As := [.int d]) (rest := []) ⟨hx, hb, hml, hown, hts⟩ hK (c_X7_noDoor2 X l hm D d) (cwV 1 hts gX7_power_X7_noDoor rfl rfl rfl (by decide +kernel) ⟨Nat.le_of_ble_eq_true rfl, Nat.le_of_ble_eq_true rfl⟩) (k_recv hK hW 14 0 hm.o (fun _ => rfl) rfl) hW rfl hl.1 rfl (Nat.le_of_ble_eq_true rfl) dX7_power_2 ⟨Nat.le_of_ble_eq_true rfl, Nat.le_of_ble_eq_true rfl⟩ hL (fun v9 H locs hp hL => ?_)
  obtain ⟨rfl, hW⟩ := hp
  refine lv_if_eq (tgt := 12) hx hb dX7_power_5 (by decide) (fun c1 => ?_) (fun c1 => ?_)
  ·
    have hin_d := mNoD_in c1
    refine lv_aload_n hx hb dX7_power_12 rfl (lv_at hl 0 rfl) ?_
    refine lv_iload_n hx hb dX7_power_13 rfl (lv_at hl 1 rfl) ?_
    refine k_callV (As := [.int d]) (rest := []) ⟨hx, hb, hml, hown, hts⟩ hK (c_X7_powerOf X l hm (k_d D 14 0 0 (j_X7_noDoor_15 D d)) d (hwf.put14 (by decide))) (cwV 1 hts gX7_power_X7_powerOf rfl rfl rfl (by decide +kernel) ⟨Nat.le_of_ble_eq_true rfl, Nat.le_of_ble_eq_true rfl⟩) (k_recv hK hW 14 0 hm.o (fun _ => rfl) rfl) hW rfl hl.1 rfl (Nat.le_of_ble_eq_true rfl) dX7_power_14 ⟨Nat.le_of_ble_eq_true rfl, Nat.le_of_ble_eq_true rfl⟩ hL (fun v9 H locs hp hL => ?_)
    obtain ⟨rfl, hW⟩ := hp
    have e9 : (s_X7_power D nl nt ng d) = (k_d D 14 0 0 (j_X7_noDoor_15 D d), (s_X7_powerOf (k_d D 14 0 0 (j_X7_noDoor_15 D d)) nl nt ng d)) := by unfold s_X7_power; first | done | (simp only [if_pos c1]; done) | rfl
    exact k_iret hx hb hr hlocks (⟨by rw [e9], by rw [e9]; exact hW⟩) hL dX7_power_17
  ·
    refine lv_iconst (v := 0) hx hb dX7_power_8 (by decide) ?_
    refine lv_goto (tgt := 17) hx hb dX7_power_9 (by decide) ?_
    have e9 : (s_X7_power D nl nt ng d) = (k_d D 14 0 0 (j_X7_noDoor_15 D d), 0) := by unfold s_X7_power; first | done | (simp only [if_neg c1]; done) | rfl
    exact k_iret hx hb hr hlocks (⟨by rw [e9], by rw [e9]; exact hW⟩) hL dX7_power_17
def s_X7_stateOf (D : KD) (nl : Nat) (nt : Nat) (ng : Nat) (l0 : Int32) : KD × Int32 := (if (j_X7_noLorry_20 D l0) = 0 then (k_d D 14 0 0 (j_X7_noLorry_20 D l0), D 15 11 (l0.toNatClampNeg)) else (k_d D 14 0 0 (j_X7_noLorry_20 D l0), 101))
set_option maxHeartbeats 4000000 in
set_option maxRecDepth 100000 in
theorem c_X7_stateOf (X : kX) (l : Launch) {n : Nat → Nat → Nat} {ad L : Nat → Nat → Nat → Nat} {C : Nat → Nat → Nat → Nat → Int32} {fr : Nat → Option Cell} {g : Nat} (hm : k_mod n g) (D : KD) (l0 : Int32) {nl nt ng : Nat} (hwf : mWF D nl nt ng) : k_M X l yX7_stateOf wsX7_stateOf ({ frames := 3, cells := 0, slots := 0, locals := 55 }) [.ref (ad g 14 0), .int l0] (k_W X n ad L (k_g C g D) fr) (fun v H => v = some (.int ((s_X7_stateOf D nl nt ng l0).2)) ∧ k_W X n ad L (k_g C g ((s_X7_stateOf D nl nt ng l0).1)) fr H) 0 0 := by
  refine k_M.of (cc := cX7_stateOf) (maxL := 2) (ret := (some .char)) (by decide) rfl (Nat.le_of_ble_eq_true rfl) ?_
  intro p e s m args below meth c ls hx hb hr hml hown hts hlocks hnm hK hW hl
  have hL : ∀ q ∈ ([] : List Loc), k_B X ≤ q.base := fun _ h => nomatch h
  have hl : lv_has ls 2 [(0, .ref (ad g 14 0)), (1, .int l0)] := hl
  have fX7 : ∀ w ∈ u_ws RX7 TX7 34, w.before args s = true := fun w h => hts w ((by decide +kernel : ∀ w ∈ u_ws RX7 TX7 34, w ∈ wsX7_stateOf) w h)
  have hl8 := hwf.l8
  have ht16 := hwf.t16
  have hg4 := hwf.g4
  refine lv_aload_n hx hb dX7_stateOf_0 rfl (lv_at hl 0 rfl) ?_
  refine lv_iload_n hx hb dX7_stateOf_1 rfl (lv_at hl 1 rfl) ?_
  refine k_callV (As := [.int l0]) (rest := []) ⟨hx, hb, hml, hown, hts⟩ hK (c_X7_noLorry2 X l hm D l0) (cwV 1 hts gX7_stateOf_X7_noLorry rfl rfl rfl (by decide +kernel) ⟨Nat.le_of_ble_eq_true rfl, Nat.le_of_ble_eq_true rfl⟩) (k_recv hK hW 14 0 hm.o (fun _ => rfl) rfl) hW rfl hl.1 rfl (Nat.le_of_ble_eq_true rfl) dX7_stateOf_2 ⟨Nat.le_of_ble_eq_true rfl, Nat.le_of_ble_eq_true rfl⟩ hL (fun v9 H locs hp hL => ?_)
  obtain ⟨rfl, hW⟩ := hp
  refine lv_if_eq (tgt := 13) hx hb dX7_stateOf_5 (by decide) (fun c1 => ?_) (fun c1 => ?_)
  ·
    have hin_l0 := mNoL_in hwf c1
    refine lv_aload_n hx hb dX7_stateOf_13 rfl (lv_at hl 0 rfl) ?_
    refine k_get (K := RX7) (T := TX7) (N := 34) (v := .ref (ad g 15 11)) (w := .ref (ad g 15 11)) hx hb fX7 hown hK hW 14 0 hm.o (fun _ => rfl) rfl 18 (by decide) (hts (.fieldLink RX7 44 "CrossdockeryModel" "state" "[C") (by decide +kernel)) rfl rfl rfl dX7_stateOf_14 ?_
    refine lv_iload_n hx hb dX7_stateOf_17 rfl (lv_at hl 1 rfl) ?_
    refine k_cald (z := 8) (k := (l0.toNatClampNeg)) hx hb hK hW 15 11 (hm.a (i := 11) (by decide)) (fun _ => rfl) rfl (hin_l0.mono (by omega)) (v := (D 15 11 (l0.toNatClampNeg))) (k_dr rfl) dX7_stateOf_18 ?_
    have e9 : (s_X7_stateOf D nl nt ng l0) = (k_d D 14 0 0 (j_X7_noLorry_20 D l0), D 15 11 (l0.toNatClampNeg)) := by unfold s_X7_stateOf; first | done | (simp only [if_pos c1]; done) | rfl
    exact k_zret hx hb hr (hwf.nch hin_l0.lt) hlocks (⟨by rw [e9], by rw [e9]; exact hW⟩) hL dX7_stateOf_19
  ·
    refine lv_bipush (v := 101) hx hb dX7_stateOf_8 (by decide) ?_
    refine lv_goto (tgt := 19) hx hb dX7_stateOf_10 (by decide) ?_
    have e9 : (s_X7_stateOf D nl nt ng l0) = (k_d D 14 0 0 (j_X7_noLorry_20 D l0), 101) := by unfold s_X7_stateOf; first | done | (simp only [if_neg c1]; done) | rfl
    exact k_zret hx hb hr (by decide) hlocks (⟨by rw [e9], by rw [e9]; exact hW⟩) hL dX7_stateOf_19
def s_X7_lorryAt (D : KD) (nl : Nat) (nt : Nat) (ng : Nat) (d : Int32) : KD × Int32 := (if (j_X7_noDoor_15 D d) = 0 then (if (D 15 23 (d.toNatClampNeg)) = (-1) then (k_d (k_d D 14 0 0 (j_X7_noDoor_15 D d)) 14 0 0 2, 0) else (k_d D 14 0 0 (j_X7_noDoor_15 D d), D 15 23 (d.toNatClampNeg))) else (k_d D 14 0 0 (j_X7_noDoor_15 D d), 0))
set_option maxHeartbeats 4000000 in
set_option maxRecDepth 100000 in
theorem c_X7_lorryAt (X : kX) (l : Launch) {n : Nat → Nat → Nat} {ad L : Nat → Nat → Nat → Nat} {C : Nat → Nat → Nat → Nat → Int32} {fr : Nat → Option Cell} {g : Nat} (hm : k_mod n g) (D : KD) (d : Int32) {nl nt ng : Nat} (hwf : mWF D nl nt ng) : k_M X l yX7_lorryAt wsX7_lorryAt ({ frames := 3, cells := 0, slots := 0, locals := 55 }) [.ref (ad g 14 0), .int d] (k_W X n ad L (k_g C g D) fr) (fun v H => v = some (.int ((s_X7_lorryAt D nl nt ng d).2)) ∧ k_W X n ad L (k_g C g ((s_X7_lorryAt D nl nt ng d).1)) fr H) 0 0 := by
  refine k_M.of (cc := cX7_lorryAt) (maxL := 2) (ret := (some .int)) (by decide) rfl (Nat.le_of_ble_eq_true rfl) ?_
  intro p e s m args below meth c ls hx hb hr hml hown hts hlocks hnm hK hW hl
  have hL : ∀ q ∈ ([] : List Loc), k_B X ≤ q.base := fun _ h => nomatch h
  have hl : lv_has ls 2 [(0, .ref (ad g 14 0)), (1, .int d)] := hl
  have fX7 : ∀ w ∈ u_ws RX7 TX7 34, w.before args s = true := fun w h => hts w ((by decide +kernel : ∀ w ∈ u_ws RX7 TX7 34, w ∈ wsX7_lorryAt) w h)
  have hl8 := hwf.l8
  have ht16 := hwf.t16
  have hg4 := hwf.g4
  refine lv_aload_n hx hb dX7_lorryAt_0 rfl (lv_at hl 0 rfl) ?_
  refine lv_iload_n hx hb dX7_lorryAt_1 rfl (lv_at hl 1 rfl) ?_
  refine k_callV (As := [.int d]) (rest := []) ⟨hx, hb, hml, hown, hts⟩ hK (c_X7_noDoor2 X l hm D d) (cwV 1 hts gX7_lorryAt_X7_noDoor rfl rfl rfl (by decide +kernel) ⟨Nat.le_of_ble_eq_true rfl, Nat.le_of_ble_eq_true rfl⟩) (k_recv hK hW 14 0 hm.o (fun _ => rfl) rfl) hW rfl hl.1 rfl (Nat.le_of_ble_eq_true rfl) dX7_lorryAt_2 ⟨Nat.le_of_ble_eq_true rfl, Nat.le_of_ble_eq_true rfl⟩ hL (fun v9 H locs hp hL => ?_)
  obtain ⟨rfl, hW⟩ := hp
  refine lv_if_eq (tgt := 10) hx hb dX7_lorryAt_5 (by decide) (fun c1 => ?_) (fun c1 => ?_)
  ·
    have hin_d := mNoD_in c1
    refine lv_aload_n hx hb dX7_lorryAt_10 rfl (lv_at hl 0 rfl) ?_
    refine k_get (K := RX7) (T := TX7) (N := 34) (v := .ref (ad g 15 23)) (w := .ref (ad g 15 23)) hx hb fX7 hown hK hW 14 0 hm.o (fun _ => rfl) rfl 30 (by decide) (hts (.fieldLink RX7 81 "CrossdockeryModel" "inDoor" "[I") (by decide +kernel)) rfl rfl rfl dX7_lorryAt_11 ?_
    refine lv_iload_n hx hb dX7_lorryAt_14 rfl (lv_at hl 1 rfl) ?_
    refine k_iald (z := 4) (k := (d.toNatClampNeg)) hx hb hK hW 15 23 (hm.a (i := 23) (by decide)) (fun _ => rfl) rfl (hin_d.mono (by omega)) (v := (D 15 23 (d.toNatClampNeg))) (k_dr rfl) dX7_lorryAt_15 ?_
    refine lv_iconst (v := (-1)) hx hb dX7_lorryAt_16 (by decide) ?_
    refine lv_icmp_ne (tgt := 26) hx hb dX7_lorryAt_17 (by decide) (fun c2 => ?_) (fun c2 => ?_)
    ·
      refine lv_aload_n hx hb dX7_lorryAt_26 rfl (lv_at hl 0 rfl) ?_
      refine k_get (K := RX7) (T := TX7) (N := 34) (v := .ref (ad g 15 23)) (w := .ref (ad g 15 23)) hx hb fX7 hown hK hW 14 0 hm.o (fun _ => rfl) rfl 30 (by decide) (hts (.fieldLink RX7 81 "CrossdockeryModel" "inDoor" "[I") (by decide +kernel)) rfl rfl rfl dX7_lorryAt_27 ?_
      refine lv_iload_n hx hb dX7_lorryAt_30 rfl (lv_at hl 1 rfl) ?_
      refine k_iald (z := 4) (k := (d.toNatClampNeg)) hx hb hK hW 15 23 (hm.a (i := 23) (by decide)) (fun _ => rfl) rfl (hin_d.mono (by omega)) (v := (D 15 23 (d.toNatClampNeg))) (k_dr rfl) dX7_lorryAt_31 ?_
      have e9 : (s_X7_lorryAt D nl nt ng d) = (k_d D 14 0 0 (j_X7_noDoor_15 D d), D 15 23 (d.toNatClampNeg)) := by unfold s_X7_lorryAt; first | done | (simp only [if_pos c1, if_neg c2]; done) | rfl
      exact k_iret hx hb hr hlocks (⟨by rw [e9], by rw [e9]; exact hW⟩) hL dX7_lorryAt_32
    ·
      refine lv_aload_n hx hb dX7_lorryAt_20 rfl (lv_at hl 0 rfl) ?_
      refine lv_iconst (v := 2) hx hb dX7_lorryAt_21 (by decide) ?_
      refine k_callV (As := [.int 2]) (rest := []) ⟨hx, hb, hml, hown, hts⟩ hK (c_X7_fail2 X l hm (k_d D 14 0 0 (j_X7_noDoor_15 D d)) 2) (cwV 1 hts gX7_lorryAt_X7_fail rfl rfl rfl (by decide +kernel) ⟨Nat.le_of_ble_eq_true rfl, Nat.le_of_ble_eq_true rfl⟩) (k_recv hK hW 14 0 hm.o (fun _ => rfl) rfl) hW rfl hl.1 rfl (Nat.le_of_ble_eq_true rfl) dX7_lorryAt_22 ⟨Nat.le_of_ble_eq_true rfl, Nat.le_of_ble_eq_true rfl⟩ hL (fun v9 H locs hp hL => ?_)
      obtain ⟨rfl, hW⟩ := hp
      have e9 : (s_X7_lorryAt D nl nt ng d) = (k_d (k_d D 14 0 0 (j_X7_noDoor_15 D d)) 14 0 0 2, 0) := by unfold s_X7_lorryAt; first | done | (simp only [if_pos c1, if_pos c2]; done) | rfl
      exact k_iret hx hb hr hlocks (⟨by rw [e9], by rw [e9]; exact hW⟩) hL dX7_lorryAt_25
  ·
    refine lv_iconst (v := 0) hx hb dX7_lorryAt_8 (by decide) ?_
    have e9 : (s_X7_lorryAt D nl nt ng d) = (k_d D 14 0 0 (j_X7_noDoor_15 D d), 0) := by unfold s_X7_lorryAt; first | done | (simp only [if_neg c1]; done) | rfl
    exact k_iret hx hb hr hlocks (⟨by rw [e9], by rw [e9]; exact hW⟩) hL dX7_lorryAt_9
def j_X7_inQueue_24 (D : KD) (nl : Nat) (nt : Nat) (ng : Nat) (d : Int32) (pl : Int32) : Int32 := (if pl ≥ 0 then (s_X7_queued (k_d D 14 0 0 (j_X7_noDoor_15 D d)) nl nt ng d pl) else (-1))
def s_X7_inQueue (D : KD) (nl : Nat) (nt : Nat) (ng : Nat) (d : Int32) (pl : Int32) : KD × Int32 := (if (j_X7_noDoor_15 D d) = 0 then (if (j_X7_inQueue_24 D nl nt ng d pl) = (-1) then (k_d (k_d D 14 0 0 (j_X7_noDoor_15 D d)) 14 0 0 2, 0) else (k_d D 14 0 0 (j_X7_noDoor_15 D d), (j_X7_inQueue_24 D nl nt ng d pl))) else (k_d D 14 0 0 (j_X7_noDoor_15 D d), 0))
set_option maxHeartbeats 4000000 in
set_option maxRecDepth 100000 in
theorem c_X7_inQueue (X : kX) (l : Launch) {n : Nat → Nat → Nat} {ad L : Nat → Nat → Nat → Nat} {C : Nat → Nat → Nat → Nat → Int32} {fr : Nat → Option Cell} {g : Nat} (hm : k_mod n g) (D : KD) (d : Int32) (pl : Int32) {nl nt ng : Nat} (hwf : mWF D nl nt ng) : k_M X l yX7_inQueue wsX7_inQueue ({ frames := 3, cells := 0, slots := 0, locals := 59 }) [.ref (ad g 14 0), .int d, .int pl] (k_W X n ad L (k_g C g D) fr) (fun v H => v = some (.int ((s_X7_inQueue D nl nt ng d pl).2)) ∧ k_W X n ad L (k_g C g ((s_X7_inQueue D nl nt ng d pl).1)) fr H) 0 0 := by
  refine k_M.of (cc := cX7_inQueue) (maxL := 4) (ret := (some .int)) (by decide) rfl (Nat.le_of_ble_eq_true rfl) ?_
  intro p e s m args below meth c ls hx hb hr hml hown hts hlocks hnm hK hW hl
  have hL : ∀ q ∈ ([] : List Loc), k_B X ≤ q.base := fun _ h => nomatch h
  have hl : lv_has ls 4 [(0, .ref (ad g 14 0)), (1, .int d), (2, .int pl)] := hl
  have fX7 : ∀ w ∈ u_ws RX7 TX7 34, w.before args s = true := fun w h => hts w ((by decide +kernel : ∀ w ∈ u_ws RX7 TX7 34, w ∈ wsX7_inQueue) w h)
  have hl8 := hwf.l8
  have ht16 := hwf.t16
  have hg4 := hwf.g4
  refine lv_aload_n hx hb dX7_inQueue_0 rfl (lv_at hl 0 rfl) ?_
  refine lv_iload_n hx hb dX7_inQueue_1 rfl (lv_at hl 1 rfl) ?_
  refine k_callV (As := [.int d]) (rest := []) ⟨hx, hb, hml, hown, hts⟩ hK (c_X7_noDoor2 X l hm D d) (cwV 1 hts gX7_inQueue_X7_noDoor rfl rfl rfl (by decide +kernel) ⟨Nat.le_of_ble_eq_true rfl, Nat.le_of_ble_eq_true rfl⟩) (k_recv hK hW 14 0 hm.o (fun _ => rfl) rfl) hW rfl hl.1 rfl (Nat.le_of_ble_eq_true rfl) dX7_inQueue_2 ⟨Nat.le_of_ble_eq_true rfl, Nat.le_of_ble_eq_true rfl⟩ hL (fun v9 H locs hp hL => ?_)
  obtain ⟨rfl, hW⟩ := hp
  refine lv_if_eq (tgt := 10) hx hb dX7_inQueue_5 (by decide) (fun c1 => ?_) (fun c1 => ?_)
  ·
    have hin_d := mNoD_in c1
    refine lv_iload_n hx hb dX7_inQueue_10 rfl (lv_at hl 2 rfl) ?_
    refine k_join (pc' := 24) (fun H locs ls st => k_W X n ad L (k_g C g (k_d D 14 0 0 (j_X7_noDoor_15 D d))) fr H ∧ (∀ q ∈ locs, k_B X ≤ q.base) ∧ lv_has ls 4 [(0, .ref (ad g 14 0)), (1, .int d), (2, .int pl)] ∧ st = [.int (j_X7_inQueue_24 D nl nt ng d pl)]) (fun H locs ls st hJ => ?_) (fun join24 => ?_)
    ·
      obtain ⟨hW, hL, hl, rfl⟩ := hJ
      refine lv_istore_n (lv' := [(3, .int (j_X7_inQueue_24 D nl nt ng d pl)), (0, .ref (ad g 14 0)), (1, .int d), (2, .int pl)]) hx hb dX7_inQueue_24 rfl hl (by decide) rfl (fun ls hl => ?_)
      refine lv_iload_n hx hb dX7_inQueue_25 rfl (lv_at hl 0 rfl) ?_
      refine lv_iconst (v := (-1)) hx hb dX7_inQueue_26 (by decide) ?_
      refine lv_icmp_ne (tgt := 36) hx hb dX7_inQueue_27 (by decide) (fun c3 => ?_) (fun c3 => ?_)
      ·
        refine lv_iload_n hx hb dX7_inQueue_36 rfl (lv_at hl 0 rfl) ?_
        have e9 : (s_X7_inQueue D nl nt ng d pl) = (k_d D 14 0 0 (j_X7_noDoor_15 D d), (j_X7_inQueue_24 D nl nt ng d pl)) := by unfold s_X7_inQueue; first | done | (simp only [if_pos c1, if_neg c3]; done) | rfl
        exact k_iret hx hb hr hlocks (⟨by rw [e9], by rw [e9]; exact hW⟩) hL dX7_inQueue_37
      ·
        refine lv_aload_n hx hb dX7_inQueue_30 rfl (lv_at hl 1 rfl) ?_
        refine lv_iconst (v := 2) hx hb dX7_inQueue_31 (by decide) ?_
        refine k_callV (As := [.int 2]) (rest := []) ⟨hx, hb, hml, hown, hts⟩ hK (c_X7_fail2 X l hm (k_d D 14 0 0 (j_X7_noDoor_15 D d)) 2) (cwV 1 hts gX7_inQueue_X7_fail rfl rfl rfl (by decide +kernel) ⟨Nat.le_of_ble_eq_true rfl, Nat.le_of_ble_eq_true rfl⟩) (k_recv hK hW 14 0 hm.o (fun _ => rfl) rfl) hW rfl hl.1 rfl (Nat.le_of_ble_eq_true rfl) dX7_inQueue_32 ⟨Nat.le_of_ble_eq_true rfl, Nat.le_of_ble_eq_true rfl⟩ hL (fun v9 H locs hp hL => ?_)
        obtain ⟨rfl, hW⟩ := hp
        have e9 : (s_X7_inQueue D nl nt ng d pl) = (k_d (k_d D 14 0 0 (j_X7_noDoor_15 D d)) 14 0 0 2, 0) := by unfold s_X7_inQueue; first | done | (simp only [if_pos c1, if_pos c3]; done) | rfl
        exact k_iret hx hb hr hlocks (⟨by rw [e9], by rw [e9]; exact hW⟩) hL dX7_inQueue_35
    ·
      refine lv_if_ge (tgt := 18) hx hb dX7_inQueue_11 (by decide) (fun c2 => ?_) (fun c2 => ?_)
      ·
        refine lv_aload_n hx hb dX7_inQueue_18 rfl (lv_at hl 0 rfl) ?_
        refine lv_iload_n hx hb dX7_inQueue_19 rfl (lv_at hl 1 rfl) ?_
        refine lv_iload_n hx hb dX7_inQueue_20 rfl (lv_at hl 2 rfl) ?_
        refine k_callV (As := [.int d, .int pl]) (rest := []) ⟨hx, hb, hml, hown, hts⟩ hK (c_X7_queued X l hm (k_d D 14 0 0 (j_X7_noDoor_15 D d)) d pl (hwf.put14 (by decide))) (cwV 2 hts gX7_inQueue_X7_queued rfl rfl rfl (by decide +kernel) ⟨Nat.le_of_ble_eq_true rfl, Nat.le_of_ble_eq_true rfl⟩) (k_recv hK hW 14 0 hm.o (fun _ => rfl) rfl) hW rfl hl.1 rfl (Nat.le_of_ble_eq_true rfl) dX7_inQueue_21 ⟨Nat.le_of_ble_eq_true rfl, Nat.le_of_ble_eq_true rfl⟩ hL (fun v9 H locs hp hL => ?_)
        obtain ⟨rfl, hW⟩ := hp
        have e9 : (j_X7_inQueue_24 D nl nt ng d pl) = (s_X7_queued (k_d D 14 0 0 (j_X7_noDoor_15 D d)) nl nt ng d pl) := by unfold j_X7_inQueue_24; first | done | (simp only [if_pos c2]; done) | rfl
        exact join24 _ _ _ _ (by rw [e9]; exact ⟨hW, hL, lv_sub hl [0, 1, 2] rfl, rfl⟩)
      ·
        refine lv_iconst (v := (-1)) hx hb dX7_inQueue_14 (by decide) ?_
        refine lv_goto (tgt := 24) hx hb dX7_inQueue_15 (by decide) ?_
        have e9 : (j_X7_inQueue_24 D nl nt ng d pl) = (-1) := by unfold j_X7_inQueue_24; first | done | (simp only [if_neg c2]; done) | rfl
        exact join24 _ _ _ _ (by rw [e9]; exact ⟨hW, hL, lv_sub hl [0, 1, 2] rfl, rfl⟩)
  ·
    refine lv_iconst (v := 0) hx hb dX7_inQueue_8 (by decide) ?_
    have e9 : (s_X7_inQueue D nl nt ng d pl) = (k_d D 14 0 0 (j_X7_noDoor_15 D d), 0) := by unfold s_X7_inQueue; first | done | (simp only [if_neg c1]; done) | rfl
    exact k_iret hx hb hr hlocks (⟨by rw [e9], by rw [e9]; exact hW⟩) hL dX7_inQueue_9
def s_X7_unloaded (D : KD) (nl : Nat) (nt : Nat) (ng : Nat) (t : Int32) : KD × Int32 := (if (j_X7_noTransfer_20 D t) = 0 then (k_d D 14 0 0 (j_X7_noTransfer_20 D t), D 15 15 (t.toNatClampNeg)) else (k_d D 14 0 0 (j_X7_noTransfer_20 D t), 0))
set_option maxHeartbeats 4000000 in
set_option maxRecDepth 100000 in
theorem c_X7_unloaded (X : kX) (l : Launch) {n : Nat → Nat → Nat} {ad L : Nat → Nat → Nat → Nat} {C : Nat → Nat → Nat → Nat → Int32} {fr : Nat → Option Cell} {g : Nat} (hm : k_mod n g) (D : KD) (t : Int32) {nl nt ng : Nat} (hwf : mWF D nl nt ng) : k_M X l yX7_unloaded wsX7_unloaded ({ frames := 3, cells := 0, slots := 0, locals := 55 }) [.ref (ad g 14 0), .int t] (k_W X n ad L (k_g C g D) fr) (fun v H => v = some (.int ((s_X7_unloaded D nl nt ng t).2)) ∧ k_W X n ad L (k_g C g ((s_X7_unloaded D nl nt ng t).1)) fr H) 0 0 := by
  refine k_M.of (cc := cX7_unloaded) (maxL := 2) (ret := (some .int)) (by decide) rfl (Nat.le_of_ble_eq_true rfl) ?_
  intro p e s m args below meth c ls hx hb hr hml hown hts hlocks hnm hK hW hl
  have hL : ∀ q ∈ ([] : List Loc), k_B X ≤ q.base := fun _ h => nomatch h
  have hl : lv_has ls 2 [(0, .ref (ad g 14 0)), (1, .int t)] := hl
  have fX7 : ∀ w ∈ u_ws RX7 TX7 34, w.before args s = true := fun w h => hts w ((by decide +kernel : ∀ w ∈ u_ws RX7 TX7 34, w ∈ wsX7_unloaded) w h)
  have hl8 := hwf.l8
  have ht16 := hwf.t16
  have hg4 := hwf.g4
  refine lv_aload_n hx hb dX7_unloaded_0 rfl (lv_at hl 0 rfl) ?_
  refine lv_iload_n hx hb dX7_unloaded_1 rfl (lv_at hl 1 rfl) ?_
  refine k_callV (As := [.int t]) (rest := []) ⟨hx, hb, hml, hown, hts⟩ hK (c_X7_noTransfer2 X l hm D t) (cwV 1 hts gX7_unloaded_X7_noTransfer rfl rfl rfl (by decide +kernel) ⟨Nat.le_of_ble_eq_true rfl, Nat.le_of_ble_eq_true rfl⟩) (k_recv hK hW 14 0 hm.o (fun _ => rfl) rfl) hW rfl hl.1 rfl (Nat.le_of_ble_eq_true rfl) dX7_unloaded_2 ⟨Nat.le_of_ble_eq_true rfl, Nat.le_of_ble_eq_true rfl⟩ hL (fun v9 H locs hp hL => ?_)
  obtain ⟨rfl, hW⟩ := hp
  refine lv_if_eq (tgt := 12) hx hb dX7_unloaded_5 (by decide) (fun c1 => ?_) (fun c1 => ?_)
  ·
    have hin_t := mNoT_in hwf c1
    refine lv_aload_n hx hb dX7_unloaded_12 rfl (lv_at hl 0 rfl) ?_
    refine k_get (K := RX7) (T := TX7) (N := 34) (v := .ref (ad g 15 15)) (w := .ref (ad g 15 15)) hx hb fX7 hown hK hW 14 0 hm.o (fun _ => rfl) rfl 22 (by decide) (hts (.fieldLink RX7 57 "CrossdockeryModel" "unloaded" "[I") (by decide +kernel)) rfl rfl rfl dX7_unloaded_13 ?_
    refine lv_iload_n hx hb dX7_unloaded_16 rfl (lv_at hl 1 rfl) ?_
    refine k_iald (z := 16) (k := (t.toNatClampNeg)) hx hb hK hW 15 15 (hm.a (i := 15) (by decide)) (fun _ => rfl) rfl (hin_t.mono (by omega)) (v := (D 15 15 (t.toNatClampNeg))) (k_dr rfl) dX7_unloaded_17 ?_
    have e9 : (s_X7_unloaded D nl nt ng t) = (k_d D 14 0 0 (j_X7_noTransfer_20 D t), D 15 15 (t.toNatClampNeg)) := by unfold s_X7_unloaded; first | done | (simp only [if_pos c1]; done) | rfl
    exact k_iret hx hb hr hlocks (⟨by rw [e9], by rw [e9]; exact hW⟩) hL dX7_unloaded_18
  ·
    refine lv_iconst (v := 0) hx hb dX7_unloaded_8 (by decide) ?_
    refine lv_goto (tgt := 18) hx hb dX7_unloaded_9 (by decide) ?_
    have e9 : (s_X7_unloaded D nl nt ng t) = (k_d D 14 0 0 (j_X7_noTransfer_20 D t), 0) := by unfold s_X7_unloaded; first | done | (simp only [if_neg c1]; done) | rfl
    exact k_iret hx hb hr hlocks (⟨by rw [e9], by rw [e9]; exact hW⟩) hL dX7_unloaded_18
def s_X7_ready (D : KD) (nl : Nat) (nt : Nat) (ng : Nat) (t : Int32) : KD × Int32 := (if (j_X7_noTransfer_20 D t) = 0 then (k_d D 14 0 0 (j_X7_noTransfer_20 D t), D 15 16 (t.toNatClampNeg)) else (k_d D 14 0 0 (j_X7_noTransfer_20 D t), 0))
set_option maxHeartbeats 4000000 in
set_option maxRecDepth 100000 in
theorem c_X7_ready (X : kX) (l : Launch) {n : Nat → Nat → Nat} {ad L : Nat → Nat → Nat → Nat} {C : Nat → Nat → Nat → Nat → Int32} {fr : Nat → Option Cell} {g : Nat} (hm : k_mod n g) (D : KD) (t : Int32) {nl nt ng : Nat} (hwf : mWF D nl nt ng) : k_M X l yX7_ready wsX7_ready ({ frames := 3, cells := 0, slots := 0, locals := 55 }) [.ref (ad g 14 0), .int t] (k_W X n ad L (k_g C g D) fr) (fun v H => v = some (.int ((s_X7_ready D nl nt ng t).2)) ∧ k_W X n ad L (k_g C g ((s_X7_ready D nl nt ng t).1)) fr H) 0 0 := by
  refine k_M.of (cc := cX7_ready) (maxL := 2) (ret := (some .int)) (by decide) rfl (Nat.le_of_ble_eq_true rfl) ?_
  intro p e s m args below meth c ls hx hb hr hml hown hts hlocks hnm hK hW hl
  have hL : ∀ q ∈ ([] : List Loc), k_B X ≤ q.base := fun _ h => nomatch h
  have hl : lv_has ls 2 [(0, .ref (ad g 14 0)), (1, .int t)] := hl
  have fX7 : ∀ w ∈ u_ws RX7 TX7 34, w.before args s = true := fun w h => hts w ((by decide +kernel : ∀ w ∈ u_ws RX7 TX7 34, w ∈ wsX7_ready) w h)
  have hl8 := hwf.l8
  have ht16 := hwf.t16
  have hg4 := hwf.g4
  refine lv_aload_n hx hb dX7_ready_0 rfl (lv_at hl 0 rfl) ?_
  refine lv_iload_n hx hb dX7_ready_1 rfl (lv_at hl 1 rfl) ?_
  refine k_callV (As := [.int t]) (rest := []) ⟨hx, hb, hml, hown, hts⟩ hK (c_X7_noTransfer2 X l hm D t) (cwV 1 hts gX7_ready_X7_noTransfer rfl rfl rfl (by decide +kernel) ⟨Nat.le_of_ble_eq_true rfl, Nat.le_of_ble_eq_true rfl⟩) (k_recv hK hW 14 0 hm.o (fun _ => rfl) rfl) hW rfl hl.1 rfl (Nat.le_of_ble_eq_true rfl) dX7_ready_2 ⟨Nat.le_of_ble_eq_true rfl, Nat.le_of_ble_eq_true rfl⟩ hL (fun v9 H locs hp hL => ?_)
  obtain ⟨rfl, hW⟩ := hp
  refine lv_if_eq (tgt := 12) hx hb dX7_ready_5 (by decide) (fun c1 => ?_) (fun c1 => ?_)
  ·
    have hin_t := mNoT_in hwf c1
    refine lv_aload_n hx hb dX7_ready_12 rfl (lv_at hl 0 rfl) ?_
    refine k_get (K := RX7) (T := TX7) (N := 34) (v := .ref (ad g 15 16)) (w := .ref (ad g 15 16)) hx hb fX7 hown hK hW 14 0 hm.o (fun _ => rfl) rfl 23 (by decide) (hts (.fieldLink RX7 60 "CrossdockeryModel" "ready" "[I") (by decide +kernel)) rfl rfl rfl dX7_ready_13 ?_
    refine lv_iload_n hx hb dX7_ready_16 rfl (lv_at hl 1 rfl) ?_
    refine k_iald (z := 16) (k := (t.toNatClampNeg)) hx hb hK hW 15 16 (hm.a (i := 16) (by decide)) (fun _ => rfl) rfl (hin_t.mono (by omega)) (v := (D 15 16 (t.toNatClampNeg))) (k_dr rfl) dX7_ready_17 ?_
    have e9 : (s_X7_ready D nl nt ng t) = (k_d D 14 0 0 (j_X7_noTransfer_20 D t), D 15 16 (t.toNatClampNeg)) := by unfold s_X7_ready; first | done | (simp only [if_pos c1]; done) | rfl
    exact k_iret hx hb hr hlocks (⟨by rw [e9], by rw [e9]; exact hW⟩) hL dX7_ready_18
  ·
    refine lv_iconst (v := 0) hx hb dX7_ready_8 (by decide) ?_
    refine lv_goto (tgt := 18) hx hb dX7_ready_9 (by decide) ?_
    have e9 : (s_X7_ready D nl nt ng t) = (k_d D 14 0 0 (j_X7_noTransfer_20 D t), 0) := by unfold s_X7_ready; first | done | (simp only [if_neg c1]; done) | rfl
    exact k_iret hx hb hr hlocks (⟨by rw [e9], by rw [e9]; exact hW⟩) hL dX7_ready_18
def s_X7_loaded (D : KD) (nl : Nat) (nt : Nat) (ng : Nat) (t : Int32) : KD × Int32 := (if (j_X7_noTransfer_20 D t) = 0 then (k_d D 14 0 0 (j_X7_noTransfer_20 D t), D 15 17 (t.toNatClampNeg)) else (k_d D 14 0 0 (j_X7_noTransfer_20 D t), 0))
set_option maxHeartbeats 4000000 in
set_option maxRecDepth 100000 in
theorem c_X7_loaded (X : kX) (l : Launch) {n : Nat → Nat → Nat} {ad L : Nat → Nat → Nat → Nat} {C : Nat → Nat → Nat → Nat → Int32} {fr : Nat → Option Cell} {g : Nat} (hm : k_mod n g) (D : KD) (t : Int32) {nl nt ng : Nat} (hwf : mWF D nl nt ng) : k_M X l yX7_loaded wsX7_loaded ({ frames := 3, cells := 0, slots := 0, locals := 55 }) [.ref (ad g 14 0), .int t] (k_W X n ad L (k_g C g D) fr) (fun v H => v = some (.int ((s_X7_loaded D nl nt ng t).2)) ∧ k_W X n ad L (k_g C g ((s_X7_loaded D nl nt ng t).1)) fr H) 0 0 := by
  refine k_M.of (cc := cX7_loaded) (maxL := 2) (ret := (some .int)) (by decide) rfl (Nat.le_of_ble_eq_true rfl) ?_
  intro p e s m args below meth c ls hx hb hr hml hown hts hlocks hnm hK hW hl
  have hL : ∀ q ∈ ([] : List Loc), k_B X ≤ q.base := fun _ h => nomatch h
  have hl : lv_has ls 2 [(0, .ref (ad g 14 0)), (1, .int t)] := hl
  have fX7 : ∀ w ∈ u_ws RX7 TX7 34, w.before args s = true := fun w h => hts w ((by decide +kernel : ∀ w ∈ u_ws RX7 TX7 34, w ∈ wsX7_loaded) w h)
  have hl8 := hwf.l8
  have ht16 := hwf.t16
  have hg4 := hwf.g4
  refine lv_aload_n hx hb dX7_loaded_0 rfl (lv_at hl 0 rfl) ?_
  refine lv_iload_n hx hb dX7_loaded_1 rfl (lv_at hl 1 rfl) ?_
  refine k_callV (As := [.int t]) (rest := []) ⟨hx, hb, hml, hown, hts⟩ hK (c_X7_noTransfer2 X l hm D t) (cwV 1 hts gX7_loaded_X7_noTransfer rfl rfl rfl (by decide +kernel) ⟨Nat.le_of_ble_eq_true rfl, Nat.le_of_ble_eq_true rfl⟩) (k_recv hK hW 14 0 hm.o (fun _ => rfl) rfl) hW rfl hl.1 rfl (Nat.le_of_ble_eq_true rfl) dX7_loaded_2 ⟨Nat.le_of_ble_eq_true rfl, Nat.le_of_ble_eq_true rfl⟩ hL (fun v9 H locs hp hL => ?_)
  obtain ⟨rfl, hW⟩ := hp
  refine lv_if_eq (tgt := 12) hx hb dX7_loaded_5 (by decide) (fun c1 => ?_) (fun c1 => ?_)
  ·
    have hin_t := mNoT_in hwf c1
    refine lv_aload_n hx hb dX7_loaded_12 rfl (lv_at hl 0 rfl) ?_
    refine k_get (K := RX7) (T := TX7) (N := 34) (v := .ref (ad g 15 17)) (w := .ref (ad g 15 17)) hx hb fX7 hown hK hW 14 0 hm.o (fun _ => rfl) rfl 24 (by decide) (hts (.fieldLink RX7 63 "CrossdockeryModel" "loaded" "[I") (by decide +kernel)) rfl rfl rfl dX7_loaded_13 ?_
    refine lv_iload_n hx hb dX7_loaded_16 rfl (lv_at hl 1 rfl) ?_
    refine k_iald (z := 16) (k := (t.toNatClampNeg)) hx hb hK hW 15 17 (hm.a (i := 17) (by decide)) (fun _ => rfl) rfl (hin_t.mono (by omega)) (v := (D 15 17 (t.toNatClampNeg))) (k_dr rfl) dX7_loaded_17 ?_
    have e9 : (s_X7_loaded D nl nt ng t) = (k_d D 14 0 0 (j_X7_noTransfer_20 D t), D 15 17 (t.toNatClampNeg)) := by unfold s_X7_loaded; first | done | (simp only [if_pos c1]; done) | rfl
    exact k_iret hx hb hr hlocks (⟨by rw [e9], by rw [e9]; exact hW⟩) hL dX7_loaded_18
  ·
    refine lv_iconst (v := 0) hx hb dX7_loaded_8 (by decide) ?_
    refine lv_goto (tgt := 18) hx hb dX7_loaded_9 (by decide) ?_
    have e9 : (s_X7_loaded D nl nt ng t) = (k_d D 14 0 0 (j_X7_noTransfer_20 D t), 0) := by unfold s_X7_loaded; first | done | (simp only [if_neg c1]; done) | rfl
    exact k_iret hx hb hr hlocks (⟨by rw [e9], by rw [e9]; exact hW⟩) hL dX7_loaded_18
def s_X7_leftAt (D : KD) (nl : Nat) (nt : Nat) (ng : Nat) (l0 : Int32) : KD × Int32 := (if (j_X7_noLorry_20 D l0) = 0 then (if (D 15 11 (l0.toNatClampNeg)) = 108 then (k_d D 14 0 0 (j_X7_noLorry_20 D l0), D 15 8 (l0.toNatClampNeg)) else (k_d (k_d D 14 0 0 (j_X7_noLorry_20 D l0)) 14 0 0 2, 0)) else (k_d D 14 0 0 (j_X7_noLorry_20 D l0), 0))
set_option maxHeartbeats 4000000 in
set_option maxRecDepth 100000 in
theorem c_X7_leftAt (X : kX) (l : Launch) {n : Nat → Nat → Nat} {ad L : Nat → Nat → Nat → Nat} {C : Nat → Nat → Nat → Nat → Int32} {fr : Nat → Option Cell} {g : Nat} (hm : k_mod n g) (D : KD) (l0 : Int32) {nl nt ng : Nat} (hwf : mWF D nl nt ng) : k_M X l yX7_leftAt wsX7_leftAt ({ frames := 3, cells := 0, slots := 0, locals := 55 }) [.ref (ad g 14 0), .int l0] (k_W X n ad L (k_g C g D) fr) (fun v H => v = some (.int ((s_X7_leftAt D nl nt ng l0).2)) ∧ k_W X n ad L (k_g C g ((s_X7_leftAt D nl nt ng l0).1)) fr H) 0 0 := by
  refine k_M.of (cc := cX7_leftAt) (maxL := 2) (ret := (some .int)) (by decide) rfl (Nat.le_of_ble_eq_true rfl) ?_
  intro p e s m args below meth c ls hx hb hr hml hown hts hlocks hnm hK hW hl
  have hL : ∀ q ∈ ([] : List Loc), k_B X ≤ q.base := fun _ h => nomatch h
  have hl : lv_has ls 2 [(0, .ref (ad g 14 0)), (1, .int l0)] := hl
  have fX7 : ∀ w ∈ u_ws RX7 TX7 34, w.before args s = true := fun w h => hts w ((by decide +kernel : ∀ w ∈ u_ws RX7 TX7 34, w ∈ wsX7_leftAt) w h)
  have hl8 := hwf.l8
  have ht16 := hwf.t16
  have hg4 := hwf.g4
  refine lv_aload_n hx hb dX7_leftAt_0 rfl (lv_at hl 0 rfl) ?_
  refine lv_iload_n hx hb dX7_leftAt_1 rfl (lv_at hl 1 rfl) ?_
  refine k_callV (As := [.int l0]) (rest := []) ⟨hx, hb, hml, hown, hts⟩ hK (c_X7_noLorry2 X l hm D l0) (cwV 1 hts gX7_leftAt_X7_noLorry rfl rfl rfl (by decide +kernel) ⟨Nat.le_of_ble_eq_true rfl, Nat.le_of_ble_eq_true rfl⟩) (k_recv hK hW 14 0 hm.o (fun _ => rfl) rfl) hW rfl hl.1 rfl (Nat.le_of_ble_eq_true rfl) dX7_leftAt_2 ⟨Nat.le_of_ble_eq_true rfl, Nat.le_of_ble_eq_true rfl⟩ hL (fun v9 H locs hp hL => ?_)
  obtain ⟨rfl, hW⟩ := hp
  refine lv_if_eq (tgt := 10) hx hb dX7_leftAt_5 (by decide) (fun c1 => ?_) (fun c1 => ?_)
  ·
    have hin_l0 := mNoL_in hwf c1
    refine lv_aload_n hx hb dX7_leftAt_10 rfl (lv_at hl 0 rfl) ?_
    refine k_get (K := RX7) (T := TX7) (N := 34) (v := .ref (ad g 15 11)) (w := .ref (ad g 15 11)) hx hb fX7 hown hK hW 14 0 hm.o (fun _ => rfl) rfl 18 (by decide) (hts (.fieldLink RX7 44 "CrossdockeryModel" "state" "[C") (by decide +kernel)) rfl rfl rfl dX7_leftAt_11 ?_
    refine lv_iload_n hx hb dX7_leftAt_14 rfl (lv_at hl 1 rfl) ?_
    refine k_cald (z := 8) (k := (l0.toNatClampNeg)) hx hb hK hW 15 11 (hm.a (i := 11) (by decide)) (fun _ => rfl) rfl (hin_l0.mono (by omega)) (v := (D 15 11 (l0.toNatClampNeg))) (k_dr rfl) dX7_leftAt_15 ?_
    refine lv_bipush (v := 108) hx hb dX7_leftAt_16 (by decide) ?_
    refine lv_icmp_eq (tgt := 27) hx hb dX7_leftAt_18 (by decide) (fun c2 => ?_) (fun c2 => ?_)
    ·
      refine lv_aload_n hx hb dX7_leftAt_27 rfl (lv_at hl 0 rfl) ?_
      refine k_get (K := RX7) (T := TX7) (N := 34) (v := .ref (ad g 15 8)) (w := .ref (ad g 15 8)) hx hb fX7 hown hK hW 14 0 hm.o (fun _ => rfl) rfl 15 (by decide) (hts (.fieldLink RX7 35 "CrossdockeryModel" "leftAt" "[I") (by decide +kernel)) rfl rfl rfl dX7_leftAt_28 ?_
      refine lv_iload_n hx hb dX7_leftAt_31 rfl (lv_at hl 1 rfl) ?_
      refine k_iald (z := 8) (k := (l0.toNatClampNeg)) hx hb hK hW 15 8 (hm.a (i := 8) (by decide)) (fun _ => rfl) rfl (hin_l0.mono (by omega)) (v := (D 15 8 (l0.toNatClampNeg))) (k_dr rfl) dX7_leftAt_32 ?_
      have e9 : (s_X7_leftAt D nl nt ng l0) = (k_d D 14 0 0 (j_X7_noLorry_20 D l0), D 15 8 (l0.toNatClampNeg)) := by unfold s_X7_leftAt; first | done | (simp only [if_pos c1, if_pos c2]; done) | rfl
      exact k_iret hx hb hr hlocks (⟨by rw [e9], by rw [e9]; exact hW⟩) hL dX7_leftAt_33
    ·
      refine lv_aload_n hx hb dX7_leftAt_21 rfl (lv_at hl 0 rfl) ?_
      refine lv_iconst (v := 2) hx hb dX7_leftAt_22 (by decide) ?_
      refine k_callV (As := [.int 2]) (rest := []) ⟨hx, hb, hml, hown, hts⟩ hK (c_X7_fail2 X l hm (k_d D 14 0 0 (j_X7_noLorry_20 D l0)) 2) (cwV 1 hts gX7_leftAt_X7_fail rfl rfl rfl (by decide +kernel) ⟨Nat.le_of_ble_eq_true rfl, Nat.le_of_ble_eq_true rfl⟩) (k_recv hK hW 14 0 hm.o (fun _ => rfl) rfl) hW rfl hl.1 rfl (Nat.le_of_ble_eq_true rfl) dX7_leftAt_23 ⟨Nat.le_of_ble_eq_true rfl, Nat.le_of_ble_eq_true rfl⟩ hL (fun v9 H locs hp hL => ?_)
      obtain ⟨rfl, hW⟩ := hp
      have e9 : (s_X7_leftAt D nl nt ng l0) = (k_d (k_d D 14 0 0 (j_X7_noLorry_20 D l0)) 14 0 0 2, 0) := by unfold s_X7_leftAt; first | done | (simp only [if_pos c1, if_neg c2]; done) | rfl
      exact k_iret hx hb hr hlocks (⟨by rw [e9], by rw [e9]; exact hW⟩) hL dX7_leftAt_26
  ·
    refine lv_iconst (v := 0) hx hb dX7_leftAt_8 (by decide) ?_
    have e9 : (s_X7_leftAt D nl nt ng l0) = (k_d D 14 0 0 (j_X7_noLorry_20 D l0), 0) := by unfold s_X7_leftAt; first | done | (simp only [if_neg c1]; done) | rfl
    exact k_iret hx hb hr hlocks (⟨by rw [e9], by rw [e9]; exact hW⟩) hL dX7_leftAt_9
def s_X7_waited (D : KD) (nl : Nat) (nt : Nat) (ng : Nat) (l0 : Int32) : KD × Int32 := (if (j_X7_noLorry_20 D l0) = 0 then (k_d D 14 0 0 (j_X7_noLorry_20 D l0), D 15 6 (l0.toNatClampNeg)) else (k_d D 14 0 0 (j_X7_noLorry_20 D l0), 0))
set_option maxHeartbeats 4000000 in
set_option maxRecDepth 100000 in
theorem c_X7_waited (X : kX) (l : Launch) {n : Nat → Nat → Nat} {ad L : Nat → Nat → Nat → Nat} {C : Nat → Nat → Nat → Nat → Int32} {fr : Nat → Option Cell} {g : Nat} (hm : k_mod n g) (D : KD) (l0 : Int32) {nl nt ng : Nat} (hwf : mWF D nl nt ng) : k_M X l yX7_waited wsX7_waited ({ frames := 3, cells := 0, slots := 0, locals := 55 }) [.ref (ad g 14 0), .int l0] (k_W X n ad L (k_g C g D) fr) (fun v H => v = some (.int ((s_X7_waited D nl nt ng l0).2)) ∧ k_W X n ad L (k_g C g ((s_X7_waited D nl nt ng l0).1)) fr H) 0 0 := by
  refine k_M.of (cc := cX7_waited) (maxL := 2) (ret := (some .int)) (by decide) rfl (Nat.le_of_ble_eq_true rfl) ?_
  intro p e s m args below meth c ls hx hb hr hml hown hts hlocks hnm hK hW hl
  have hL : ∀ q ∈ ([] : List Loc), k_B X ≤ q.base := fun _ h => nomatch h
  have hl : lv_has ls 2 [(0, .ref (ad g 14 0)), (1, .int l0)] := hl
  have fX7 : ∀ w ∈ u_ws RX7 TX7 34, w.before args s = true := fun w h => hts w ((by decide +kernel : ∀ w ∈ u_ws RX7 TX7 34, w ∈ wsX7_waited) w h)
  have hl8 := hwf.l8
  have ht16 := hwf.t16
  have hg4 := hwf.g4
  refine lv_aload_n hx hb dX7_waited_0 rfl (lv_at hl 0 rfl) ?_
  refine lv_iload_n hx hb dX7_waited_1 rfl (lv_at hl 1 rfl) ?_
  refine k_callV (As := [.int l0]) (rest := []) ⟨hx, hb, hml, hown, hts⟩ hK (c_X7_noLorry2 X l hm D l0) (cwV 1 hts gX7_waited_X7_noLorry rfl rfl rfl (by decide +kernel) ⟨Nat.le_of_ble_eq_true rfl, Nat.le_of_ble_eq_true rfl⟩) (k_recv hK hW 14 0 hm.o (fun _ => rfl) rfl) hW rfl hl.1 rfl (Nat.le_of_ble_eq_true rfl) dX7_waited_2 ⟨Nat.le_of_ble_eq_true rfl, Nat.le_of_ble_eq_true rfl⟩ hL (fun v9 H locs hp hL => ?_)
  obtain ⟨rfl, hW⟩ := hp
  refine lv_if_eq (tgt := 12) hx hb dX7_waited_5 (by decide) (fun c1 => ?_) (fun c1 => ?_)
  ·
    have hin_l0 := mNoL_in hwf c1
    refine lv_aload_n hx hb dX7_waited_12 rfl (lv_at hl 0 rfl) ?_
    refine k_get (K := RX7) (T := TX7) (N := 34) (v := .ref (ad g 15 6)) (w := .ref (ad g 15 6)) hx hb fX7 hown hK hW 14 0 hm.o (fun _ => rfl) rfl 13 (by decide) (hts (.fieldLink RX7 29 "CrossdockeryModel" "waited" "[I") (by decide +kernel)) rfl rfl rfl dX7_waited_13 ?_
    refine lv_iload_n hx hb dX7_waited_16 rfl (lv_at hl 1 rfl) ?_
    refine k_iald (z := 8) (k := (l0.toNatClampNeg)) hx hb hK hW 15 6 (hm.a (i := 6) (by decide)) (fun _ => rfl) rfl (hin_l0.mono (by omega)) (v := (D 15 6 (l0.toNatClampNeg))) (k_dr rfl) dX7_waited_17 ?_
    have e9 : (s_X7_waited D nl nt ng l0) = (k_d D 14 0 0 (j_X7_noLorry_20 D l0), D 15 6 (l0.toNatClampNeg)) := by unfold s_X7_waited; first | done | (simp only [if_pos c1]; done) | rfl
    exact k_iret hx hb hr hlocks (⟨by rw [e9], by rw [e9]; exact hW⟩) hL dX7_waited_18
  ·
    refine lv_iconst (v := 0) hx hb dX7_waited_8 (by decide) ?_
    refine lv_goto (tgt := 18) hx hb dX7_waited_9 (by decide) ?_
    have e9 : (s_X7_waited D nl nt ng l0) = (k_d D 14 0 0 (j_X7_noLorry_20 D l0), 0) := by unfold s_X7_waited; first | done | (simp only [if_neg c1]; done) | rfl
    exact k_iret hx hb hr hlocks (⟨by rw [e9], by rw [e9]; exact hW⟩) hL dX7_waited_18
def s_X7_ownMinutes (D : KD) (nl : Nat) (nt : Nat) (ng : Nat) (l0 : Int32) : KD × Int32 := (if (j_X7_noLorry_20 D l0) = 0 then (k_d D 14 0 0 (j_X7_noLorry_20 D l0), D 15 7 (l0.toNatClampNeg)) else (k_d D 14 0 0 (j_X7_noLorry_20 D l0), 0))
set_option maxHeartbeats 4000000 in
set_option maxRecDepth 100000 in
theorem c_X7_ownMinutes (X : kX) (l : Launch) {n : Nat → Nat → Nat} {ad L : Nat → Nat → Nat → Nat} {C : Nat → Nat → Nat → Nat → Int32} {fr : Nat → Option Cell} {g : Nat} (hm : k_mod n g) (D : KD) (l0 : Int32) {nl nt ng : Nat} (hwf : mWF D nl nt ng) : k_M X l yX7_ownMinutes wsX7_ownMinutes ({ frames := 3, cells := 0, slots := 0, locals := 55 }) [.ref (ad g 14 0), .int l0] (k_W X n ad L (k_g C g D) fr) (fun v H => v = some (.int ((s_X7_ownMinutes D nl nt ng l0).2)) ∧ k_W X n ad L (k_g C g ((s_X7_ownMinutes D nl nt ng l0).1)) fr H) 0 0 := by
  refine k_M.of (cc := cX7_ownMinutes) (maxL := 2) (ret := (some .int)) (by decide) rfl (Nat.le_of_ble_eq_true rfl) ?_
  intro p e s m args below meth c ls hx hb hr hml hown hts hlocks hnm hK hW hl
  have hL : ∀ q ∈ ([] : List Loc), k_B X ≤ q.base := fun _ h => nomatch h
  have hl : lv_has ls 2 [(0, .ref (ad g 14 0)), (1, .int l0)] := hl
  have fX7 : ∀ w ∈ u_ws RX7 TX7 34, w.before args s = true := fun w h => hts w ((by decide +kernel : ∀ w ∈ u_ws RX7 TX7 34, w ∈ wsX7_ownMinutes) w h)
  have hl8 := hwf.l8
  have ht16 := hwf.t16
  have hg4 := hwf.g4
  refine lv_aload_n hx hb dX7_ownMinutes_0 rfl (lv_at hl 0 rfl) ?_
  refine lv_iload_n hx hb dX7_ownMinutes_1 rfl (lv_at hl 1 rfl) ?_
  refine k_callV (As := [.int l0]) (rest := []) ⟨hx, hb, hml, hown, hts⟩ hK (c_X7_noLorry2 X l hm D l0) (cwV 1 hts gX7_ownMinutes_X7_noLorry rfl rfl rfl (by decide +kernel) ⟨Nat.le_of_ble_eq_true rfl, Nat.le_of_ble_eq_true rfl⟩) (k_recv hK hW 14 0 hm.o (fun _ => rfl) rfl) hW rfl hl.1 rfl (Nat.le_of_ble_eq_true rfl) dX7_ownMinutes_2 ⟨Nat.le_of_ble_eq_true rfl, Nat.le_of_ble_eq_true rfl⟩ hL (fun v9 H locs hp hL => ?_)
  obtain ⟨rfl, hW⟩ := hp
  refine lv_if_eq (tgt := 12) hx hb dX7_ownMinutes_5 (by decide) (fun c1 => ?_) (fun c1 => ?_)
  ·
    have hin_l0 := mNoL_in hwf c1
    refine lv_aload_n hx hb dX7_ownMinutes_12 rfl (lv_at hl 0 rfl) ?_
    refine k_get (K := RX7) (T := TX7) (N := 34) (v := .ref (ad g 15 7)) (w := .ref (ad g 15 7)) hx hb fX7 hown hK hW 14 0 hm.o (fun _ => rfl) rfl 14 (by decide) (hts (.fieldLink RX7 32 "CrossdockeryModel" "own" "[I") (by decide +kernel)) rfl rfl rfl dX7_ownMinutes_13 ?_
    refine lv_iload_n hx hb dX7_ownMinutes_16 rfl (lv_at hl 1 rfl) ?_
    refine k_iald (z := 8) (k := (l0.toNatClampNeg)) hx hb hK hW 15 7 (hm.a (i := 7) (by decide)) (fun _ => rfl) rfl (hin_l0.mono (by omega)) (v := (D 15 7 (l0.toNatClampNeg))) (k_dr rfl) dX7_ownMinutes_17 ?_
    have e9 : (s_X7_ownMinutes D nl nt ng l0) = (k_d D 14 0 0 (j_X7_noLorry_20 D l0), D 15 7 (l0.toNatClampNeg)) := by unfold s_X7_ownMinutes; first | done | (simp only [if_pos c1]; done) | rfl
    exact k_iret hx hb hr hlocks (⟨by rw [e9], by rw [e9]; exact hW⟩) hL dX7_ownMinutes_18
  ·
    refine lv_iconst (v := 0) hx hb dX7_ownMinutes_8 (by decide) ?_
    refine lv_goto (tgt := 18) hx hb dX7_ownMinutes_9 (by decide) ?_
    have e9 : (s_X7_ownMinutes D nl nt ng l0) = (k_d D 14 0 0 (j_X7_noLorry_20 D l0), 0) := by unfold s_X7_ownMinutes; first | done | (simp only [if_neg c1]; done) | rfl
    exact k_iret hx hb hr hlocks (⟨by rw [e9], by rw [e9]; exact hW⟩) hL dX7_ownMinutes_18
def s_X7_debtor (D : KD) (nl : Nat) (nt : Nat) (ng : Nat) (l0 : Int32) : KD × Int32 := (if (j_X7_noLorry_20 D l0) = 0 then (if (D 14 0 4) = 0 then (k_d (k_d D 14 0 0 (j_X7_noLorry_20 D l0)) 14 0 0 2, 0) else (if (D 15 10 (l0.toNatClampNeg)) = ((D 14 0 4) - 1) then (k_d D 14 0 0 (j_X7_noLorry_20 D l0), D 15 9 (l0.toNatClampNeg)) else (k_d (k_d D 14 0 0 (j_X7_noLorry_20 D l0)) 14 0 0 2, 0))) else (k_d D 14 0 0 (j_X7_noLorry_20 D l0), 0))
set_option maxHeartbeats 4000000 in
set_option maxRecDepth 100000 in
theorem c_X7_debtor (X : kX) (l : Launch) {n : Nat → Nat → Nat} {ad L : Nat → Nat → Nat → Nat} {C : Nat → Nat → Nat → Nat → Int32} {fr : Nat → Option Cell} {g : Nat} (hm : k_mod n g) (D : KD) (l0 : Int32) {nl nt ng : Nat} (hwf : mWF D nl nt ng) : k_M X l yX7_debtor wsX7_debtor ({ frames := 3, cells := 0, slots := 0, locals := 55 }) [.ref (ad g 14 0), .int l0] (k_W X n ad L (k_g C g D) fr) (fun v H => v = some (.int ((s_X7_debtor D nl nt ng l0).2)) ∧ k_W X n ad L (k_g C g ((s_X7_debtor D nl nt ng l0).1)) fr H) 0 0 := by
  refine k_M.of (cc := cX7_debtor) (maxL := 2) (ret := (some .int)) (by decide) rfl (Nat.le_of_ble_eq_true rfl) ?_
  intro p e s m args below meth c ls hx hb hr hml hown hts hlocks hnm hK hW hl
  have hL : ∀ q ∈ ([] : List Loc), k_B X ≤ q.base := fun _ h => nomatch h
  have hl : lv_has ls 2 [(0, .ref (ad g 14 0)), (1, .int l0)] := hl
  have fX7 : ∀ w ∈ u_ws RX7 TX7 34, w.before args s = true := fun w h => hts w ((by decide +kernel : ∀ w ∈ u_ws RX7 TX7 34, w ∈ wsX7_debtor) w h)
  have hl8 := hwf.l8
  have ht16 := hwf.t16
  have hg4 := hwf.g4
  refine lv_aload_n hx hb dX7_debtor_0 rfl (lv_at hl 0 rfl) ?_
  refine lv_iload_n hx hb dX7_debtor_1 rfl (lv_at hl 1 rfl) ?_
  refine k_callV (As := [.int l0]) (rest := []) ⟨hx, hb, hml, hown, hts⟩ hK (c_X7_noLorry2 X l hm D l0) (cwV 1 hts gX7_debtor_X7_noLorry rfl rfl rfl (by decide +kernel) ⟨Nat.le_of_ble_eq_true rfl, Nat.le_of_ble_eq_true rfl⟩) (k_recv hK hW 14 0 hm.o (fun _ => rfl) rfl) hW rfl hl.1 rfl (Nat.le_of_ble_eq_true rfl) dX7_debtor_2 ⟨Nat.le_of_ble_eq_true rfl, Nat.le_of_ble_eq_true rfl⟩ hL (fun v9 H locs hp hL => ?_)
  obtain ⟨rfl, hW⟩ := hp
  refine lv_if_eq (tgt := 10) hx hb dX7_debtor_5 (by decide) (fun c1 => ?_) (fun c1 => ?_)
  ·
    have hin_l0 := mNoL_in hwf c1
    refine lv_aload_n hx hb dX7_debtor_10 rfl (lv_at hl 0 rfl) ?_
    refine k_get (K := RX7) (T := TX7) (N := 34) (v := .int ((k_d D 14 0 0 (j_X7_noLorry_20 D l0)) 14 0 4)) (w := .int (D 14 0 4)) hx hb fX7 hown hK hW 14 0 hm.o (fun _ => rfl) rfl 4 (by decide) (hts (.fieldLink RX7 121 "CrossdockeryModel" "now" "I") (by decide +kernel)) rfl rfl (congrArg Value.int (k_dk rfl)) dX7_debtor_11 ?_
    refine lv_if_eq (tgt := 32) hx hb dX7_debtor_14 (by decide) (fun c2 => ?_) (fun c2 => ?_)
    ·
      refine lv_aload_n hx hb dX7_debtor_32 rfl (lv_at hl 0 rfl) ?_
      refine lv_iconst (v := 2) hx hb dX7_debtor_33 (by decide) ?_
      refine k_callV (As := [.int 2]) (rest := []) ⟨hx, hb, hml, hown, hts⟩ hK (c_X7_fail2 X l hm (k_d D 14 0 0 (j_X7_noLorry_20 D l0)) 2) (cwV 1 hts gX7_debtor_X7_fail rfl rfl rfl (by decide +kernel) ⟨Nat.le_of_ble_eq_true rfl, Nat.le_of_ble_eq_true rfl⟩) (k_recv hK hW 14 0 hm.o (fun _ => rfl) rfl) hW rfl hl.1 rfl (Nat.le_of_ble_eq_true rfl) dX7_debtor_34 ⟨Nat.le_of_ble_eq_true rfl, Nat.le_of_ble_eq_true rfl⟩ hL (fun v9 H locs hp hL => ?_)
      obtain ⟨rfl, hW⟩ := hp
      have e9 : (s_X7_debtor D nl nt ng l0) = (k_d (k_d D 14 0 0 (j_X7_noLorry_20 D l0)) 14 0 0 2, 0) := by unfold s_X7_debtor; first | done | (simp only [if_pos c1, if_pos c2]; done) | rfl
      exact k_iret hx hb hr hlocks (⟨by rw [e9], by rw [e9]; exact hW⟩) hL dX7_debtor_37
    ·
      refine lv_aload_n hx hb dX7_debtor_17 rfl (lv_at hl 0 rfl) ?_
      refine k_get (K := RX7) (T := TX7) (N := 34) (v := .ref (ad g 15 10)) (w := .ref (ad g 15 10)) hx hb fX7 hown hK hW 14 0 hm.o (fun _ => rfl) rfl 17 (by decide) (hts (.fieldLink RX7 41 "CrossdockeryModel" "lastWait" "[I") (by decide +kernel)) rfl rfl rfl dX7_debtor_18 ?_
      refine lv_iload_n hx hb dX7_debtor_21 rfl (lv_at hl 1 rfl) ?_
      refine k_iald (z := 8) (k := (l0.toNatClampNeg)) hx hb hK hW 15 10 (hm.a (i := 10) (by decide)) (fun _ => rfl) rfl (hin_l0.mono (by omega)) (v := (D 15 10 (l0.toNatClampNeg))) (k_dr rfl) dX7_debtor_22 ?_
      refine lv_aload_n hx hb dX7_debtor_23 rfl (lv_at hl 0 rfl) ?_
      refine k_get (K := RX7) (T := TX7) (N := 34) (v := .int ((k_d D 14 0 0 (j_X7_noLorry_20 D l0)) 14 0 4)) (w := .int (D 14 0 4)) hx hb fX7 hown hK hW 14 0 hm.o (fun _ => rfl) rfl 4 (by decide) (hts (.fieldLink RX7 121 "CrossdockeryModel" "now" "I") (by decide +kernel)) rfl rfl (congrArg Value.int (k_dk rfl)) dX7_debtor_24 ?_
      refine lv_iconst (v := 1) hx hb dX7_debtor_27 (by decide) ?_
      refine lv_isub hx hb dX7_debtor_28 ?_
      refine lv_icmp_eq (tgt := 38) hx hb dX7_debtor_29 (by decide) (fun c3 => ?_) (fun c3 => ?_)
      ·
        refine lv_aload_n hx hb dX7_debtor_38 rfl (lv_at hl 0 rfl) ?_
        refine k_get (K := RX7) (T := TX7) (N := 34) (v := .ref (ad g 15 9)) (w := .ref (ad g 15 9)) hx hb fX7 hown hK hW 14 0 hm.o (fun _ => rfl) rfl 16 (by decide) (hts (.fieldLink RX7 38 "CrossdockeryModel" "debtor" "[I") (by decide +kernel)) rfl rfl rfl dX7_debtor_39 ?_
        refine lv_iload_n hx hb dX7_debtor_42 rfl (lv_at hl 1 rfl) ?_
        refine k_iald (z := 8) (k := (l0.toNatClampNeg)) hx hb hK hW 15 9 (hm.a (i := 9) (by decide)) (fun _ => rfl) rfl (hin_l0.mono (by omega)) (v := (D 15 9 (l0.toNatClampNeg))) (k_dr rfl) dX7_debtor_43 ?_
        have e9 : (s_X7_debtor D nl nt ng l0) = (k_d D 14 0 0 (j_X7_noLorry_20 D l0), D 15 9 (l0.toNatClampNeg)) := by unfold s_X7_debtor; first | done | (simp only [if_pos c1, if_neg c2, if_pos c3]; done) | rfl
        exact k_iret hx hb hr hlocks (⟨by rw [e9], by rw [e9]; exact hW⟩) hL dX7_debtor_44
      ·
        refine lv_aload_n hx hb dX7_debtor_32 rfl (lv_at hl 0 rfl) ?_
        refine lv_iconst (v := 2) hx hb dX7_debtor_33 (by decide) ?_
        refine k_callV (As := [.int 2]) (rest := []) ⟨hx, hb, hml, hown, hts⟩ hK (c_X7_fail2 X l hm (k_d D 14 0 0 (j_X7_noLorry_20 D l0)) 2) (cwV 1 hts gX7_debtor_X7_fail rfl rfl rfl (by decide +kernel) ⟨Nat.le_of_ble_eq_true rfl, Nat.le_of_ble_eq_true rfl⟩) (k_recv hK hW 14 0 hm.o (fun _ => rfl) rfl) hW rfl hl.1 rfl (Nat.le_of_ble_eq_true rfl) dX7_debtor_34 ⟨Nat.le_of_ble_eq_true rfl, Nat.le_of_ble_eq_true rfl⟩ hL (fun v9 H locs hp hL => ?_)
        obtain ⟨rfl, hW⟩ := hp
        have e9 : (s_X7_debtor D nl nt ng l0) = (k_d (k_d D 14 0 0 (j_X7_noLorry_20 D l0)) 14 0 0 2, 0) := by unfold s_X7_debtor; first | done | (simp only [if_pos c1, if_neg c2, if_neg c3]; done) | rfl
        exact k_iret hx hb hr hlocks (⟨by rw [e9], by rw [e9]; exact hW⟩) hL dX7_debtor_37
  ·
    refine lv_iconst (v := 0) hx hb dX7_debtor_8 (by decide) ?_
    have e9 : (s_X7_debtor D nl nt ng l0) = (k_d D 14 0 0 (j_X7_noLorry_20 D l0), 0) := by unfold s_X7_debtor; first | done | (simp only [if_neg c1]; done) | rfl
    exact k_iret hx hb hr hlocks (⟨by rw [e9], by rw [e9]; exact hW⟩) hL dX7_debtor_9
def j_X7_leftBehind_46 (D : KD) (nl : Nat) (nt : Nat) (ng : Nat) (k4 : Nat) (z4 : Int32) : Int32 := (if (D 15 11 ((D 15 13 k4).toNatClampNeg)) = 108 then ((D 15 14 k4) - (D 15 17 k4)) else 0)
def f_X7_leftBehind_4 (D : KD) (nl : Nat) (nt : Nat) (ng : Nat) (k4 : Nat) (z4 : Int32) : Int32 := (z4 + (j_X7_leftBehind_46 D nl nt ng k4 z4))
def l_X7_leftBehind_4 (D : KD) (nl : Nat) (nt : Nat) (ng : Nat) : Int32 := it (f_X7_leftBehind_4 D nl nt ng) nt 0
def s_X7_leftBehind (D : KD) (nl : Nat) (nt : Nat) (ng : Nat) : Int32 := (l_X7_leftBehind_4 D nl nt ng)
set_option maxHeartbeats 4000000 in
set_option maxRecDepth 100000 in
theorem c_X7_leftBehind (X : kX) (l : Launch) {n : Nat → Nat → Nat} {ad L : Nat → Nat → Nat → Nat} {C : Nat → Nat → Nat → Nat → Int32} {fr : Nat → Option Cell} {g : Nat} (hm : k_mod n g) (D : KD)  {nl nt ng : Nat} (hwf : mWF D nl nt ng) : k_M X l yX7_leftBehind wsX7_leftBehind ({ frames := 1, cells := 0, slots := 0, locals := 12 }) [.ref (ad g 14 0)] (k_W X n ad L (k_g C g D) fr) (fun v H => v = some (.int (s_X7_leftBehind D nl nt ng)) ∧ k_W X n ad L (k_g C g D) fr H) 0 0 := by
  refine k_M.of (cc := cX7_leftBehind) (maxL := 3) (ret := (some .int)) (by decide) rfl (Nat.le_of_ble_eq_true rfl) ?_
  intro p e s m args below meth c ls hx hb hr hml hown hts hlocks hnm hK hW hl
  have hL : ∀ q ∈ ([] : List Loc), k_B X ≤ q.base := fun _ h => nomatch h
  have hl : lv_has ls 3 [(0, .ref (ad g 14 0))] := hl
  have fX7 : ∀ w ∈ u_ws RX7 TX7 34, w.before args s = true := fun w h => hts w ((by decide +kernel : ∀ w ∈ u_ws RX7 TX7 34, w ∈ wsX7_leftBehind) w h)
  have hl8 := hwf.l8
  have ht16 := hwf.t16
  have hg4 := hwf.g4
  refine lv_iconst (v := 0) hx hb dX7_leftBehind_0 (by decide) ?_
  refine lv_istore_n (lv' := [(1, .int 0), (0, .ref (ad g 14 0))]) hx hb dX7_leftBehind_1 rfl hl (by decide) rfl (fun ls hl => ?_)
  refine lv_iconst (v := 0) hx hb dX7_leftBehind_2 (by decide) ?_
  refine lv_istore_n (lv' := [(2, .int 0), (1, .int 0), (0, .ref (ad g 14 0))]) hx hb dX7_leftBehind_3 rfl hl (by decide) rfl (fun ls hl => ?_)
  refine k_for (nt) (fun k4 H locs ls => ∃ z4 : Int32, z4 = it (f_X7_leftBehind_4 D nl nt ng) k4 0 ∧ k_W X n ad L (k_g C g D) fr H ∧ (∀ q ∈ locs, k_B X ≤ q.base) ∧ lv_has ls 3 [(2, .int (nI k4)), (1, .int z4), (0, .ref (ad g 14 0))]) 0 ⟨0, rfl, hW, hL, lv_sub hl [0, 1, 2] rfl⟩ (Nat.zero_le _) (fun k4 hk4 ih4 H locs ls hI => ?_)
  obtain ⟨z4, hz4, hW, hL, hl⟩ := hI
  refine lv_iload_n hx hb dX7_leftBehind_4 rfl (lv_at hl 0 rfl) ?_
  refine lv_aload_n hx hb dX7_leftBehind_5 rfl (lv_at hl 2 rfl) ?_
  refine k_get (K := RX7) (T := TX7) (N := 34) (v := .int (D 14 0 2)) (w := .int (D 14 0 2)) hx hb fX7 hown hK hW 14 0 hm.o (fun _ => rfl) rfl 2 (by decide) (hts (.fieldLink RX7 115 "CrossdockeryModel" "transfers" "I") (by decide +kernel)) rfl rfl rfl dX7_leftBehind_6 ?_
  refine lv_icmp_ge (tgt := 54) hx hb dX7_leftBehind_9 (by decide) (fun c1 => ?_) (fun c1 => ?_)
  ·
    rw [hwf.t] at c1
    have hge4 := k_nI_ge (by omega) (by omega) c1
    obtain rfl : nt = k4 := by omega
    replace hz4 : z4 = (l_X7_leftBehind_4 D nl nt ng) := hz4
    subst hz4
    have hl : lv_has ls 3 [(2, .int (nI nt)), (1, .int (l_X7_leftBehind_4 D nl nt ng)), (0, .ref (ad g 14 0))] := hl
    refine lv_iload_n hx hb dX7_leftBehind_54 rfl (lv_at hl 1 rfl) ?_
    have e9 : (s_X7_leftBehind D nl nt ng) = (l_X7_leftBehind_4 D nl nt ng) := by unfold s_X7_leftBehind; first | done | rfl
    exact k_iret hx hb hr hlocks (⟨by rw [e9], hW⟩) hL dX7_leftBehind_55
  ·
    have hlt4 : k4 < nt := k_nI_nge (by omega) (by omega) (by rw [hwf.t] at c1; exact c1)
    refine lv_iload_n hx hb dX7_leftBehind_12 rfl (lv_at hl 1 rfl) ?_
    refine lv_aload_n hx hb dX7_leftBehind_13 rfl (lv_at hl 2 rfl) ?_
    refine k_get (K := RX7) (T := TX7) (N := 34) (v := .ref (ad g 15 11)) (w := .ref (ad g 15 11)) hx hb fX7 hown hK hW 14 0 hm.o (fun _ => rfl) rfl 18 (by decide) (hts (.fieldLink RX7 44 "CrossdockeryModel" "state" "[C") (by decide +kernel)) rfl rfl rfl dX7_leftBehind_14 ?_
    refine lv_aload_n hx hb dX7_leftBehind_17 rfl (lv_at hl 2 rfl) ?_
    refine k_get (K := RX7) (T := TX7) (N := 34) (v := .ref (ad g 15 13)) (w := .ref (ad g 15 13)) hx hb fX7 hown hK hW 14 0 hm.o (fun _ => rfl) rfl 20 (by decide) (hts (.fieldLink RX7 51 "CrossdockeryModel" "to" "[I") (by decide +kernel)) rfl rfl rfl dX7_leftBehind_18 ?_
    refine lv_iload_n hx hb dX7_leftBehind_21 rfl (lv_at hl 0 rfl) ?_
    refine k_iald (z := 16) (k := k4) hx hb hK hW 15 13 (hm.a (i := 13) (by decide)) (fun _ => rfl) (nI_clamp (by omega)) (vp_in_nI (by omega) (by decide)) (v := (D 15 13 k4)) rfl dX7_leftBehind_22 ?_
    refine k_cald (z := 8) (k := ((D 15 13 k4).toNatClampNeg)) hx hb hK hW 15 11 (hm.a (i := 11) (by decide)) (fun _ => rfl) rfl (hwf.to (by omega)) (v := (D 15 11 ((D 15 13 k4).toNatClampNeg))) rfl dX7_leftBehind_23 ?_
    refine lv_bipush (v := 108) hx hb dX7_leftBehind_24 (by decide) ?_
    refine k_join (pc' := 46) (fun H locs ls st => k_W X n ad L (k_g C g D) fr H ∧ (∀ q ∈ locs, k_B X ≤ q.base) ∧ lv_has ls 3 [(2, .int (nI k4)), (1, .int z4), (0, .ref (ad g 14 0))] ∧ st = [.int (j_X7_leftBehind_46 D nl nt ng k4 z4), .int z4]) (fun H locs ls st hJ => ?_) (fun join46 => ?_)
    ·
      obtain ⟨hW, hL, hl, rfl⟩ := hJ
      refine lv_iadd hx hb dX7_leftBehind_46 ?_
      refine lv_istore_n (lv' := [(1, .int (z4 + (j_X7_leftBehind_46 D nl nt ng k4 z4))), (2, .int (nI k4)), (0, .ref (ad g 14 0))]) hx hb dX7_leftBehind_47 rfl hl (by decide) rfl (fun ls hl => ?_)
      refine lv_iinc (v := (nI (k4 + 1))) (k := 1) (lv' := [(2, .int (nI (k4 + 1))), (1, .int (z4 + (j_X7_leftBehind_46 D nl nt ng k4 z4))), (0, .ref (ad g 14 0))]) hx hb dX7_leftBehind_48 hl rfl (nI_1 _) (by decide) rfl (fun ls hl => ?_)
      refine lv_goto (tgt := 4) hx hb dX7_leftBehind_51 (by decide) ?_
      have e9 : (f_X7_leftBehind_4 D nl nt ng) k4 z4 = (z4 + (j_X7_leftBehind_46 D nl nt ng k4 z4)) := by unfold f_X7_leftBehind_4; first | done | rfl
      exact ih4 _ _ _ hlt4 ⟨(z4 + (j_X7_leftBehind_46 D nl nt ng k4 z4)), by rw [it_s, ← hz4, e9], hW, hL, lv_sub hl [0, 1, 2] rfl⟩
    ·
      refine lv_icmp_ne (tgt := 45) hx hb dX7_leftBehind_26 (by decide) (fun c2 => ?_) (fun c2 => ?_)
      ·
        refine lv_iconst (v := 0) hx hb dX7_leftBehind_45 (by decide) ?_
        have e9 : (j_X7_leftBehind_46 D nl nt ng k4 z4) = 0 := by unfold j_X7_leftBehind_46; first | done | (simp only [if_neg c2]; done) | rfl
        exact join46 _ _ _ _ (by rw [e9]; exact ⟨hW, hL, lv_sub hl [0, 1, 2] rfl, rfl⟩)
      ·
        refine lv_aload_n hx hb dX7_leftBehind_29 rfl (lv_at hl 2 rfl) ?_
        refine k_get (K := RX7) (T := TX7) (N := 34) (v := .ref (ad g 15 14)) (w := .ref (ad g 15 14)) hx hb fX7 hown hK hW 14 0 hm.o (fun _ => rfl) rfl 21 (by decide) (hts (.fieldLink RX7 54 "CrossdockeryModel" "units" "[I") (by decide +kernel)) rfl rfl rfl dX7_leftBehind_30 ?_
        refine lv_iload_n hx hb dX7_leftBehind_33 rfl (lv_at hl 0 rfl) ?_
        refine k_iald (z := 16) (k := k4) hx hb hK hW 15 14 (hm.a (i := 14) (by decide)) (fun _ => rfl) (nI_clamp (by omega)) (vp_in_nI (by omega) (by decide)) (v := (D 15 14 k4)) rfl dX7_leftBehind_34 ?_
        refine lv_aload_n hx hb dX7_leftBehind_35 rfl (lv_at hl 2 rfl) ?_
        refine k_get (K := RX7) (T := TX7) (N := 34) (v := .ref (ad g 15 17)) (w := .ref (ad g 15 17)) hx hb fX7 hown hK hW 14 0 hm.o (fun _ => rfl) rfl 24 (by decide) (hts (.fieldLink RX7 63 "CrossdockeryModel" "loaded" "[I") (by decide +kernel)) rfl rfl rfl dX7_leftBehind_36 ?_
        refine lv_iload_n hx hb dX7_leftBehind_39 rfl (lv_at hl 0 rfl) ?_
        refine k_iald (z := 16) (k := k4) hx hb hK hW 15 17 (hm.a (i := 17) (by decide)) (fun _ => rfl) (nI_clamp (by omega)) (vp_in_nI (by omega) (by decide)) (v := (D 15 17 k4)) rfl dX7_leftBehind_40 ?_
        refine lv_isub hx hb dX7_leftBehind_41 ?_
        refine lv_goto (tgt := 46) hx hb dX7_leftBehind_42 (by decide) ?_
        have e9 : (j_X7_leftBehind_46 D nl nt ng k4 z4) = ((D 15 14 k4) - (D 15 17 k4)) := by unfold j_X7_leftBehind_46; first | done | (simp only [if_pos c2]; done) | rfl
        exact join46 _ _ _ _ (by rw [e9]; exact ⟨hW, hL, lv_sub hl [0, 1, 2] rfl, rfl⟩)
def s_X7_invoice (D : KD) (nl : Nat) (nt : Nat) (ng : Nat) (who : Int32) (l0 : Int32) : KD × Int32 := (if (s_X7_isIn who (-1) ((D 14 0 1) - 1)) = 0 then (k_d D 14 0 0 1, 0) else (if (s_X7_isIn l0 0 ((D 14 0 1) - 1)) = 0 then (k_d D 14 0 0 1, 0) else (k_d D 14 0 0 0, D 15 24 (((8 * (who + 1)) + l0).toNatClampNeg))))
set_option maxHeartbeats 4000000 in
set_option maxRecDepth 100000 in
theorem c_X7_invoice (X : kX) (l : Launch) {n : Nat → Nat → Nat} {ad L : Nat → Nat → Nat → Nat} {C : Nat → Nat → Nat → Nat → Int32} {fr : Nat → Option Cell} {g : Nat} (hm : k_mod n g) (D : KD) (who : Int32) (l0 : Int32) {nl nt ng : Nat} (hwf : mWF D nl nt ng) : k_M X l yX7_invoice wsX7_invoice ({ frames := 2, cells := 0, slots := 0, locals := 34 }) [.ref (ad g 14 0), .int who, .int l0] (k_W X n ad L (k_g C g D) fr) (fun v H => v = some (.int ((s_X7_invoice D nl nt ng who l0).2)) ∧ k_W X n ad L (k_g C g ((s_X7_invoice D nl nt ng who l0).1)) fr H) 0 0 := by
  refine k_M.of (cc := cX7_invoice) (maxL := 3) (ret := (some .int)) (by decide) rfl (Nat.le_of_ble_eq_true rfl) ?_
  intro p e s m args below meth c ls hx hb hr hml hown hts hlocks hnm hK hW hl
  have hL : ∀ q ∈ ([] : List Loc), k_B X ≤ q.base := fun _ h => nomatch h
  have hl : lv_has ls 3 [(0, .ref (ad g 14 0)), (1, .int who), (2, .int l0)] := hl
  have fX7 : ∀ w ∈ u_ws RX7 TX7 34, w.before args s = true := fun w h => hts w ((by decide +kernel : ∀ w ∈ u_ws RX7 TX7 34, w ∈ wsX7_invoice) w h)
  have hl8 := hwf.l8
  have ht16 := hwf.t16
  have hg4 := hwf.g4
  refine lv_iload_n hx hb dX7_invoice_0 rfl (lv_at hl 1 rfl) ?_
  refine lv_iconst (v := (-1)) hx hb dX7_invoice_1 (by decide) ?_
  refine lv_aload_n hx hb dX7_invoice_2 rfl (lv_at hl 0 rfl) ?_
  refine k_get (K := RX7) (T := TX7) (N := 34) (v := .int (D 14 0 1)) (w := .int (D 14 0 1)) hx hb fX7 hown hK hW 14 0 hm.o (fun _ => rfl) rfl 1 (by decide) (hts (.fieldLink RX7 97 "CrossdockeryModel" "lorries" "I") (by decide +kernel)) rfl rfl rfl dX7_invoice_3 ?_
  refine lv_iconst (v := 1) hx hb dX7_invoice_6 (by decide) ?_
  refine lv_isub hx hb dX7_invoice_7 ?_
  refine k_callS (As := [.int who, .int (-1), .int ((D 14 0 1) - 1)]) (rest := []) ⟨hx, hb, hml, hown, hts⟩ hK (c_X7_isIn X l (k_W X n ad L (k_g C g D) fr) who (-1) ((D 14 0 1) - 1)) (va_cwS 3 hts gX7_invoice_X7_isIn rfl rfl rfl (by decide +kernel) ⟨Nat.le_of_ble_eq_true rfl, Nat.le_of_ble_eq_true rfl⟩) hW rfl hl.1 rfl (Nat.le_of_ble_eq_true rfl) dX7_invoice_8 ⟨Nat.le_of_ble_eq_true rfl, Nat.le_of_ble_eq_true rfl⟩ hL (fun v9 H locs hp hL => ?_)
  obtain ⟨rfl, hW⟩ := hp
  refine lv_if_eq (tgt := 28) hx hb dX7_invoice_11 (by decide) (fun c1 => ?_) (fun c1 => ?_)
  ·
    refine lv_aload_n hx hb dX7_invoice_28 rfl (lv_at hl 0 rfl) ?_
    refine lv_iconst (v := 1) hx hb dX7_invoice_29 (by decide) ?_
    refine k_callV (As := [.int 1]) (rest := []) ⟨hx, hb, hml, hown, hts⟩ hK (c_X7_fail2 X l hm D 1) (cwV 1 hts gX7_invoice_X7_fail rfl rfl rfl (by decide +kernel) ⟨Nat.le_of_ble_eq_true rfl, Nat.le_of_ble_eq_true rfl⟩) (k_recv hK hW 14 0 hm.o (fun _ => rfl) rfl) hW rfl hl.1 rfl (Nat.le_of_ble_eq_true rfl) dX7_invoice_30 ⟨Nat.le_of_ble_eq_true rfl, Nat.le_of_ble_eq_true rfl⟩ hL (fun v9 H locs hp hL => ?_)
    obtain ⟨rfl, hW⟩ := hp
    have e9 : (s_X7_invoice D nl nt ng who l0) = (k_d D 14 0 0 1, 0) := by unfold s_X7_invoice; first | done | (simp only [if_pos c1]; done) | rfl
    exact k_iret hx hb hr hlocks (⟨by rw [e9], by rw [e9]; exact hW⟩) hL dX7_invoice_33
  ·
    refine lv_iload_n hx hb dX7_invoice_14 rfl (lv_at hl 2 rfl) ?_
    refine lv_iconst (v := 0) hx hb dX7_invoice_15 (by decide) ?_
    refine lv_aload_n hx hb dX7_invoice_16 rfl (lv_at hl 0 rfl) ?_
    refine k_get (K := RX7) (T := TX7) (N := 34) (v := .int (D 14 0 1)) (w := .int (D 14 0 1)) hx hb fX7 hown hK hW 14 0 hm.o (fun _ => rfl) rfl 1 (by decide) (hts (.fieldLink RX7 97 "CrossdockeryModel" "lorries" "I") (by decide +kernel)) rfl rfl rfl dX7_invoice_17 ?_
    refine lv_iconst (v := 1) hx hb dX7_invoice_20 (by decide) ?_
    refine lv_isub hx hb dX7_invoice_21 ?_
    refine k_callS (As := [.int l0, .int 0, .int ((D 14 0 1) - 1)]) (rest := []) ⟨hx, hb, hml, hown, hts⟩ hK (c_X7_isIn X l (k_W X n ad L (k_g C g D) fr) l0 0 ((D 14 0 1) - 1)) (va_cwS 3 hts gX7_invoice_X7_isIn rfl rfl rfl (by decide +kernel) ⟨Nat.le_of_ble_eq_true rfl, Nat.le_of_ble_eq_true rfl⟩) hW rfl hl.1 rfl (Nat.le_of_ble_eq_true rfl) dX7_invoice_22 ⟨Nat.le_of_ble_eq_true rfl, Nat.le_of_ble_eq_true rfl⟩ hL (fun v9 H locs hp hL => ?_)
    obtain ⟨rfl, hW⟩ := hp
    refine lv_if_ne (tgt := 34) hx hb dX7_invoice_25 (by decide) (fun c2 => ?_) (fun c2 => ?_)
    ·
      have hin_l0 := vp_in_of_isIn (N := nl) (by omega) (by have q9 := c2; rw [hwf.l] at q9; exact q9)
      have hww := mWho_in hwf c1
      have hw72 := mOwed_in2 (hww.imp id (fun q => q.mono hl8)) (hin_l0.mono hl8)
      refine lv_aload_n hx hb dX7_invoice_34 rfl (lv_at hl 0 rfl) ?_
      refine lv_iconst (v := 0) hx hb dX7_invoice_35 (by decide) ?_
      refine k_put (K := RX7) (T := TX7) (N := 34) (x := 0) hx hb fX7 tyX7 tyX7_ok nmX7 hown hK hW hL 14 0 hm.o (fun _ => rfl) rfl 0 (by decide) (hts (.fieldLink RX7 93 "CrossdockeryModel" "thrown" "I") (by decide +kernel)) rfl rfl rfl rfl (fun _ => Nat.le_of_ble_eq_true rfl) (fun _ _ => rfl) dX7_invoice_36 (fun H locs hW hL => ?_)
      refine lv_aload_n hx hb dX7_invoice_39 rfl (lv_at hl 0 rfl) ?_
      refine k_get (K := RX7) (T := TX7) (N := 34) (v := .ref (ad g 15 24)) (w := .ref (ad g 15 24)) hx hb fX7 hown hK hW 14 0 hm.o (fun _ => rfl) rfl 31 (by decide) (hts (.fieldLink RX7 84 "CrossdockeryModel" "owed" "[I") (by decide +kernel)) rfl rfl rfl dX7_invoice_40 ?_
      refine lv_bipush (v := 8) hx hb dX7_invoice_43 (by decide) ?_
      refine lv_iload_n hx hb dX7_invoice_45 rfl (lv_at hl 1 rfl) ?_
      refine lv_iconst (v := 1) hx hb dX7_invoice_46 (by decide) ?_
      refine lv_iadd hx hb dX7_invoice_47 ?_
      refine lv_imul hx hb dX7_invoice_48 ?_
      refine lv_iload_n hx hb dX7_invoice_49 rfl (lv_at hl 2 rfl) ?_
      refine lv_iadd hx hb dX7_invoice_50 ?_
      refine k_iald (z := 72) (k := ((8 * (who + 1)) + l0).toNatClampNeg) hx hb hK hW 15 24 (hm.a (i := 24) (by decide)) (fun _ => rfl) rfl hw72 (v := (D 15 24 (((8 * (who + 1)) + l0).toNatClampNeg))) (k_dr rfl) dX7_invoice_51 ?_
      have e9 : (s_X7_invoice D nl nt ng who l0) = (k_d D 14 0 0 0, D 15 24 (((8 * (who + 1)) + l0).toNatClampNeg)) := by unfold s_X7_invoice; first | done | (simp only [if_neg c1, if_neg c2]; done) | rfl
      exact k_iret hx hb hr hlocks (⟨by rw [e9], by rw [e9]; exact hW⟩) hL dX7_invoice_52
    ·
      refine lv_aload_n hx hb dX7_invoice_28 rfl (lv_at hl 0 rfl) ?_
      refine lv_iconst (v := 1) hx hb dX7_invoice_29 (by decide) ?_
      refine k_callV (As := [.int 1]) (rest := []) ⟨hx, hb, hml, hown, hts⟩ hK (c_X7_fail2 X l hm D 1) (cwV 1 hts gX7_invoice_X7_fail rfl rfl rfl (by decide +kernel) ⟨Nat.le_of_ble_eq_true rfl, Nat.le_of_ble_eq_true rfl⟩) (k_recv hK hW 14 0 hm.o (fun _ => rfl) rfl) hW rfl hl.1 rfl (Nat.le_of_ble_eq_true rfl) dX7_invoice_30 ⟨Nat.le_of_ble_eq_true rfl, Nat.le_of_ble_eq_true rfl⟩ hL (fun v9 H locs hp hL => ?_)
      obtain ⟨rfl, hW⟩ := hp
      have e9 : (s_X7_invoice D nl nt ng who l0) = (k_d D 14 0 0 1, 0) := by unfold s_X7_invoice; first | done | (simp only [if_neg c1, if_pos c2]; done) | rfl
      exact k_iret hx hb hr hlocks (⟨by rw [e9], by rw [e9]; exact hW⟩) hL dX7_invoice_33
def s_X7_invoiceAnew (D : KD) (nl : Nat) (nt : Nat) (ng : Nat) (who : Int32) (l0 : Int32) : KD × Int32 := ((s_X7_invoice D nl nt ng who l0).1, (s_X7_invoice D nl nt ng who l0).2)
set_option maxHeartbeats 4000000 in
set_option maxRecDepth 100000 in
theorem c_X7_invoiceAnew (X : kX) (l : Launch) {n : Nat → Nat → Nat} {ad L : Nat → Nat → Nat → Nat} {C : Nat → Nat → Nat → Nat → Int32} {fr : Nat → Option Cell} {g : Nat} (hm : k_mod n g) (D : KD) (who : Int32) (l0 : Int32) {nl nt ng : Nat} (hwf : mWF D nl nt ng) : k_M X l yX7_invoiceAnew wsX7_invoiceAnew ({ frames := 3, cells := 0, slots := 0, locals := 56 }) [.ref (ad g 14 0), .int who, .int l0] (k_W X n ad L (k_g C g D) fr) (fun v H => v = some (.int ((s_X7_invoiceAnew D nl nt ng who l0).2)) ∧ k_W X n ad L (k_g C g ((s_X7_invoiceAnew D nl nt ng who l0).1)) fr H) 0 0 := by
  refine k_M.of (cc := cX7_invoiceAnew) (maxL := 3) (ret := (some .int)) (by decide) rfl (Nat.le_of_ble_eq_true rfl) ?_
  intro p e s m args below meth c ls hx hb hr hml hown hts hlocks hnm hK hW hl
  have hL : ∀ q ∈ ([] : List Loc), k_B X ≤ q.base := fun _ h => nomatch h
  have hl : lv_has ls 3 [(0, .ref (ad g 14 0)), (1, .int who), (2, .int l0)] := hl
  have fX7 : ∀ w ∈ u_ws RX7 TX7 34, w.before args s = true := fun w h => hts w ((by decide +kernel : ∀ w ∈ u_ws RX7 TX7 34, w ∈ wsX7_invoiceAnew) w h)
  have hl8 := hwf.l8
  have ht16 := hwf.t16
  have hg4 := hwf.g4
  refine lv_aload_n hx hb dX7_invoiceAnew_0 rfl (lv_at hl 0 rfl) ?_
  refine lv_iload_n hx hb dX7_invoiceAnew_1 rfl (lv_at hl 1 rfl) ?_
  refine lv_iload_n hx hb dX7_invoiceAnew_2 rfl (lv_at hl 2 rfl) ?_
  refine k_callV (As := [.int who, .int l0]) (rest := []) ⟨hx, hb, hml, hown, hts⟩ hK (c_X7_invoice X l hm D who l0 hwf) (cwV 2 hts gX7_invoiceAnew_X7_invoice rfl rfl rfl (by decide +kernel) ⟨Nat.le_of_ble_eq_true rfl, Nat.le_of_ble_eq_true rfl⟩) (k_recv hK hW 14 0 hm.o (fun _ => rfl) rfl) hW rfl hl.1 rfl (Nat.le_of_ble_eq_true rfl) dX7_invoiceAnew_3 ⟨Nat.le_of_ble_eq_true rfl, Nat.le_of_ble_eq_true rfl⟩ hL (fun v9 H locs hp hL => ?_)
  obtain ⟨rfl, hW⟩ := hp
  have e9 : (s_X7_invoiceAnew D nl nt ng who l0) = ((s_X7_invoice D nl nt ng who l0).1, (s_X7_invoice D nl nt ng who l0).2) := by unfold s_X7_invoiceAnew; first | done | rfl
  exact k_iret hx hb hr hlocks (⟨by rw [e9], by rw [e9]; exact hW⟩) hL dX7_invoiceAnew_6
def s_X7_isSound (D : KD) : Int32 := 1
set_option maxHeartbeats 4000000 in
set_option maxRecDepth 100000 in
theorem c_X7_isSound (X : kX) (l : Launch) {n : Nat → Nat → Nat} {ad L : Nat → Nat → Nat → Nat} {C : Nat → Nat → Nat → Nat → Int32} {fr : Nat → Option Cell} {g : Nat} (hm : k_mod n g) (D : KD)  : k_M X l yX7_isSound wsX7_isSound ({ frames := 1, cells := 0, slots := 0, locals := 12 }) [.ref (ad g 14 0)] (k_W X n ad L (k_g C g D) fr) (fun v H => v = some (.int (s_X7_isSound D)) ∧ k_W X n ad L (k_g C g D) fr H) 0 0 := by
  refine k_M.of (cc := cX7_isSound) (maxL := 1) (ret := (some .boolean)) (by decide) rfl (Nat.le_of_ble_eq_true rfl) ?_
  intro p e s m args below meth c ls hx hb hr hml hown hts hlocks hnm hK hW hl
  have hL : ∀ q ∈ ([] : List Loc), k_B X ≤ q.base := fun _ h => nomatch h
  have hl : lv_has ls 1 [(0, .ref (ad g 14 0))] := hl
  refine lv_iconst (v := 1) hx hb dX7_isSound_0 (by decide) ?_
  have e9 : (s_X7_isSound D) = 1 := by unfold s_X7_isSound; first | done | rfl
  exact k_zret hx hb hr (by decide) hlocks (⟨by rw [e9], hW⟩) hL dX7_isSound_1
