def s_X3_isPresent (D : KD) (i : Nat) : Int32 := (if (D 4 i 5) = 121 then 1 else (if (D 4 i 5) = 100 then 1 else 0))
set_option maxHeartbeats 4000000 in
set_option maxRecDepth 100000 in
theorem c_X3_isPresent (X : kX) (l : Launch) {n : Nat → Nat → Nat} {ad L : Nat → Nat → Nat → Nat} {C : Nat → Nat → Nat → Nat → Int32} {fr : Nat → Option Cell} {g : Nat} {nl nt ng : Nat} (hd : kDk n g nl nt ng) (D : KD) (i : Nat) (h_i : i < nl) : k_M X l yX3_isPresent wsX3_isPresent ({ frames := 1, cells := 0, slots := 0, locals := 12 }) [.ref (ad g 4 i)] (k_W X n ad L (k_g C g D) fr) (fun v H => v = some (.int (s_X3_isPresent D i)) ∧ k_W X n ad L (k_g C g D) fr H) 0 0 := by
  refine k_M.of (cc := cX3_isPresent) (maxL := 1) (ret := (some .boolean)) (by decide) rfl (Nat.le_of_ble_eq_true rfl) ?_
  intro p e s m args below meth c ls hx hb hr hml hown hts hlocks hnm hK hW hl
  have hL : ∀ q ∈ ([] : List Loc), k_B X ≤ q.base := fun _ h => nomatch h
  have hl : lv_has ls 1 [(0, .ref (ad g 4 i))] := hl
  have fX3 : ∀ w ∈ u_ws RX3 TX3 15, w.before args s = true := fun w h => hts w ((by decide +kernel : ∀ w ∈ u_ws RX3 TX3 15, w ∈ wsX3_isPresent) w h)
  have hl8 := hd.l8
  have ht16 := hd.t16
  have hg4 := hd.g4
  refine lv_aload_n hx hb dX3_isPresent_0 rfl (lv_at hl 0 rfl) ?_
  refine k_get (K := RX3) (T := TX3) (N := 15) (v := .int (D 4 i 5)) (w := .int (D 4 i 5)) hx hb fX3 hown hK hW 4 i (hd.lo h_i) (fun _ => rfl) rfl 5 (by decide) (hts (.fieldLink RX3 15 "Crossdockery$Lorry" "state" "C") (by decide +kernel)) rfl rfl rfl dX3_isPresent_1 ?_
  refine lv_bipush (v := 121) hx hb dX3_isPresent_4 (by decide) ?_
  refine lv_icmp_eq (tgt := 18) hx hb dX3_isPresent_6 (by decide) (fun c1 => ?_) (fun c1 => ?_)
  ·
    refine lv_iconst (v := 1) hx hb dX3_isPresent_18 (by decide) ?_
    refine lv_goto (tgt := 23) hx hb dX3_isPresent_19 (by decide) ?_
    have e9 : (s_X3_isPresent D i) = 1 := by unfold s_X3_isPresent; first | done | (simp only [if_pos c1]; done) | rfl
    exact k_zret hx hb hr (by decide) hlocks (⟨by rw [e9], hW⟩) hL dX3_isPresent_23
  ·
    refine lv_aload_n hx hb dX3_isPresent_9 rfl (lv_at hl 0 rfl) ?_
    refine k_get (K := RX3) (T := TX3) (N := 15) (v := .int (D 4 i 5)) (w := .int (D 4 i 5)) hx hb fX3 hown hK hW 4 i (hd.lo h_i) (fun _ => rfl) rfl 5 (by decide) (hts (.fieldLink RX3 15 "Crossdockery$Lorry" "state" "C") (by decide +kernel)) rfl rfl rfl dX3_isPresent_10 ?_
    refine lv_bipush (v := 100) hx hb dX3_isPresent_13 (by decide) ?_
    refine lv_icmp_ne (tgt := 22) hx hb dX3_isPresent_15 (by decide) (fun c2 => ?_) (fun c2 => ?_)
    ·
      refine lv_iconst (v := 0) hx hb dX3_isPresent_22 (by decide) ?_
      have e9 : (s_X3_isPresent D i) = 0 := by unfold s_X3_isPresent; first | done | (simp only [if_neg c1, if_neg c2]; done) | rfl
      exact k_zret hx hb hr (by decide) hlocks (⟨by rw [e9], hW⟩) hL dX3_isPresent_23
    ·
      refine lv_iconst (v := 1) hx hb dX3_isPresent_18 (by decide) ?_
      refine lv_goto (tgt := 23) hx hb dX3_isPresent_19 (by decide) ?_
      have e9 : (s_X3_isPresent D i) = 1 := by unfold s_X3_isPresent; first | done | (simp only [if_neg c1, if_pos c2]; done) | rfl
      exact k_zret hx hb hr (by decide) hlocks (⟨by rw [e9], hW⟩) hL dX3_isPresent_23
def s_X3_isDocked (D : KD) (i : Nat) : Int32 := (if (D 4 i 5) = 100 then 1 else (if (D 4 i 5) = 108 then 1 else 0))
set_option maxHeartbeats 4000000 in
set_option maxRecDepth 100000 in
theorem c_X3_isDocked (X : kX) (l : Launch) {n : Nat → Nat → Nat} {ad L : Nat → Nat → Nat → Nat} {C : Nat → Nat → Nat → Nat → Int32} {fr : Nat → Option Cell} {g : Nat} {nl nt ng : Nat} (hd : kDk n g nl nt ng) (D : KD) (i : Nat) (h_i : i < nl) : k_M X l yX3_isDocked wsX3_isDocked ({ frames := 1, cells := 0, slots := 0, locals := 12 }) [.ref (ad g 4 i)] (k_W X n ad L (k_g C g D) fr) (fun v H => v = some (.int (s_X3_isDocked D i)) ∧ k_W X n ad L (k_g C g D) fr H) 0 0 := by
  refine k_M.of (cc := cX3_isDocked) (maxL := 1) (ret := (some .boolean)) (by decide) rfl (Nat.le_of_ble_eq_true rfl) ?_
  intro p e s m args below meth c ls hx hb hr hml hown hts hlocks hnm hK hW hl
  have hL : ∀ q ∈ ([] : List Loc), k_B X ≤ q.base := fun _ h => nomatch h
  have hl : lv_has ls 1 [(0, .ref (ad g 4 i))] := hl
  have fX3 : ∀ w ∈ u_ws RX3 TX3 15, w.before args s = true := fun w h => hts w ((by decide +kernel : ∀ w ∈ u_ws RX3 TX3 15, w ∈ wsX3_isDocked) w h)
  have hl8 := hd.l8
  have ht16 := hd.t16
  have hg4 := hd.g4
  refine lv_aload_n hx hb dX3_isDocked_0 rfl (lv_at hl 0 rfl) ?_
  refine k_get (K := RX3) (T := TX3) (N := 15) (v := .int (D 4 i 5)) (w := .int (D 4 i 5)) hx hb fX3 hown hK hW 4 i (hd.lo h_i) (fun _ => rfl) rfl 5 (by decide) (hts (.fieldLink RX3 15 "Crossdockery$Lorry" "state" "C") (by decide +kernel)) rfl rfl rfl dX3_isDocked_1 ?_
  refine lv_bipush (v := 100) hx hb dX3_isDocked_4 (by decide) ?_
  refine lv_icmp_eq (tgt := 18) hx hb dX3_isDocked_6 (by decide) (fun c1 => ?_) (fun c1 => ?_)
  ·
    refine lv_iconst (v := 1) hx hb dX3_isDocked_18 (by decide) ?_
    refine lv_goto (tgt := 23) hx hb dX3_isDocked_19 (by decide) ?_
    have e9 : (s_X3_isDocked D i) = 1 := by unfold s_X3_isDocked; first | done | (simp only [if_pos c1]; done) | rfl
    exact k_zret hx hb hr (by decide) hlocks (⟨by rw [e9], hW⟩) hL dX3_isDocked_23
  ·
    refine lv_aload_n hx hb dX3_isDocked_9 rfl (lv_at hl 0 rfl) ?_
    refine k_get (K := RX3) (T := TX3) (N := 15) (v := .int (D 4 i 5)) (w := .int (D 4 i 5)) hx hb fX3 hown hK hW 4 i (hd.lo h_i) (fun _ => rfl) rfl 5 (by decide) (hts (.fieldLink RX3 15 "Crossdockery$Lorry" "state" "C") (by decide +kernel)) rfl rfl rfl dX3_isDocked_10 ?_
    refine lv_bipush (v := 108) hx hb dX3_isDocked_13 (by decide) ?_
    refine lv_icmp_ne (tgt := 22) hx hb dX3_isDocked_15 (by decide) (fun c2 => ?_) (fun c2 => ?_)
    ·
      refine lv_iconst (v := 0) hx hb dX3_isDocked_22 (by decide) ?_
      have e9 : (s_X3_isDocked D i) = 0 := by unfold s_X3_isDocked; first | done | (simp only [if_neg c1, if_neg c2]; done) | rfl
      exact k_zret hx hb hr (by decide) hlocks (⟨by rw [e9], hW⟩) hL dX3_isDocked_23
    ·
      refine lv_iconst (v := 1) hx hb dX3_isDocked_18 (by decide) ?_
      refine lv_goto (tgt := 23) hx hb dX3_isDocked_19 (by decide) ?_
      have e9 : (s_X3_isDocked D i) = 1 := by unfold s_X3_isDocked; first | done | (simp only [if_neg c1, if_pos c2]; done) | rfl
      exact k_zret hx hb hr (by decide) hlocks (⟨by rw [e9], hW⟩) hL dX3_isDocked_23
def s_X3_isQueuedFor (D : KD) (i : Nat) (d : Int32) : Int32 := (if (D 4 i 5) = 121 then (if (D 4 i 4) = d then 1 else 0) else 0)
set_option maxHeartbeats 4000000 in
set_option maxRecDepth 100000 in
theorem c_X3_isQueuedFor (X : kX) (l : Launch) {n : Nat → Nat → Nat} {ad L : Nat → Nat → Nat → Nat} {C : Nat → Nat → Nat → Nat → Int32} {fr : Nat → Option Cell} {g : Nat} {nl nt ng : Nat} (hd : kDk n g nl nt ng) (D : KD) (i : Nat) (h_i : i < nl) (d : Int32) : k_M X l yX3_isQueuedFor wsX3_isQueuedFor ({ frames := 1, cells := 0, slots := 0, locals := 12 }) [.ref (ad g 4 i), .int d] (k_W X n ad L (k_g C g D) fr) (fun v H => v = some (.int (s_X3_isQueuedFor D i d)) ∧ k_W X n ad L (k_g C g D) fr H) 0 0 := by
  refine k_M.of (cc := cX3_isQueuedFor) (maxL := 2) (ret := (some .boolean)) (by decide) rfl (Nat.le_of_ble_eq_true rfl) ?_
  intro p e s m args below meth c ls hx hb hr hml hown hts hlocks hnm hK hW hl
  have hL : ∀ q ∈ ([] : List Loc), k_B X ≤ q.base := fun _ h => nomatch h
  have hl : lv_has ls 2 [(0, .ref (ad g 4 i)), (1, .int d)] := hl
  have fX3 : ∀ w ∈ u_ws RX3 TX3 15, w.before args s = true := fun w h => hts w ((by decide +kernel : ∀ w ∈ u_ws RX3 TX3 15, w ∈ wsX3_isQueuedFor) w h)
  have hl8 := hd.l8
  have ht16 := hd.t16
  have hg4 := hd.g4
  refine lv_aload_n hx hb dX3_isQueuedFor_0 rfl (lv_at hl 0 rfl) ?_
  refine k_get (K := RX3) (T := TX3) (N := 15) (v := .int (D 4 i 5)) (w := .int (D 4 i 5)) hx hb fX3 hown hK hW 4 i (hd.lo h_i) (fun _ => rfl) rfl 5 (by decide) (hts (.fieldLink RX3 15 "Crossdockery$Lorry" "state" "C") (by decide +kernel)) rfl rfl rfl dX3_isQueuedFor_1 ?_
  refine lv_bipush (v := 121) hx hb dX3_isQueuedFor_4 (by decide) ?_
  refine lv_icmp_ne (tgt := 21) hx hb dX3_isQueuedFor_6 (by decide) (fun c1 => ?_) (fun c1 => ?_)
  ·
    refine lv_iconst (v := 0) hx hb dX3_isQueuedFor_21 (by decide) ?_
    have e9 : (s_X3_isQueuedFor D i d) = 0 := by unfold s_X3_isQueuedFor; first | done | (simp only [if_neg c1]; done) | rfl
    exact k_zret hx hb hr (by decide) hlocks (⟨by rw [e9], hW⟩) hL dX3_isQueuedFor_22
  ·
    refine lv_aload_n hx hb dX3_isQueuedFor_9 rfl (lv_at hl 0 rfl) ?_
    refine k_get (K := RX3) (T := TX3) (N := 15) (v := .int (D 4 i 4)) (w := .int (D 4 i 4)) hx hb fX3 hown hK hW 4 i (hd.lo h_i) (fun _ => rfl) rfl 4 (by decide) (hts (.fieldLink RX3 9 "Crossdockery$Lorry" "door" "I") (by decide +kernel)) rfl rfl rfl dX3_isQueuedFor_10 ?_
    refine lv_iload_n hx hb dX3_isQueuedFor_13 rfl (lv_at hl 1 rfl) ?_
    refine lv_icmp_ne (tgt := 21) hx hb dX3_isQueuedFor_14 (by decide) (fun c2 => ?_) (fun c2 => ?_)
    ·
      refine lv_iconst (v := 0) hx hb dX3_isQueuedFor_21 (by decide) ?_
      have e9 : (s_X3_isQueuedFor D i d) = 0 := by unfold s_X3_isQueuedFor; first | done | (simp only [if_pos c1, if_neg c2]; done) | rfl
      exact k_zret hx hb hr (by decide) hlocks (⟨by rw [e9], hW⟩) hL dX3_isQueuedFor_22
    ·
      refine lv_iconst (v := 1) hx hb dX3_isQueuedFor_17 (by decide) ?_
      refine lv_goto (tgt := 22) hx hb dX3_isQueuedFor_18 (by decide) ?_
      have e9 : (s_X3_isQueuedFor D i d) = 1 := by unfold s_X3_isQueuedFor; first | done | (simp only [if_pos c1, if_pos c2]; done) | rfl
      exact k_zret hx hb hr (by decide) hlocks (⟨by rw [e9], hW⟩) hL dX3_isQueuedFor_22
def s_X3_isAheadOf (D : KD) (i : Nat) (o : Nat) : Int32 := (if (D 4 i 6) < (D 4 o 6) then 1 else (if (D 4 i 6) = (D 4 o 6) then (if (D 4 i 0) ≥ (D 4 o 0) then 0 else 1) else 0))
set_option maxHeartbeats 4000000 in
set_option maxRecDepth 100000 in
theorem c_X3_isAheadOf (X : kX) (l : Launch) {n : Nat → Nat → Nat} {ad L : Nat → Nat → Nat → Nat} {C : Nat → Nat → Nat → Nat → Int32} {fr : Nat → Option Cell} {g : Nat} {nl nt ng : Nat} (hd : kDk n g nl nt ng) (D : KD) (i : Nat) (h_i : i < nl) (o : Nat) (h_o : o < nl) : k_M X l yX3_isAheadOf wsX3_isAheadOf ({ frames := 1, cells := 0, slots := 0, locals := 12 }) [.ref (ad g 4 i), .ref (ad g 4 o)] (k_W X n ad L (k_g C g D) fr) (fun v H => v = some (.int (s_X3_isAheadOf D i o)) ∧ k_W X n ad L (k_g C g D) fr H) 0 0 := by
  refine k_M.of (cc := cX3_isAheadOf) (maxL := 2) (ret := (some .boolean)) (by decide) rfl (Nat.le_of_ble_eq_true rfl) ?_
  intro p e s m args below meth c ls hx hb hr hml hown hts hlocks hnm hK hW hl
  have hL : ∀ q ∈ ([] : List Loc), k_B X ≤ q.base := fun _ h => nomatch h
  have hl : lv_has ls 2 [(0, .ref (ad g 4 i)), (1, .ref (ad g 4 o))] := hl
  have fX3 : ∀ w ∈ u_ws RX3 TX3 15, w.before args s = true := fun w h => hts w ((by decide +kernel : ∀ w ∈ u_ws RX3 TX3 15, w ∈ wsX3_isAheadOf) w h)
  have hl8 := hd.l8
  have ht16 := hd.t16
  have hg4 := hd.g4
  refine lv_aload_n hx hb dX3_isAheadOf_0 rfl (lv_at hl 0 rfl) ?_
  refine k_get (K := RX3) (T := TX3) (N := 15) (v := .int (D 4 i 6)) (w := .int (D 4 i 6)) hx hb fX3 hown hK hW 4 i (hd.lo h_i) (fun _ => rfl) rfl 6 (by decide) (hts (.fieldLink RX3 42 "Crossdockery$Lorry" "arrivedAt" "I") (by decide +kernel)) rfl rfl rfl dX3_isAheadOf_1 ?_
  refine lv_aload_n hx hb dX3_isAheadOf_4 rfl (lv_at hl 1 rfl) ?_
  refine k_get (K := RX3) (T := TX3) (N := 15) (v := .int (D 4 o 6)) (w := .int (D 4 o 6)) hx hb fX3 hown hK hW 4 o (hd.lo h_o) (fun _ => rfl) rfl 6 (by decide) (hts (.fieldLink RX3 42 "Crossdockery$Lorry" "arrivedAt" "I") (by decide +kernel)) rfl rfl rfl dX3_isAheadOf_5 ?_
  refine lv_icmp_lt (tgt := 33) hx hb dX3_isAheadOf_8 (by decide) (fun c1 => ?_) (fun c1 => ?_)
  ·
    refine lv_iconst (v := 1) hx hb dX3_isAheadOf_33 (by decide) ?_
    refine lv_goto (tgt := 38) hx hb dX3_isAheadOf_34 (by decide) ?_
    have e9 : (s_X3_isAheadOf D i o) = 1 := by unfold s_X3_isAheadOf; first | done | (simp only [if_pos c1]; done) | rfl
    exact k_zret hx hb hr (by decide) hlocks (⟨by rw [e9], hW⟩) hL dX3_isAheadOf_38
  ·
    refine lv_aload_n hx hb dX3_isAheadOf_11 rfl (lv_at hl 0 rfl) ?_
    refine k_get (K := RX3) (T := TX3) (N := 15) (v := .int (D 4 i 6)) (w := .int (D 4 i 6)) hx hb fX3 hown hK hW 4 i (hd.lo h_i) (fun _ => rfl) rfl 6 (by decide) (hts (.fieldLink RX3 42 "Crossdockery$Lorry" "arrivedAt" "I") (by decide +kernel)) rfl rfl rfl dX3_isAheadOf_12 ?_
    refine lv_aload_n hx hb dX3_isAheadOf_15 rfl (lv_at hl 1 rfl) ?_
    refine k_get (K := RX3) (T := TX3) (N := 15) (v := .int (D 4 o 6)) (w := .int (D 4 o 6)) hx hb fX3 hown hK hW 4 o (hd.lo h_o) (fun _ => rfl) rfl 6 (by decide) (hts (.fieldLink RX3 42 "Crossdockery$Lorry" "arrivedAt" "I") (by decide +kernel)) rfl rfl rfl dX3_isAheadOf_16 ?_
    refine lv_icmp_ne (tgt := 37) hx hb dX3_isAheadOf_19 (by decide) (fun c2 => ?_) (fun c2 => ?_)
    ·
      refine lv_iconst (v := 0) hx hb dX3_isAheadOf_37 (by decide) ?_
      have e9 : (s_X3_isAheadOf D i o) = 0 := by unfold s_X3_isAheadOf; first | done | (simp only [if_neg c1, if_neg c2]; done) | rfl
      exact k_zret hx hb hr (by decide) hlocks (⟨by rw [e9], hW⟩) hL dX3_isAheadOf_38
    ·
      refine lv_aload_n hx hb dX3_isAheadOf_22 rfl (lv_at hl 0 rfl) ?_
      refine k_get (K := RX3) (T := TX3) (N := 15) (v := .int (D 4 i 0)) (w := .int (D 4 i 0)) hx hb fX3 hown hK hW 4 i (hd.lo h_i) (fun _ => rfl) rfl 0 (by decide) (hts (.fieldLink RX3 29 "Crossdockery$Lorry" "number" "I") (by decide +kernel)) rfl rfl rfl dX3_isAheadOf_23 ?_
      refine lv_aload_n hx hb dX3_isAheadOf_26 rfl (lv_at hl 1 rfl) ?_
      refine k_get (K := RX3) (T := TX3) (N := 15) (v := .int (D 4 o 0)) (w := .int (D 4 o 0)) hx hb fX3 hown hK hW 4 o (hd.lo h_o) (fun _ => rfl) rfl 0 (by decide) (hts (.fieldLink RX3 29 "Crossdockery$Lorry" "number" "I") (by decide +kernel)) rfl rfl rfl dX3_isAheadOf_27 ?_
      refine lv_icmp_ge (tgt := 37) hx hb dX3_isAheadOf_30 (by decide) (fun c3 => ?_) (fun c3 => ?_)
      ·
        refine lv_iconst (v := 0) hx hb dX3_isAheadOf_37 (by decide) ?_
        have e9 : (s_X3_isAheadOf D i o) = 0 := by unfold s_X3_isAheadOf; first | done | (simp only [if_neg c1, if_pos c2, if_pos c3]; done) | rfl
        exact k_zret hx hb hr (by decide) hlocks (⟨by rw [e9], hW⟩) hL dX3_isAheadOf_38
      ·
        refine lv_iconst (v := 1) hx hb dX3_isAheadOf_33 (by decide) ?_
        refine lv_goto (tgt := 38) hx hb dX3_isAheadOf_34 (by decide) ?_
        have e9 : (s_X3_isAheadOf D i o) = 1 := by unfold s_X3_isAheadOf; first | done | (simp only [if_neg c1, if_pos c2, if_neg c3]; done) | rfl
        exact k_zret hx hb hr (by decide) hlocks (⟨by rw [e9], hW⟩) hL dX3_isAheadOf_38
def s_X3_planFor (D : KD) (i : Nat) (d : Int32) : KD × Int32 := (k_d D 4 i 4 d, D 4 i 4)
set_option maxHeartbeats 4000000 in
set_option maxRecDepth 100000 in
theorem c_X3_planFor (X : kX) (l : Launch) {n : Nat → Nat → Nat} {ad L : Nat → Nat → Nat → Nat} {C : Nat → Nat → Nat → Nat → Int32} {fr : Nat → Option Cell} {g : Nat} {nl nt ng : Nat} (hd : kDk n g nl nt ng) (D : KD) (i : Nat) (h_i : i < nl) (d : Int32) : k_M X l yX3_planFor wsX3_planFor ({ frames := 1, cells := 0, slots := 0, locals := 12 }) [.ref (ad g 4 i), .int d] (k_W X n ad L (k_g C g D) fr) (fun v H => v = some (.int ((s_X3_planFor D i d).2)) ∧ k_W X n ad L (k_g C g ((s_X3_planFor D i d).1)) fr H) 0 0 := by
  refine k_M.of (cc := cX3_planFor) (maxL := 3) (ret := (some .int)) (by decide) rfl (Nat.le_of_ble_eq_true rfl) ?_
  intro p e s m args below meth c ls hx hb hr hml hown hts hlocks hnm hK hW hl
  have hL : ∀ q ∈ ([] : List Loc), k_B X ≤ q.base := fun _ h => nomatch h
  have hl : lv_has ls 3 [(0, .ref (ad g 4 i)), (1, .int d)] := hl
  have fX3 : ∀ w ∈ u_ws RX3 TX3 15, w.before args s = true := fun w h => hts w ((by decide +kernel : ∀ w ∈ u_ws RX3 TX3 15, w ∈ wsX3_planFor) w h)
  have hl8 := hd.l8
  have ht16 := hd.t16
  have hg4 := hd.g4
  refine lv_aload_n hx hb dX3_planFor_0 rfl (lv_at hl 0 rfl) ?_
  refine k_get (K := RX3) (T := TX3) (N := 15) (v := .int (D 4 i 4)) (w := .int (D 4 i 4)) hx hb fX3 hown hK hW 4 i (hd.lo h_i) (fun _ => rfl) rfl 4 (by decide) (hts (.fieldLink RX3 9 "Crossdockery$Lorry" "door" "I") (by decide +kernel)) rfl rfl rfl dX3_planFor_1 ?_
  refine lv_istore_n (lv' := [(2, .int (D 4 i 4)), (0, .ref (ad g 4 i)), (1, .int d)]) hx hb dX3_planFor_4 rfl hl (by decide) rfl (fun ls hl => ?_)
  refine lv_aload_n hx hb dX3_planFor_5 rfl (lv_at hl 1 rfl) ?_
  refine lv_iload_n hx hb dX3_planFor_6 rfl (lv_at hl 2 rfl) ?_
  refine k_put (K := RX3) (T := TX3) (N := 15) (x := d) hx hb fX3 tyX3 tyX3_ok nmX3 hown hK hW hL 4 i (hd.lo h_i) (fun _ => rfl) rfl 4 (by decide) (hts (.fieldLink RX3 9 "Crossdockery$Lorry" "door" "I") (by decide +kernel)) rfl rfl rfl rfl (fun _ => Nat.le_of_ble_eq_true rfl) (fun _ _ => rfl) dX3_planFor_7 (fun H locs hW hL => ?_)
  refine lv_iload_n hx hb dX3_planFor_10 rfl (lv_at hl 0 rfl) ?_
  have e9 : (s_X3_planFor D i d) = (k_d D 4 i 4 d, D 4 i 4) := by unfold s_X3_planFor; first | done | rfl
  exact k_iret hx hb hr hlocks (⟨by rw [e9], by rw [e9]; exact hW⟩) hL dX3_planFor_11
theorem cWF_X3_planFor {D : KD} {nl nt ng : Nat} (h : cWF D nl nt) (i : Nat) (d : Int32) : cWF (s_X3_planFor D i d).1 nl nt := by
  unfold s_X3_planFor
  repeat' split
  all_goals repeat (first | exact h | refine cWF.put ?_ ⟨by decide, Or.inl (by decide)⟩ | refine cWF.put ?_ ⟨by decide, Or.inr (by decide)⟩)
def s_X3_comeIn (D : KD) (i : Nat) (mi : Int32) : KD := k_d (k_d D 4 i 5 121) 4 i 6 mi
set_option maxHeartbeats 4000000 in
set_option maxRecDepth 100000 in
theorem c_X3_comeIn (X : kX) (l : Launch) {n : Nat → Nat → Nat} {ad L : Nat → Nat → Nat → Nat} {C : Nat → Nat → Nat → Nat → Int32} {fr : Nat → Option Cell} {g : Nat} {nl nt ng : Nat} (hd : kDk n g nl nt ng) (D : KD) (i : Nat) (h_i : i < nl) (mi : Int32) : k_M X l yX3_comeIn wsX3_comeIn ({ frames := 1, cells := 0, slots := 0, locals := 12 }) [.ref (ad g 4 i), .int mi] (k_W X n ad L (k_g C g D) fr) (fun v H => v = none ∧ k_W X n ad L (k_g C g (s_X3_comeIn D i mi)) fr H) 0 0 := by
  refine k_M.of (cc := cX3_comeIn) (maxL := 2) (ret := none) (by decide) rfl (Nat.le_of_ble_eq_true rfl) ?_
  intro p e s m args below meth c ls hx hb hr hml hown hts hlocks hnm hK hW hl
  have hL : ∀ q ∈ ([] : List Loc), k_B X ≤ q.base := fun _ h => nomatch h
  have hl : lv_has ls 2 [(0, .ref (ad g 4 i)), (1, .int mi)] := hl
  have fX3 : ∀ w ∈ u_ws RX3 TX3 15, w.before args s = true := fun w h => hts w ((by decide +kernel : ∀ w ∈ u_ws RX3 TX3 15, w ∈ wsX3_comeIn) w h)
  have hl8 := hd.l8
  have ht16 := hd.t16
  have hg4 := hd.g4
  refine lv_aload_n hx hb dX3_comeIn_0 rfl (lv_at hl 0 rfl) ?_
  refine lv_bipush (v := 121) hx hb dX3_comeIn_1 (by decide) ?_
  refine k_put (K := RX3) (T := TX3) (N := 15) (x := 121) hx hb fX3 tyX3 tyX3_ok nmX3 hown hK hW hL 4 i (hd.lo h_i) (fun _ => rfl) rfl 5 (by decide) (hts (.fieldLink RX3 15 "Crossdockery$Lorry" "state" "C") (by decide +kernel)) rfl rfl (by decide +kernel) (by decide +kernel) (fun _ => Nat.le_of_ble_eq_true rfl) (fun _ _ => rfl) dX3_comeIn_3 (fun H locs hW hL => ?_)
  refine lv_aload_n hx hb dX3_comeIn_6 rfl (lv_at hl 0 rfl) ?_
  refine lv_iload_n hx hb dX3_comeIn_7 rfl (lv_at hl 1 rfl) ?_
  refine k_put (K := RX3) (T := TX3) (N := 15) (x := mi) hx hb fX3 tyX3 tyX3_ok nmX3 hown hK hW hL 4 i (hd.lo h_i) (fun _ => rfl) rfl 6 (by decide) (hts (.fieldLink RX3 42 "Crossdockery$Lorry" "arrivedAt" "I") (by decide +kernel)) rfl rfl rfl rfl (fun _ => Nat.le_of_ble_eq_true rfl) (fun _ _ => rfl) dX3_comeIn_8 (fun H locs hW hL => ?_)
  have e9 : (s_X3_comeIn D i mi) = k_d (k_d D 4 i 5 121) 4 i 6 mi := by unfold s_X3_comeIn; first | done | rfl
  exact k_vret hx hb hr hlocks (⟨rfl, by rw [e9]; exact hW⟩) hL dX3_comeIn_11
theorem cWF_X3_comeIn {D : KD} {nl nt ng : Nat} (h : cWF D nl nt) (i : Nat) (mi : Int32) : cWF (s_X3_comeIn D i mi) nl nt := by
  unfold s_X3_comeIn
  repeat' split
  all_goals repeat (first | exact h | refine cWF.put ?_ ⟨by decide, Or.inl (by decide)⟩ | refine cWF.put ?_ ⟨by decide, Or.inr (by decide)⟩)
def s_X3_goAway (D : KD) (i : Nat) (mi : Int32) : KD := k_d (k_d D 4 i 5 108) 4 i 7 mi
set_option maxHeartbeats 4000000 in
set_option maxRecDepth 100000 in
theorem c_X3_goAway (X : kX) (l : Launch) {n : Nat → Nat → Nat} {ad L : Nat → Nat → Nat → Nat} {C : Nat → Nat → Nat → Nat → Int32} {fr : Nat → Option Cell} {g : Nat} {nl nt ng : Nat} (hd : kDk n g nl nt ng) (D : KD) (i : Nat) (h_i : i < nl) (mi : Int32) : k_M X l yX3_goAway wsX3_goAway ({ frames := 1, cells := 0, slots := 0, locals := 12 }) [.ref (ad g 4 i), .int mi] (k_W X n ad L (k_g C g D) fr) (fun v H => v = none ∧ k_W X n ad L (k_g C g (s_X3_goAway D i mi)) fr H) 0 0 := by
  refine k_M.of (cc := cX3_goAway) (maxL := 2) (ret := none) (by decide) rfl (Nat.le_of_ble_eq_true rfl) ?_
  intro p e s m args below meth c ls hx hb hr hml hown hts hlocks hnm hK hW hl
  have hL : ∀ q ∈ ([] : List Loc), k_B X ≤ q.base := fun _ h => nomatch h
  have hl : lv_has ls 2 [(0, .ref (ad g 4 i)), (1, .int mi)] := hl
  have fX3 : ∀ w ∈ u_ws RX3 TX3 15, w.before args s = true := fun w h => hts w ((by decide +kernel : ∀ w ∈ u_ws RX3 TX3 15, w ∈ wsX3_goAway) w h)
  have hl8 := hd.l8
  have ht16 := hd.t16
  have hg4 := hd.g4
  refine lv_aload_n hx hb dX3_goAway_0 rfl (lv_at hl 0 rfl) ?_
  refine lv_bipush (v := 108) hx hb dX3_goAway_1 (by decide) ?_
  refine k_put (K := RX3) (T := TX3) (N := 15) (x := 108) hx hb fX3 tyX3 tyX3_ok nmX3 hown hK hW hL 4 i (hd.lo h_i) (fun _ => rfl) rfl 5 (by decide) (hts (.fieldLink RX3 15 "Crossdockery$Lorry" "state" "C") (by decide +kernel)) rfl rfl (by decide +kernel) (by decide +kernel) (fun _ => Nat.le_of_ble_eq_true rfl) (fun _ _ => rfl) dX3_goAway_3 (fun H locs hW hL => ?_)
  refine lv_aload_n hx hb dX3_goAway_6 rfl (lv_at hl 0 rfl) ?_
  refine lv_iload_n hx hb dX3_goAway_7 rfl (lv_at hl 1 rfl) ?_
  refine k_put (K := RX3) (T := TX3) (N := 15) (x := mi) hx hb fX3 tyX3 tyX3_ok nmX3 hown hK hW hL 4 i (hd.lo h_i) (fun _ => rfl) rfl 7 (by decide) (hts (.fieldLink RX3 45 "Crossdockery$Lorry" "leftAt" "I") (by decide +kernel)) rfl rfl rfl rfl (fun _ => Nat.le_of_ble_eq_true rfl) (fun _ _ => rfl) dX3_goAway_8 (fun H locs hW hL => ?_)
  have e9 : (s_X3_goAway D i mi) = k_d (k_d D 4 i 5 108) 4 i 7 mi := by unfold s_X3_goAway; first | done | rfl
  exact k_vret hx hb hr hlocks (⟨rfl, by rw [e9]; exact hW⟩) hL dX3_goAway_11
theorem cWF_X3_goAway {D : KD} {nl nt ng : Nat} (h : cWF D nl nt) (i : Nat) (mi : Int32) : cWF (s_X3_goAway D i mi) nl nt := by
  unfold s_X3_goAway
  repeat' split
  all_goals repeat (first | exact h | refine cWF.put ?_ ⟨by decide, Or.inl (by decide)⟩ | refine cWF.put ?_ ⟨by decide, Or.inr (by decide)⟩)
def j_X3_waitsOnItsOwn_24 (D : KD) (i : Nat) (mi : Int32) : Int32 := (if (D 4 i 1) = 0 then 5 else 0)
def s_X3_waitsOnItsOwn (D : KD) (i : Nat) (mi : Int32) : Int32 := (if mi < (D 4 i 2) then 1 else (if (D 4 i 8) ≥ (j_X3_waitsOnItsOwn_24 D i mi) then 0 else 1))
set_option maxHeartbeats 4000000 in
set_option maxRecDepth 100000 in
theorem c_X3_waitsOnItsOwn (X : kX) (l : Launch) {n : Nat → Nat → Nat} {ad L : Nat → Nat → Nat → Nat} {C : Nat → Nat → Nat → Nat → Int32} {fr : Nat → Option Cell} {g : Nat} {nl nt ng : Nat} (hd : kDk n g nl nt ng) (D : KD) (i : Nat) (h_i : i < nl) (mi : Int32) : k_M X l yX3_waitsOnItsOwn wsX3_waitsOnItsOwn ({ frames := 1, cells := 0, slots := 0, locals := 12 }) [.ref (ad g 4 i), .int mi] (k_W X n ad L (k_g C g D) fr) (fun v H => v = some (.int (s_X3_waitsOnItsOwn D i mi)) ∧ k_W X n ad L (k_g C g D) fr H) 0 0 := by
  refine k_M.of (cc := cX3_waitsOnItsOwn) (maxL := 2) (ret := (some .boolean)) (by decide) rfl (Nat.le_of_ble_eq_true rfl) ?_
  intro p e s m args below meth c ls hx hb hr hml hown hts hlocks hnm hK hW hl
  have hL : ∀ q ∈ ([] : List Loc), k_B X ≤ q.base := fun _ h => nomatch h
  have hl : lv_has ls 2 [(0, .ref (ad g 4 i)), (1, .int mi)] := hl
  have fX3 : ∀ w ∈ u_ws RX3 TX3 15, w.before args s = true := fun w h => hts w ((by decide +kernel : ∀ w ∈ u_ws RX3 TX3 15, w ∈ wsX3_waitsOnItsOwn) w h)
  have hl8 := hd.l8
  have ht16 := hd.t16
  have hg4 := hd.g4
  refine lv_iload_n hx hb dX3_waitsOnItsOwn_0 rfl (lv_at hl 1 rfl) ?_
  refine lv_aload_n hx hb dX3_waitsOnItsOwn_1 rfl (lv_at hl 0 rfl) ?_
  refine k_get (K := RX3) (T := TX3) (N := 15) (v := .int (D 4 i 2)) (w := .int (D 4 i 2)) hx hb fX3 hown hK hW 4 i (hd.lo h_i) (fun _ => rfl) rfl 2 (by decide) (hts (.fieldLink RX3 36 "Crossdockery$Lorry" "planned" "I") (by decide +kernel)) rfl rfl rfl dX3_waitsOnItsOwn_2 ?_
  refine lv_icmp_lt (tgt := 27) hx hb dX3_waitsOnItsOwn_5 (by decide) (fun c1 => ?_) (fun c1 => ?_)
  ·
    refine lv_iconst (v := 1) hx hb dX3_waitsOnItsOwn_27 (by decide) ?_
    refine lv_goto (tgt := 32) hx hb dX3_waitsOnItsOwn_28 (by decide) ?_
    have e9 : (s_X3_waitsOnItsOwn D i mi) = 1 := by unfold s_X3_waitsOnItsOwn; first | done | (simp only [if_pos c1]; done) | rfl
    exact k_zret hx hb hr (by decide) hlocks (⟨by rw [e9], hW⟩) hL dX3_waitsOnItsOwn_32
  ·
    refine lv_aload_n hx hb dX3_waitsOnItsOwn_8 rfl (lv_at hl 0 rfl) ?_
    refine k_get (K := RX3) (T := TX3) (N := 15) (v := .int (D 4 i 8)) (w := .int (D 4 i 8)) hx hb fX3 hown hK hW 4 i (hd.lo h_i) (fun _ => rfl) rfl 8 (by decide) (hts (.fieldLink RX3 48 "Crossdockery$Lorry" "waited" "I") (by decide +kernel)) rfl rfl rfl dX3_waitsOnItsOwn_9 ?_
    refine lv_aload_n hx hb dX3_waitsOnItsOwn_12 rfl (lv_at hl 0 rfl) ?_
    refine k_get (K := RX3) (T := TX3) (N := 15) (v := .int (D 4 i 1)) (w := .int (D 4 i 1)) hx hb fX3 hown hK hW 4 i (hd.lo h_i) (fun _ => rfl) rfl 1 (by decide) (hts (.fieldLink RX3 32 "Crossdockery$Lorry" "isBringing" "Z") (by decide +kernel)) rfl rfl rfl dX3_waitsOnItsOwn_13 ?_
    refine k_join (pc' := 24) (fun H locs ls st => k_W X n ad L (k_g C g D) fr H ∧ (∀ q ∈ locs, k_B X ≤ q.base) ∧ lv_has ls 2 [(0, .ref (ad g 4 i)), (1, .int mi)] ∧ st = [.int (j_X3_waitsOnItsOwn_24 D i mi), .int (D 4 i 8)]) (fun H locs ls st hJ => ?_) (fun join24 => ?_)
    ·
      obtain ⟨hW, hL, hl, rfl⟩ := hJ
      refine lv_icmp_ge (tgt := 31) hx hb dX3_waitsOnItsOwn_24 (by decide) (fun c3 => ?_) (fun c3 => ?_)
      ·
        refine lv_iconst (v := 0) hx hb dX3_waitsOnItsOwn_31 (by decide) ?_
        have e9 : (s_X3_waitsOnItsOwn D i mi) = 0 := by unfold s_X3_waitsOnItsOwn; first | done | (simp only [if_neg c1, if_pos c3]; done) | rfl
        exact k_zret hx hb hr (by decide) hlocks (⟨by rw [e9], hW⟩) hL dX3_waitsOnItsOwn_32
      ·
        refine lv_iconst (v := 1) hx hb dX3_waitsOnItsOwn_27 (by decide) ?_
        refine lv_goto (tgt := 32) hx hb dX3_waitsOnItsOwn_28 (by decide) ?_
        have e9 : (s_X3_waitsOnItsOwn D i mi) = 1 := by unfold s_X3_waitsOnItsOwn; first | done | (simp only [if_neg c1, if_neg c3]; done) | rfl
        exact k_zret hx hb hr (by decide) hlocks (⟨by rw [e9], hW⟩) hL dX3_waitsOnItsOwn_32
    ·
      refine lv_if_eq (tgt := 23) hx hb dX3_waitsOnItsOwn_16 (by decide) (fun c2 => ?_) (fun c2 => ?_)
      ·
        refine lv_iconst (v := 5) hx hb dX3_waitsOnItsOwn_23 (by decide) ?_
        have e9 : (j_X3_waitsOnItsOwn_24 D i mi) = 5 := by unfold j_X3_waitsOnItsOwn_24; first | done | (simp only [if_pos c2]; done) | rfl
        exact join24 _ _ _ _ (by rw [e9]; exact ⟨hW, hL, lv_sub hl [0, 1] rfl, rfl⟩)
      ·
        refine lv_iconst (v := 0) hx hb dX3_waitsOnItsOwn_19 (by decide) ?_
        refine lv_goto (tgt := 24) hx hb dX3_waitsOnItsOwn_20 (by decide) ?_
        have e9 : (j_X3_waitsOnItsOwn_24 D i mi) = 0 := by unfold j_X3_waitsOnItsOwn_24; first | done | (simp only [if_neg c2]; done) | rfl
        exact join24 _ _ _ _ (by rw [e9]; exact ⟨hW, hL, lv_sub hl [0, 1] rfl, rfl⟩)
def s_X3_waitOwedBy (D : KD) (i : Nat) (de : Int32) : KD := (if de = (-2) then k_d (k_d (k_d D 4 i 8 ((D 4 i 8) + 1)) 4 i 12 de) 4 i 9 ((D 4 i 9) + 1) else (if (de + 1) < 0 then k_d (k_d D 4 i 8 ((D 4 i 8) + 1)) 4 i 12 de else (if (de + 1) ≥ 9 then k_d (k_d D 4 i 8 ((D 4 i 8) + 1)) 4 i 12 de else k_d (k_d (k_d D 4 i 8 ((D 4 i 8) + 1)) 4 i 12 de) 7 i ((de + 1).toNatClampNeg) ((D 7 i ((de + 1).toNatClampNeg)) + 1))))
set_option maxHeartbeats 4000000 in
set_option maxRecDepth 100000 in
theorem c_X3_waitOwedBy (X : kX) (l : Launch) {n : Nat → Nat → Nat} {ad L : Nat → Nat → Nat → Nat} {C : Nat → Nat → Nat → Nat → Int32} {fr : Nat → Option Cell} {g : Nat} {nl nt ng : Nat} (hd : kDk n g nl nt ng) (D : KD) (i : Nat) (h_i : i < nl) (de : Int32) : k_M X l yX3_waitOwedBy wsX3_waitOwedBy ({ frames := 1, cells := 0, slots := 0, locals := 12 }) [.ref (ad g 4 i), .int de] (k_W X n ad L (k_g C g D) fr) (fun v H => v = none ∧ k_W X n ad L (k_g C g (s_X3_waitOwedBy D i de)) fr H) 0 0 := by
  refine k_M.of (cc := cX3_waitOwedBy) (maxL := 3) (ret := none) (by decide) rfl (Nat.le_of_ble_eq_true rfl) ?_
  intro p e s m args below meth c ls hx hb hr hml hown hts hlocks hnm hK hW hl
  have hL : ∀ q ∈ ([] : List Loc), k_B X ≤ q.base := fun _ h => nomatch h
  have hl : lv_has ls 3 [(0, .ref (ad g 4 i)), (1, .int de)] := hl
  have fX3 : ∀ w ∈ u_ws RX3 TX3 15, w.before args s = true := fun w h => hts w ((by decide +kernel : ∀ w ∈ u_ws RX3 TX3 15, w ∈ wsX3_waitOwedBy) w h)
  have hl8 := hd.l8
  have ht16 := hd.t16
  have hg4 := hd.g4
  refine lv_aload_n hx hb dX3_waitOwedBy_0 rfl (lv_at hl 0 rfl) ?_
  refine lv_dup hx hb dX3_waitOwedBy_1 rfl ?_
  refine k_get (K := RX3) (T := TX3) (N := 15) (v := .int (D 4 i 8)) (w := .int (D 4 i 8)) hx hb fX3 hown hK hW 4 i (hd.lo h_i) (fun _ => rfl) rfl 8 (by decide) (hts (.fieldLink RX3 48 "Crossdockery$Lorry" "waited" "I") (by decide +kernel)) rfl rfl rfl dX3_waitOwedBy_2 ?_
  refine lv_iconst (v := 1) hx hb dX3_waitOwedBy_5 (by decide) ?_
  refine lv_iadd hx hb dX3_waitOwedBy_6 ?_
  refine k_put (K := RX3) (T := TX3) (N := 15) (x := ((D 4 i 8) + 1)) hx hb fX3 tyX3 tyX3_ok nmX3 hown hK hW hL 4 i (hd.lo h_i) (fun _ => rfl) rfl 8 (by decide) (hts (.fieldLink RX3 48 "Crossdockery$Lorry" "waited" "I") (by decide +kernel)) rfl rfl rfl rfl (fun _ => Nat.le_of_ble_eq_true rfl) (fun _ _ => rfl) dX3_waitOwedBy_7 (fun H locs hW hL => ?_)
  refine lv_aload_n hx hb dX3_waitOwedBy_10 rfl (lv_at hl 0 rfl) ?_
  refine lv_iload_n hx hb dX3_waitOwedBy_11 rfl (lv_at hl 1 rfl) ?_
  refine k_put (K := RX3) (T := TX3) (N := 15) (x := de) hx hb fX3 tyX3 tyX3_ok nmX3 hown hK hW hL 4 i (hd.lo h_i) (fun _ => rfl) rfl 12 (by decide) (hts (.fieldLink RX3 19 "Crossdockery$Lorry" "lastDebtor" "I") (by decide +kernel)) rfl rfl rfl rfl (fun _ => Nat.le_of_ble_eq_true rfl) (fun _ _ => rfl) dX3_waitOwedBy_12 (fun H locs hW hL => ?_)
  refine lv_iload_n hx hb dX3_waitOwedBy_15 rfl (lv_at hl 1 rfl) ?_
  refine lv_iconst (v := 1) hx hb dX3_waitOwedBy_16 (by decide) ?_
  refine lv_iadd hx hb dX3_waitOwedBy_17 ?_
  refine lv_istore_n (lv' := [(2, .int (de + 1)), (0, .ref (ad g 4 i)), (1, .int de)]) hx hb dX3_waitOwedBy_18 rfl hl (by decide) rfl (fun ls hl => ?_)
  refine lv_iload_n hx hb dX3_waitOwedBy_19 rfl (lv_at hl 2 rfl) ?_
  refine lv_bipush (v := (-2)) hx hb dX3_waitOwedBy_20 (by decide) ?_
  refine lv_icmp_ne (tgt := 38) hx hb dX3_waitOwedBy_22 (by decide) (fun c1 => ?_) (fun c1 => ?_)
  ·
    refine lv_iload_n hx hb dX3_waitOwedBy_38 rfl (lv_at hl 0 rfl) ?_
    refine lv_if_lt (tgt := 61) hx hb dX3_waitOwedBy_39 (by decide) (fun c2 => ?_) (fun c2 => ?_)
    ·
      have e9 : (s_X3_waitOwedBy D i de) = k_d (k_d D 4 i 8 ((D 4 i 8) + 1)) 4 i 12 de := by unfold s_X3_waitOwedBy; first | done | (simp only [if_neg c1, if_pos c2]; done) | rfl
      exact k_vret hx hb hr hlocks (⟨rfl, by rw [e9]; exact hW⟩) hL dX3_waitOwedBy_61
    ·
      refine lv_iload_n hx hb dX3_waitOwedBy_42 rfl (lv_at hl 0 rfl) ?_
      refine lv_aload_n hx hb dX3_waitOwedBy_43 rfl (lv_at hl 1 rfl) ?_
      refine k_get (K := RX3) (T := TX3) (N := 15) (v := .ref (ad g 7 i)) (w := .ref (ad g 7 i)) hx hb fX3 hown hK hW 4 i (hd.lo h_i) (fun _ => rfl) rfl 14 (by decide) (hts (.fieldLink RX3 25 "Crossdockery$Lorry" "minutesOf" "[I") (by decide +kernel)) rfl rfl rfl dX3_waitOwedBy_44 ?_
      refine k_alen (t0 := 0) (v := 9) hx hb hK hW 7 i (hd.mi h_i) (fun _ => rfl) rfl rfl dX3_waitOwedBy_47 ?_
      refine lv_icmp_ge (tgt := 61) hx hb dX3_waitOwedBy_48 (by decide) (fun c3 => ?_) (fun c3 => ?_)
      ·
        have e9 : (s_X3_waitOwedBy D i de) = k_d (k_d D 4 i 8 ((D 4 i 8) + 1)) 4 i 12 de := by unfold s_X3_waitOwedBy; first | done | (simp only [if_neg c1, if_neg c2, if_pos c3]; done) | rfl
        exact k_vret hx hb hr hlocks (⟨rfl, by rw [e9]; exact hW⟩) hL dX3_waitOwedBy_61
      ·
        have hin_1 := vp_in_of_nge (N := 9) (by decide) c2 (show ¬ (de + 1) ≥ nI 9 from c3)
        refine lv_aload_n hx hb dX3_waitOwedBy_51 rfl (lv_at hl 1 rfl) ?_
        refine k_get (K := RX3) (T := TX3) (N := 15) (v := .ref (ad g 7 i)) (w := .ref (ad g 7 i)) hx hb fX3 hown hK hW 4 i (hd.lo h_i) (fun _ => rfl) rfl 14 (by decide) (hts (.fieldLink RX3 25 "Crossdockery$Lorry" "minutesOf" "[I") (by decide +kernel)) rfl rfl rfl dX3_waitOwedBy_52 ?_
        refine lv_iload_n hx hb dX3_waitOwedBy_55 rfl (lv_at hl 0 rfl) ?_
        refine lv_dup2_11 hx hb dX3_waitOwedBy_56 rfl rfl ?_
        refine k_iald (z := 9) (k := ((de + 1).toNatClampNeg)) hx hb hK hW 7 i (hd.mi h_i) (fun _ => rfl) rfl hin_1 (v := (D 7 i ((de + 1).toNatClampNeg))) ((k_dr rfl).trans (k_dr rfl)) dX3_waitOwedBy_57 ?_
        refine lv_iconst (v := 1) hx hb dX3_waitOwedBy_58 (by decide) ?_
        refine lv_iadd hx hb dX3_waitOwedBy_59 ?_
        refine k_iast (z := 9) (k := ((de + 1).toNatClampNeg)) hx hb hK hW hL 7 i (hd.mi h_i) (fun _ => rfl) rfl hin_1 dX3_waitOwedBy_60 (fun H locs hW hL => ?_)
        have e9 : (s_X3_waitOwedBy D i de) = k_d (k_d (k_d D 4 i 8 ((D 4 i 8) + 1)) 4 i 12 de) 7 i ((de + 1).toNatClampNeg) ((D 7 i ((de + 1).toNatClampNeg)) + 1) := by unfold s_X3_waitOwedBy; first | done | (simp only [if_neg c1, if_neg c2, if_neg c3]; done) | rfl
        exact k_vret hx hb hr hlocks (⟨rfl, by rw [e9]; exact hW⟩) hL dX3_waitOwedBy_61
  ·
    refine lv_aload_n hx hb dX3_waitOwedBy_25 rfl (lv_at hl 1 rfl) ?_
    refine lv_dup hx hb dX3_waitOwedBy_26 rfl ?_
    refine k_get (K := RX3) (T := TX3) (N := 15) (v := .int ((k_d (k_d D 4 i 8 ((D 4 i 8) + 1)) 4 i 12 de) 4 i 9)) (w := .int (D 4 i 9)) hx hb fX3 hown hK hW 4 i (hd.lo h_i) (fun _ => rfl) rfl 9 (by decide) (hts (.fieldLink RX3 51 "Crossdockery$Lorry" "own" "I") (by decide +kernel)) rfl rfl (congrArg Value.int ((k_dk rfl).trans (k_dk rfl))) dX3_waitOwedBy_27 ?_
    refine lv_iconst (v := 1) hx hb dX3_waitOwedBy_30 (by decide) ?_
    refine lv_iadd hx hb dX3_waitOwedBy_31 ?_
    refine k_put (K := RX3) (T := TX3) (N := 15) (x := ((D 4 i 9) + 1)) hx hb fX3 tyX3 tyX3_ok nmX3 hown hK hW hL 4 i (hd.lo h_i) (fun _ => rfl) rfl 9 (by decide) (hts (.fieldLink RX3 51 "Crossdockery$Lorry" "own" "I") (by decide +kernel)) rfl rfl rfl rfl (fun _ => Nat.le_of_ble_eq_true rfl) (fun _ _ => rfl) dX3_waitOwedBy_32 (fun H locs hW hL => ?_)
    refine lv_goto (tgt := 61) hx hb dX3_waitOwedBy_35 (by decide) ?_
    have e9 : (s_X3_waitOwedBy D i de) = k_d (k_d (k_d D 4 i 8 ((D 4 i 8) + 1)) 4 i 12 de) 4 i 9 ((D 4 i 9) + 1) := by unfold s_X3_waitOwedBy; first | done | (simp only [if_pos c1]; done) | rfl
    exact k_vret hx hb hr hlocks (⟨rfl, by rw [e9]; exact hW⟩) hL dX3_waitOwedBy_61
theorem cWF_X3_waitOwedBy {D : KD} {nl nt ng : Nat} (h : cWF D nl nt) (i : Nat) (de : Int32) : cWF (s_X3_waitOwedBy D i de) nl nt := by
  unfold s_X3_waitOwedBy
  repeat' split
  all_goals repeat (first | exact h | refine cWF.put ?_ ⟨by decide, Or.inl (by decide)⟩ | refine cWF.put ?_ ⟨by decide, Or.inr (by decide)⟩)
def s_X3_minutesFrom (D : KD) (i : Nat) (de : Int32) : Int32 := (if (de + 1) < 0 then 0 else (if (de + 1) ≥ 9 then 0 else D 7 i ((de + 1).toNatClampNeg)))
set_option maxHeartbeats 4000000 in
set_option maxRecDepth 100000 in
theorem c_X3_minutesFrom (X : kX) (l : Launch) {n : Nat → Nat → Nat} {ad L : Nat → Nat → Nat → Nat} {C : Nat → Nat → Nat → Nat → Int32} {fr : Nat → Option Cell} {g : Nat} {nl nt ng : Nat} (hd : kDk n g nl nt ng) (D : KD) (i : Nat) (h_i : i < nl) (de : Int32) : k_M X l yX3_minutesFrom wsX3_minutesFrom ({ frames := 1, cells := 0, slots := 0, locals := 12 }) [.ref (ad g 4 i), .int de] (k_W X n ad L (k_g C g D) fr) (fun v H => v = some (.int (s_X3_minutesFrom D i de)) ∧ k_W X n ad L (k_g C g D) fr H) 0 0 := by
  refine k_M.of (cc := cX3_minutesFrom) (maxL := 3) (ret := (some .int)) (by decide) rfl (Nat.le_of_ble_eq_true rfl) ?_
  intro p e s m args below meth c ls hx hb hr hml hown hts hlocks hnm hK hW hl
  have hL : ∀ q ∈ ([] : List Loc), k_B X ≤ q.base := fun _ h => nomatch h
  have hl : lv_has ls 3 [(0, .ref (ad g 4 i)), (1, .int de)] := hl
  have fX3 : ∀ w ∈ u_ws RX3 TX3 15, w.before args s = true := fun w h => hts w ((by decide +kernel : ∀ w ∈ u_ws RX3 TX3 15, w ∈ wsX3_minutesFrom) w h)
  have hl8 := hd.l8
  have ht16 := hd.t16
  have hg4 := hd.g4
  refine lv_iload_n hx hb dX3_minutesFrom_0 rfl (lv_at hl 1 rfl) ?_
  refine lv_iconst (v := 1) hx hb dX3_minutesFrom_1 (by decide) ?_
  refine lv_iadd hx hb dX3_minutesFrom_2 ?_
  refine lv_istore_n (lv' := [(2, .int (de + 1)), (0, .ref (ad g 4 i)), (1, .int de)]) hx hb dX3_minutesFrom_3 rfl hl (by decide) rfl (fun ls hl => ?_)
  refine lv_iload_n hx hb dX3_minutesFrom_4 rfl (lv_at hl 0 rfl) ?_
  refine lv_if_lt (tgt := 26) hx hb dX3_minutesFrom_5 (by decide) (fun c1 => ?_) (fun c1 => ?_)
  ·
    refine lv_iconst (v := 0) hx hb dX3_minutesFrom_26 (by decide) ?_
    have e9 : (s_X3_minutesFrom D i de) = 0 := by unfold s_X3_minutesFrom; first | done | (simp only [if_pos c1]; done) | rfl
    exact k_iret hx hb hr hlocks (⟨by rw [e9], hW⟩) hL dX3_minutesFrom_27
  ·
    refine lv_iload_n hx hb dX3_minutesFrom_8 rfl (lv_at hl 0 rfl) ?_
    refine lv_aload_n hx hb dX3_minutesFrom_9 rfl (lv_at hl 1 rfl) ?_
    refine k_get (K := RX3) (T := TX3) (N := 15) (v := .ref (ad g 7 i)) (w := .ref (ad g 7 i)) hx hb fX3 hown hK hW 4 i (hd.lo h_i) (fun _ => rfl) rfl 14 (by decide) (hts (.fieldLink RX3 25 "Crossdockery$Lorry" "minutesOf" "[I") (by decide +kernel)) rfl rfl rfl dX3_minutesFrom_10 ?_
    refine k_alen (t0 := 0) (v := 9) hx hb hK hW 7 i (hd.mi h_i) (fun _ => rfl) rfl rfl dX3_minutesFrom_13 ?_
    refine lv_icmp_ge (tgt := 26) hx hb dX3_minutesFrom_14 (by decide) (fun c2 => ?_) (fun c2 => ?_)
    ·
      refine lv_iconst (v := 0) hx hb dX3_minutesFrom_26 (by decide) ?_
      have e9 : (s_X3_minutesFrom D i de) = 0 := by unfold s_X3_minutesFrom; first | done | (simp only [if_neg c1, if_pos c2]; done) | rfl
      exact k_iret hx hb hr hlocks (⟨by rw [e9], hW⟩) hL dX3_minutesFrom_27
    ·
      have hin_1 := vp_in_of_nge (N := 9) (by decide) c1 (show ¬ (de + 1) ≥ nI 9 from c2)
      refine lv_aload_n hx hb dX3_minutesFrom_17 rfl (lv_at hl 1 rfl) ?_
      refine k_get (K := RX3) (T := TX3) (N := 15) (v := .ref (ad g 7 i)) (w := .ref (ad g 7 i)) hx hb fX3 hown hK hW 4 i (hd.lo h_i) (fun _ => rfl) rfl 14 (by decide) (hts (.fieldLink RX3 25 "Crossdockery$Lorry" "minutesOf" "[I") (by decide +kernel)) rfl rfl rfl dX3_minutesFrom_18 ?_
      refine lv_iload_n hx hb dX3_minutesFrom_21 rfl (lv_at hl 0 rfl) ?_
      refine k_iald (z := 9) (k := ((de + 1).toNatClampNeg)) hx hb hK hW 7 i (hd.mi h_i) (fun _ => rfl) rfl hin_1 (v := (D 7 i ((de + 1).toNatClampNeg))) rfl dX3_minutesFrom_22 ?_
      refine lv_goto (tgt := 27) hx hb dX3_minutesFrom_23 (by decide) ?_
      have e9 : (s_X3_minutesFrom D i de) = D 7 i ((de + 1).toNatClampNeg) := by unfold s_X3_minutesFrom; first | done | (simp only [if_neg c1, if_neg c2]; done) | rfl
      exact k_iret hx hb hr hlocks (⟨by rw [e9], hW⟩) hL dX3_minutesFrom_27
def s_X3_centsFrom (D : KD) (i : Nat) (de : Int32) : Int32 := (s_X3_minutesFrom D i de) * (D 4 i 3)
set_option maxHeartbeats 4000000 in
set_option maxRecDepth 100000 in
theorem c_X3_centsFrom (X : kX) (l : Launch) {n : Nat → Nat → Nat} {ad L : Nat → Nat → Nat → Nat} {C : Nat → Nat → Nat → Nat → Int32} {fr : Nat → Option Cell} {g : Nat} {nl nt ng : Nat} (hd : kDk n g nl nt ng) (D : KD) (i : Nat) (h_i : i < nl) (de : Int32) : k_M X l yX3_centsFrom wsX3_centsFrom ({ frames := 2, cells := 0, slots := 0, locals := 34 }) [.ref (ad g 4 i), .int de] (k_W X n ad L (k_g C g D) fr) (fun v H => v = some (.int (s_X3_centsFrom D i de)) ∧ k_W X n ad L (k_g C g D) fr H) 0 0 := by
  refine k_M.of (cc := cX3_centsFrom) (maxL := 2) (ret := (some .int)) (by decide) rfl (Nat.le_of_ble_eq_true rfl) ?_
  intro p e s m args below meth c ls hx hb hr hml hown hts hlocks hnm hK hW hl
  have hL : ∀ q ∈ ([] : List Loc), k_B X ≤ q.base := fun _ h => nomatch h
  have hl : lv_has ls 2 [(0, .ref (ad g 4 i)), (1, .int de)] := hl
  have fX3 : ∀ w ∈ u_ws RX3 TX3 15, w.before args s = true := fun w h => hts w ((by decide +kernel : ∀ w ∈ u_ws RX3 TX3 15, w ∈ wsX3_centsFrom) w h)
  have hl8 := hd.l8
  have ht16 := hd.t16
  have hg4 := hd.g4
  refine lv_aload_n hx hb dX3_centsFrom_0 rfl (lv_at hl 0 rfl) ?_
  refine lv_iload_n hx hb dX3_centsFrom_1 rfl (lv_at hl 1 rfl) ?_
  refine k_callV (As := [.int de]) (rest := []) ⟨hx, hb, hml, hown, hts⟩ hK (c_X3_minutesFrom X l hd D i h_i de) (cwV 1 hts gX3_centsFrom_X3_minutesFrom rfl rfl rfl (by decide +kernel) ⟨Nat.le_of_ble_eq_true rfl, Nat.le_of_ble_eq_true rfl⟩) (k_recv hK hW 4 i (hd.lo h_i) (fun _ => rfl) rfl) hW rfl hl.1 rfl (Nat.le_of_ble_eq_true rfl) dX3_centsFrom_2 ⟨Nat.le_of_ble_eq_true rfl, Nat.le_of_ble_eq_true rfl⟩ hL (fun v9 H locs hp hL => ?_)
  obtain ⟨rfl, hW⟩ := hp
  refine lv_aload_n hx hb dX3_centsFrom_5 rfl (lv_at hl 0 rfl) ?_
  refine k_get (K := RX3) (T := TX3) (N := 15) (v := .int (D 4 i 3)) (w := .int (D 4 i 3)) hx hb fX3 hown hK hW 4 i (hd.lo h_i) (fun _ => rfl) rfl 3 (by decide) (hts (.fieldLink RX3 39 "Crossdockery$Lorry" "rate" "I") (by decide +kernel)) rfl rfl rfl dX3_centsFrom_6 ?_
  refine lv_imul hx hb dX3_centsFrom_9 ?_
  have e9 : (s_X3_centsFrom D i de) = (s_X3_minutesFrom D i de) * (D 4 i 3) := by unfold s_X3_centsFrom; first | done | rfl
  exact k_iret hx hb hr hlocks (⟨by rw [e9], hW⟩) hL dX3_centsFrom_10
def f_X3_owedMinutes_13 (D : KD) (i : Nat) (k13 : Nat) (z13 : Int32) : Int32 := (z13 + (D 7 i k13))
def l_X3_owedMinutes_13 (D : KD) (i : Nat) : Int32 := it (f_X3_owedMinutes_13 D i) 9 0
def s_X3_owedMinutes (D : KD) (i : Nat) : Int32 := (l_X3_owedMinutes_13 D i)
set_option maxHeartbeats 4000000 in
set_option maxRecDepth 100000 in
theorem c_X3_owedMinutes (X : kX) (l : Launch) {n : Nat → Nat → Nat} {ad L : Nat → Nat → Nat → Nat} {C : Nat → Nat → Nat → Nat → Int32} {fr : Nat → Option Cell} {g : Nat} {nl nt ng : Nat} (hd : kDk n g nl nt ng) (D : KD) (i : Nat) (h_i : i < nl) : k_M X l yX3_owedMinutes wsX3_owedMinutes ({ frames := 1, cells := 0, slots := 0, locals := 12 }) [.ref (ad g 4 i)] (k_W X n ad L (k_g C g D) fr) (fun v H => v = some (.int (s_X3_owedMinutes D i)) ∧ k_W X n ad L (k_g C g D) fr H) 0 0 := by
  refine k_M.of (cc := cX3_owedMinutes) (maxL := 6) (ret := (some .int)) (by decide) rfl (Nat.le_of_ble_eq_true rfl) ?_
  intro p e s m args below meth c ls hx hb hr hml hown hts hlocks hnm hK hW hl
  have hL : ∀ q ∈ ([] : List Loc), k_B X ≤ q.base := fun _ h => nomatch h
  have hl : lv_has ls 6 [(0, .ref (ad g 4 i))] := hl
  have fX3 : ∀ w ∈ u_ws RX3 TX3 15, w.before args s = true := fun w h => hts w ((by decide +kernel : ∀ w ∈ u_ws RX3 TX3 15, w ∈ wsX3_owedMinutes) w h)
  have hl8 := hd.l8
  have ht16 := hd.t16
  have hg4 := hd.g4
  refine lv_iconst (v := 0) hx hb dX3_owedMinutes_0 (by decide) ?_
  refine lv_istore_n (lv' := [(1, .int 0), (0, .ref (ad g 4 i))]) hx hb dX3_owedMinutes_1 rfl hl (by decide) rfl (fun ls hl => ?_)
  refine lv_aload_n hx hb dX3_owedMinutes_2 rfl (lv_at hl 1 rfl) ?_
  refine k_get (K := RX3) (T := TX3) (N := 15) (v := .ref (ad g 7 i)) (w := .ref (ad g 7 i)) hx hb fX3 hown hK hW 4 i (hd.lo h_i) (fun _ => rfl) rfl 14 (by decide) (hts (.fieldLink RX3 25 "Crossdockery$Lorry" "minutesOf" "[I") (by decide +kernel)) rfl rfl rfl dX3_owedMinutes_3 ?_
  refine lv_astore_n (lv' := [(2, .ref (ad g 7 i)), (1, .int 0), (0, .ref (ad g 4 i))]) hx hb dX3_owedMinutes_6 rfl hl (by decide) rfl (fun ls hl => ?_)
  refine lv_aload_n hx hb dX3_owedMinutes_7 rfl (lv_at hl 0 rfl) ?_
  refine k_alen (t0 := 0) (v := 9) hx hb hK hW 7 i (hd.mi h_i) (fun _ => rfl) rfl rfl dX3_owedMinutes_8 ?_
  refine lv_istore_n (lv' := [(3, .int 9), (2, .ref (ad g 7 i)), (1, .int 0), (0, .ref (ad g 4 i))]) hx hb dX3_owedMinutes_9 rfl hl (by decide) rfl (fun ls hl => ?_)
  refine lv_iconst (v := 0) hx hb dX3_owedMinutes_10 (by decide) ?_
  refine lv_istore (lv' := [(4, .int 0), (3, .int 9), (2, .ref (ad g 7 i)), (1, .int 0), (0, .ref (ad g 4 i))]) hx hb dX3_owedMinutes_11 hl (by decide) rfl (fun ls hl => ?_)
  refine k_for (9) (fun k13 H locs ls => ∃ z13 : Int32, z13 = it (f_X3_owedMinutes_13 D i) k13 0 ∧ k_W X n ad L (k_g C g D) fr H ∧ (∀ q ∈ locs, k_B X ≤ q.base) ∧ lv_has ls 6 [(4, .int (nI k13)), (3, .int 9), (2, .ref (ad g 7 i)), (1, .int z13), (0, .ref (ad g 4 i))]) 0 ⟨0, rfl, hW, hL, lv_sub hl [0, 1, 2, 3, 4] rfl⟩ (Nat.zero_le _) (fun k13 hk13 ih13 H locs ls hI => ?_)
  obtain ⟨z13, hz13, hW, hL, hl⟩ := hI
  refine lv_iload hx hb dX3_owedMinutes_13 (lv_at hl 0 rfl) ?_
  refine lv_iload_n hx hb dX3_owedMinutes_15 rfl (lv_at hl 1 rfl) ?_
  refine lv_icmp_ge (tgt := 36) hx hb dX3_owedMinutes_16 (by decide) (fun c1 => ?_) (fun c1 => ?_)
  ·
    rw [show (9 : Int32) = nI 9 from rfl] at c1
    have hge13 := k_nI_ge (by omega) (by omega) c1
    obtain rfl : 9 = k13 := by omega
    replace hz13 : z13 = (l_X3_owedMinutes_13 D i) := hz13
    subst hz13
    have hl : lv_has ls 6 [(4, .int (nI 9)), (3, .int 9), (2, .ref (ad g 7 i)), (1, .int (l_X3_owedMinutes_13 D i)), (0, .ref (ad g 4 i))] := hl
    refine lv_iload_n hx hb dX3_owedMinutes_36 rfl (lv_at hl 3 rfl) ?_
    have e9 : (s_X3_owedMinutes D i) = (l_X3_owedMinutes_13 D i) := by unfold s_X3_owedMinutes; first | done | rfl
    exact k_iret hx hb hr hlocks (⟨by rw [e9], hW⟩) hL dX3_owedMinutes_37
  ·
    have hlt13 : k13 < 9 := k_nI_nge (by omega) (by omega) (by rw [show (9 : Int32) = nI 9 from rfl] at c1; exact c1)
    refine lv_aload_n hx hb dX3_owedMinutes_19 rfl (lv_at hl 2 rfl) ?_
    refine lv_iload hx hb dX3_owedMinutes_20 (lv_at hl 0 rfl) ?_
    refine k_iald (z := 9) (k := k13) hx hb hK hW 7 i (hd.mi h_i) (fun _ => rfl) (nI_clamp (by omega)) (vp_in_nI (by omega) (by decide)) (v := (D 7 i k13)) rfl dX3_owedMinutes_22 ?_
    refine lv_istore (lv' := [(5, .int (D 7 i k13)), (4, .int (nI k13)), (3, .int 9), (2, .ref (ad g 7 i)), (1, .int z13), (0, .ref (ad g 4 i))]) hx hb dX3_owedMinutes_23 hl (by decide) rfl (fun ls hl => ?_)
    refine lv_iload_n hx hb dX3_owedMinutes_25 rfl (lv_at hl 4 rfl) ?_
    refine lv_iload hx hb dX3_owedMinutes_26 (lv_at hl 0 rfl) ?_
    refine lv_iadd hx hb dX3_owedMinutes_28 ?_
    refine lv_istore_n (lv' := [(1, .int (z13 + (D 7 i k13))), (5, .int (D 7 i k13)), (4, .int (nI k13)), (3, .int 9), (2, .ref (ad g 7 i)), (0, .ref (ad g 4 i))]) hx hb dX3_owedMinutes_29 rfl hl (by decide) rfl (fun ls hl => ?_)
    refine lv_iinc (v := (nI (k13 + 1))) (k := 2) (lv' := [(4, .int (nI (k13 + 1))), (1, .int (z13 + (D 7 i k13))), (5, .int (D 7 i k13)), (3, .int 9), (2, .ref (ad g 7 i)), (0, .ref (ad g 4 i))]) hx hb dX3_owedMinutes_30 hl rfl (nI_1 _) (by decide) rfl (fun ls hl => ?_)
    refine lv_goto (tgt := 13) hx hb dX3_owedMinutes_33 (by decide) ?_
    have e9 : (f_X3_owedMinutes_13 D i) k13 z13 = (z13 + (D 7 i k13)) := by unfold f_X3_owedMinutes_13; first | done | rfl
    exact ih13 _ _ _ hlt13 ⟨(z13 + (D 7 i k13)), by rw [it_s, ← hz13, e9], hW, hL, lv_sub hl [0, 3, 4, 1, 5] rfl⟩
def s_X2_worksAt (D : KD) (i : Nat) (d : Int32) (mi : Int32) : Int32 := (if (D 6 i 3) = d then (if mi < (D 6 i 1) then 0 else (if mi ≥ (D 6 i 2) then 0 else 1)) else 0)
set_option maxHeartbeats 4000000 in
set_option maxRecDepth 100000 in
theorem c_X2_worksAt (X : kX) (l : Launch) {n : Nat → Nat → Nat} {ad L : Nat → Nat → Nat → Nat} {C : Nat → Nat → Nat → Nat → Int32} {fr : Nat → Option Cell} {g : Nat} {nl nt ng : Nat} (hd : kDk n g nl nt ng) (D : KD) (i : Nat) (h_i : i < ng) (d : Int32) (mi : Int32) : k_M X l yX2_worksAt wsX2_worksAt ({ frames := 1, cells := 0, slots := 0, locals := 12 }) [.ref (ad g 6 i), .int d, .int mi] (k_W X n ad L (k_g C g D) fr) (fun v H => v = some (.int (s_X2_worksAt D i d mi)) ∧ k_W X n ad L (k_g C g D) fr H) 0 0 := by
  refine k_M.of (cc := cX2_worksAt) (maxL := 3) (ret := (some .boolean)) (by decide) rfl (Nat.le_of_ble_eq_true rfl) ?_
  intro p e s m args below meth c ls hx hb hr hml hown hts hlocks hnm hK hW hl
  have hL : ∀ q ∈ ([] : List Loc), k_B X ≤ q.base := fun _ h => nomatch h
  have hl : lv_has ls 3 [(0, .ref (ad g 6 i)), (1, .int d), (2, .int mi)] := hl
  have fX2 : ∀ w ∈ u_ws RX2 TX2 4, w.before args s = true := fun w h => hts w ((by decide +kernel : ∀ w ∈ u_ws RX2 TX2 4, w ∈ wsX2_worksAt) w h)
  have hl8 := hd.l8
  have ht16 := hd.t16
  have hg4 := hd.g4
  refine lv_aload_n hx hb dX2_worksAt_0 rfl (lv_at hl 0 rfl) ?_
  refine k_get (K := RX2) (T := TX2) (N := 4) (v := .int (D 6 i 3)) (w := .int (D 6 i 3)) hx hb fX2 hown hK hW 6 i (hd.ga h_i) (fun _ => rfl) rfl 3 (by decide) (hts (.fieldLink RX2 9 "Crossdockery$Gang" "door" "I") (by decide +kernel)) rfl rfl rfl dX2_worksAt_1 ?_
  refine lv_iload_n hx hb dX2_worksAt_4 rfl (lv_at hl 1 rfl) ?_
  refine lv_icmp_ne (tgt := 28) hx hb dX2_worksAt_5 (by decide) (fun c1 => ?_) (fun c1 => ?_)
  ·
    refine lv_iconst (v := 0) hx hb dX2_worksAt_28 (by decide) ?_
    have e9 : (s_X2_worksAt D i d mi) = 0 := by unfold s_X2_worksAt; first | done | (simp only [if_neg c1]; done) | rfl
    exact k_zret hx hb hr (by decide) hlocks (⟨by rw [e9], hW⟩) hL dX2_worksAt_29
  ·
    refine lv_iload_n hx hb dX2_worksAt_8 rfl (lv_at hl 2 rfl) ?_
    refine lv_aload_n hx hb dX2_worksAt_9 rfl (lv_at hl 0 rfl) ?_
    refine k_get (K := RX2) (T := TX2) (N := 4) (v := .int (D 6 i 1)) (w := .int (D 6 i 1)) hx hb fX2 hown hK hW 6 i (hd.ga h_i) (fun _ => rfl) rfl 1 (by decide) (hts (.fieldLink RX2 18 "Crossdockery$Gang" "from" "I") (by decide +kernel)) rfl rfl rfl dX2_worksAt_10 ?_
    refine lv_icmp_lt (tgt := 28) hx hb dX2_worksAt_13 (by decide) (fun c2 => ?_) (fun c2 => ?_)
    ·
      refine lv_iconst (v := 0) hx hb dX2_worksAt_28 (by decide) ?_
      have e9 : (s_X2_worksAt D i d mi) = 0 := by unfold s_X2_worksAt; first | done | (simp only [if_pos c1, if_pos c2]; done) | rfl
      exact k_zret hx hb hr (by decide) hlocks (⟨by rw [e9], hW⟩) hL dX2_worksAt_29
    ·
      refine lv_iload_n hx hb dX2_worksAt_16 rfl (lv_at hl 2 rfl) ?_
      refine lv_aload_n hx hb dX2_worksAt_17 rfl (lv_at hl 0 rfl) ?_
      refine k_get (K := RX2) (T := TX2) (N := 4) (v := .int (D 6 i 2)) (w := .int (D 6 i 2)) hx hb fX2 hown hK hW 6 i (hd.ga h_i) (fun _ => rfl) rfl 2 (by decide) (hts (.fieldLink RX2 21 "Crossdockery$Gang" "to" "I") (by decide +kernel)) rfl rfl rfl dX2_worksAt_18 ?_
      refine lv_icmp_ge (tgt := 28) hx hb dX2_worksAt_21 (by decide) (fun c3 => ?_) (fun c3 => ?_)
      ·
        refine lv_iconst (v := 0) hx hb dX2_worksAt_28 (by decide) ?_
        have e9 : (s_X2_worksAt D i d mi) = 0 := by unfold s_X2_worksAt; first | done | (simp only [if_pos c1, if_neg c2, if_pos c3]; done) | rfl
        exact k_zret hx hb hr (by decide) hlocks (⟨by rw [e9], hW⟩) hL dX2_worksAt_29
      ·
        refine lv_iconst (v := 1) hx hb dX2_worksAt_24 (by decide) ?_
        refine lv_goto (tgt := 29) hx hb dX2_worksAt_25 (by decide) ?_
        have e9 : (s_X2_worksAt D i d mi) = 1 := by unfold s_X2_worksAt; first | done | (simp only [if_pos c1, if_neg c2, if_neg c3]; done) | rfl
        exact k_zret hx hb hr (by decide) hlocks (⟨by rw [e9], hW⟩) hL dX2_worksAt_29
def s_X2_moveTo (D : KD) (i : Nat) (d : Int32) : KD × Int32 := (k_d D 6 i 3 d, D 6 i 3)
set_option maxHeartbeats 4000000 in
set_option maxRecDepth 100000 in
theorem c_X2_moveTo (X : kX) (l : Launch) {n : Nat → Nat → Nat} {ad L : Nat → Nat → Nat → Nat} {C : Nat → Nat → Nat → Nat → Int32} {fr : Nat → Option Cell} {g : Nat} {nl nt ng : Nat} (hd : kDk n g nl nt ng) (D : KD) (i : Nat) (h_i : i < ng) (d : Int32) : k_M X l yX2_moveTo wsX2_moveTo ({ frames := 1, cells := 0, slots := 0, locals := 12 }) [.ref (ad g 6 i), .int d] (k_W X n ad L (k_g C g D) fr) (fun v H => v = some (.int ((s_X2_moveTo D i d).2)) ∧ k_W X n ad L (k_g C g ((s_X2_moveTo D i d).1)) fr H) 0 0 := by
  refine k_M.of (cc := cX2_moveTo) (maxL := 3) (ret := (some .int)) (by decide) rfl (Nat.le_of_ble_eq_true rfl) ?_
  intro p e s m args below meth c ls hx hb hr hml hown hts hlocks hnm hK hW hl
  have hL : ∀ q ∈ ([] : List Loc), k_B X ≤ q.base := fun _ h => nomatch h
  have hl : lv_has ls 3 [(0, .ref (ad g 6 i)), (1, .int d)] := hl
  have fX2 : ∀ w ∈ u_ws RX2 TX2 4, w.before args s = true := fun w h => hts w ((by decide +kernel : ∀ w ∈ u_ws RX2 TX2 4, w ∈ wsX2_moveTo) w h)
  have hl8 := hd.l8
  have ht16 := hd.t16
  have hg4 := hd.g4
  refine lv_aload_n hx hb dX2_moveTo_0 rfl (lv_at hl 0 rfl) ?_
  refine k_get (K := RX2) (T := TX2) (N := 4) (v := .int (D 6 i 3)) (w := .int (D 6 i 3)) hx hb fX2 hown hK hW 6 i (hd.ga h_i) (fun _ => rfl) rfl 3 (by decide) (hts (.fieldLink RX2 9 "Crossdockery$Gang" "door" "I") (by decide +kernel)) rfl rfl rfl dX2_moveTo_1 ?_
  refine lv_istore_n (lv' := [(2, .int (D 6 i 3)), (0, .ref (ad g 6 i)), (1, .int d)]) hx hb dX2_moveTo_4 rfl hl (by decide) rfl (fun ls hl => ?_)
  refine lv_aload_n hx hb dX2_moveTo_5 rfl (lv_at hl 1 rfl) ?_
  refine lv_iload_n hx hb dX2_moveTo_6 rfl (lv_at hl 2 rfl) ?_
  refine k_put (K := RX2) (T := TX2) (N := 4) (x := d) hx hb fX2 tyX2 tyX2_ok nmX2 hown hK hW hL 6 i (hd.ga h_i) (fun _ => rfl) rfl 3 (by decide) (hts (.fieldLink RX2 9 "Crossdockery$Gang" "door" "I") (by decide +kernel)) rfl rfl rfl rfl (fun _ => Nat.le_of_ble_eq_true rfl) (fun _ _ => rfl) dX2_moveTo_7 (fun H locs hW hL => ?_)
  refine lv_iload_n hx hb dX2_moveTo_10 rfl (lv_at hl 0 rfl) ?_
  have e9 : (s_X2_moveTo D i d) = (k_d D 6 i 3 d, D 6 i 3) := by unfold s_X2_moveTo; first | done | rfl
  exact k_iret hx hb hr hlocks (⟨by rw [e9], by rw [e9]; exact hW⟩) hL dX2_moveTo_11
theorem cWF_X2_moveTo {D : KD} {nl nt ng : Nat} (h : cWF D nl nt) (i : Nat) (d : Int32) : cWF (s_X2_moveTo D i d).1 nl nt := by
  unfold s_X2_moveTo
  repeat' split
  all_goals repeat (first | exact h | refine cWF.put ?_ ⟨by decide, Or.inl (by decide)⟩ | refine cWF.put ?_ ⟨by decide, Or.inr (by decide)⟩)
