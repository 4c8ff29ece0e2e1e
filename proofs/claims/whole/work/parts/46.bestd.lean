def s_X7_bestDoor (D : KD) (nl : Nat) (nt : Nat) (ng : Nat) (l0 : Int32) : KD × Int32 := (if (j_X7_noLorry_20 D l0) = 0 then (if (D 15 11 (l0.toNatClampNeg)) = 101 then ((s_X7_leastWays (k_d D 14 0 0 (j_X7_noLorry_20 D l0)) nl nt ng).1, ((s_X7_leastWays (k_d D 14 0 0 (j_X7_noLorry_20 D l0)) nl nt ng).1) 15 26 (l0.toNatClampNeg)) else (k_d (k_d D 14 0 0 (j_X7_noLorry_20 D l0)) 14 0 0 2, 0)) else (k_d D 14 0 0 (j_X7_noLorry_20 D l0), 0))
set_option maxHeartbeats 400000 in
set_option maxRecDepth 100000 in
theorem c_X7_bestDoor (X : kX) (l : Launch) {n : Nat → Nat → Nat} {ad L : Nat → Nat → Nat → Nat} {C : Nat → Nat → Nat → Nat → Int32} {fr : Nat → Option Cell} {g : Nat} (hm : k_mod n g) (D : KD) (l0 : Int32) {nl nt ng : Nat} (hwf : mWF D nl nt ng) : k_M X l yX7_bestDoor wsX7_bestDoor ({ frames := 3, cells := 0, slots := 0, locals := 59 }) [.ref (ad g 14 0), .int l0] (k_W X n ad L (k_g C g D) fr) (fun v H => v = some (.int ((s_X7_bestDoor D nl nt ng l0).2)) ∧ k_W X n ad L (k_g C g ((s_X7_bestDoor D nl nt ng l0).1)) fr H) 0 0 := by
  refine k_M.of (cc := cX7_bestDoor) (maxL := 3) (ret := (some .int)) (by decide) rfl (Nat.le_of_ble_eq_true rfl) ?_
  intro p e s m args below meth c ls hx hb hr hml hown hts hlocks hnm hK hW hl
  have hL : ∀ q ∈ ([] : List Loc), k_B X ≤ q.base := fun _ h => nomatch h
  have hl : lv_has ls 3 [(0, .ref (ad g 14 0)), (1, .int l0)] := hl
  have fX7 : ∀ w ∈ u_ws RX7 TX7 34, w.before args s = true := fun w h => hts w ((by decide +kernel : ∀ w ∈ u_ws RX7 TX7 34, w ∈ wsX7_bestDoor) w h)
  have hl8 := hwf.l8
  have ht16 := hwf.t16
  have hg4 := hwf.g4
  refine lv_aload_n hx hb dX7_bestDoor_0 rfl (lv_at hl 0 rfl) ?_
  refine lv_iload_n hx hb dX7_bestDoor_1 rfl (lv_at hl 1 rfl) ?_
  refine k_callV (As := [.int l0]) (rest := []) ⟨hx, hb, hml, hown, hts⟩ hK (c_X7_noLorry2 X l hm D l0) (cwV 1 hts gX7_bestDoor_X7_noLorry rfl rfl rfl (by decide +kernel) ⟨Nat.le_of_ble_eq_true rfl, Nat.le_of_ble_eq_true rfl⟩) (k_recv hK hW 14 0 hm.o (fun _ => rfl) rfl) hW rfl hl.1 rfl (Nat.le_of_ble_eq_true rfl) dX7_bestDoor_2 ⟨Nat.le_of_ble_eq_true rfl, Nat.le_of_ble_eq_true rfl⟩ hL (fun v9 H locs hp hL => ?_)
  obtain ⟨rfl, hW⟩ := hp
  refine lv_if_eq (tgt := 10) hx hb dX7_bestDoor_5 (by decide) (fun c1 => ?_) (fun c1 => ?_)
  ·
    have hin_l0 := mNoL_in hwf c1
    refine lv_aload_n hx hb dX7_bestDoor_10 rfl (lv_at hl 0 rfl) ?_
    refine k_get (K := RX7) (T := TX7) (N := 34) (v := .ref (ad g 15 11)) (w := .ref (ad g 15 11)) hx hb fX7 hown hK hW 14 0 hm.o (fun _ => rfl) rfl 18 (by decide) (hts (.fieldLink RX7 44 "CrossdockeryModel" "state" "[C") (by decide +kernel)) rfl rfl rfl dX7_bestDoor_11 ?_
    refine lv_iload_n hx hb dX7_bestDoor_14 rfl (lv_at hl 1 rfl) ?_
    refine k_cald (z := 8) (k := (l0.toNatClampNeg)) hx hb hK hW 15 11 (hm.a (i := 11) (by decide)) (fun _ => rfl) rfl (hin_l0.mono (by omega)) (v := (D 15 11 (l0.toNatClampNeg))) (k_dr rfl) dX7_bestDoor_15 ?_
    refine lv_bipush (v := 101) hx hb dX7_bestDoor_16 (by decide) ?_
    refine lv_icmp_eq (tgt := 27) hx hb dX7_bestDoor_18 (by decide) (fun c2 => ?_) (fun c2 => ?_)
    ·
      refine lv_aload_n hx hb dX7_bestDoor_27 rfl (lv_at hl 0 rfl) ?_
      refine k_callV (As := []) (rest := []) ⟨hx, hb, hml, hown, hts⟩ hK (c_X7_leastWays X l hm (k_d D 14 0 0 (j_X7_noLorry_20 D l0)) (hwf.put14 (by decide))) (cwV 0 hts gX7_bestDoor_X7_leastWays rfl rfl rfl (by decide +kernel) ⟨Nat.le_of_ble_eq_true rfl, Nat.le_of_ble_eq_true rfl⟩) (k_recv hK hW 14 0 hm.o (fun _ => rfl) rfl) hW rfl hl.1 rfl (Nat.le_of_ble_eq_true rfl) dX7_bestDoor_28 ⟨Nat.le_of_ble_eq_true rfl, Nat.le_of_ble_eq_true rfl⟩ hL (fun v9 H locs hp hL => ?_)
      obtain ⟨rfl, hW⟩ := hp
      refine lv_istore_n (lv' := [(2, .int ((s_X7_leastWays (k_d D 14 0 0 (j_X7_noLorry_20 D l0)) nl nt ng).2)), (0, .ref (ad g 14 0)), (1, .int l0)]) hx hb dX7_bestDoor_31 rfl hl (by decide) rfl (fun ls hl => ?_)
      refine lv_aload_n hx hb dX7_bestDoor_32 rfl (lv_at hl 1 rfl) ?_
      refine k_get (K := RX7) (T := TX7) (N := 34) (v := .ref (ad g 15 26)) (w := .ref (ad g 15 26)) hx hb fX7 hown hK hW 14 0 hm.o (fun _ => rfl) rfl 33 (by decide) (hts (.fieldLink RX7 90 "CrossdockeryModel" "bestPlan" "[I") (by decide +kernel)) rfl rfl rfl dX7_bestDoor_33 ?_
      refine lv_iload_n hx hb dX7_bestDoor_36 rfl (lv_at hl 2 rfl) ?_
      refine k_iald (z := 8) (k := (l0.toNatClampNeg)) hx hb hK hW 15 26 (hm.a (i := 26) (by decide)) (fun _ => rfl) rfl (hin_l0.mono (by omega)) (v := (((s_X7_leastWays (k_d D 14 0 0 (j_X7_noLorry_20 D l0)) nl nt ng).1) 15 26 (l0.toNatClampNeg))) rfl dX7_bestDoor_37 ?_
      have e9 : (s_X7_bestDoor D nl nt ng l0) = ((s_X7_leastWays (k_d D 14 0 0 (j_X7_noLorry_20 D l0)) nl nt ng).1, ((s_X7_leastWays (k_d D 14 0 0 (j_X7_noLorry_20 D l0)) nl nt ng).1) 15 26 (l0.toNatClampNeg)) := by unfold s_X7_bestDoor; first | done | (simp only [if_pos c1, if_pos c2]; done) | rfl
      exact k_iret hx hb hr hlocks (⟨by rw [e9], by rw [e9]; exact hW⟩) hL dX7_bestDoor_38
    ·
      refine lv_aload_n hx hb dX7_bestDoor_21 rfl (lv_at hl 0 rfl) ?_
      refine lv_iconst (v := 2) hx hb dX7_bestDoor_22 (by decide) ?_
      refine k_callV (As := [.int 2]) (rest := []) ⟨hx, hb, hml, hown, hts⟩ hK (c_X7_fail2 X l hm (k_d D 14 0 0 (j_X7_noLorry_20 D l0)) 2) (cwV 1 hts gX7_bestDoor_X7_fail rfl rfl rfl (by decide +kernel) ⟨Nat.le_of_ble_eq_true rfl, Nat.le_of_ble_eq_true rfl⟩) (k_recv hK hW 14 0 hm.o (fun _ => rfl) rfl) hW rfl hl.1 rfl (Nat.le_of_ble_eq_true rfl) dX7_bestDoor_23 ⟨Nat.le_of_ble_eq_true rfl, Nat.le_of_ble_eq_true rfl⟩ hL (fun v9 H locs hp hL => ?_)
      obtain ⟨rfl, hW⟩ := hp
      have e9 : (s_X7_bestDoor D nl nt ng l0) = (k_d (k_d D 14 0 0 (j_X7_noLorry_20 D l0)) 14 0 0 2, 0) := by unfold s_X7_bestDoor; first | done | (simp only [if_pos c1, if_neg c2]; done) | rfl
      exact k_iret hx hb hr hlocks (⟨by rw [e9], by rw [e9]; exact hW⟩) hL dX7_bestDoor_26
  ·
    refine lv_iconst (v := 0) hx hb dX7_bestDoor_8 (by decide) ?_
    have e9 : (s_X7_bestDoor D nl nt ng l0) = (k_d D 14 0 0 (j_X7_noLorry_20 D l0), 0) := by unfold s_X7_bestDoor; first | done | (simp only [if_neg c1]; done) | rfl
    exact k_iret hx hb hr hlocks (⟨by rw [e9], by rw [e9]; exact hW⟩) hL dX7_bestDoor_9
