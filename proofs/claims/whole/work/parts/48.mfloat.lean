def j_X7_meanWait_13 (D : KD) (nl : Nat) (nt : Nat) (ng : Nat) : Int32 := (if (D 14 0 1) = 0 then 1 else 0)
def f_X7_meanWait_29 (D : KD) (nl : Nat) (nt : Nat) (ng : Nat) (k29 : Nat) (z29 : Int32) : Int32 := (z29 + (D 15 6 k29))
def l_X7_meanWait_29 (D : KD) (nl : Nat) (nt : Nat) (ng : Nat) : Int32 := it (f_X7_meanWait_29 D nl nt ng) nl 0
def s_X7_meanWait (D : KD) (nl : Nat) (nt : Nat) (ng : Nat) : KD × UInt64 := (if (D 14 0 1) = 0 then (k_d D 14 0 0 (j_X7_meanWait_13 D nl nt ng), FP.dconst0) else (k_d D 14 0 0 (j_X7_meanWait_13 D nl nt ng), FP.ddiv (FP.i2d (l_X7_meanWait_29 D nl nt ng)) (FP.i2d (D 14 0 1))))
set_option maxHeartbeats 400000 in
set_option maxRecDepth 100000 in
theorem c_X7_meanWait (X : kX) (l : Launch) {n : Nat → Nat → Nat} {ad L : Nat → Nat → Nat → Nat} {C : Nat → Nat → Nat → Nat → Int32} {fr : Nat → Option Cell} {g : Nat} (hm : k_mod n g) (D : KD)  {nl nt ng : Nat} (hwf : mWF D nl nt ng) (hfp : kFP) : k_M X l yX7_meanWait wsX7_meanWait ({ frames := 1, cells := 0, slots := 0, locals := 12 }) [.ref (ad g 14 0)] (k_W X n ad L (k_g C g D) fr) (fun v H => v = some (.double ((s_X7_meanWait D nl nt ng).2)) ∧ k_W X n ad L (k_g C g ((s_X7_meanWait D nl nt ng).1)) fr H) 0 0 := by
  refine k_M.of (cc := cX7_meanWait) (maxL := 3) (ret := (some .double)) (by decide) rfl (Nat.le_of_ble_eq_true rfl) ?_
  intro p e s m args below meth c ls hx hb hr hml hown hts hlocks hnm hK hW hl
  have hL : ∀ q ∈ ([] : List Loc), k_B X ≤ q.base := fun _ h => nomatch h
  have hl : lv_has ls 3 [(0, .ref (ad g 14 0))] := hl
  have fX7 : ∀ w ∈ u_ws RX7 TX7 34, w.before args s = true := fun w h => hts w ((by decide +kernel : ∀ w ∈ u_ws RX7 TX7 34, w ∈ wsX7_meanWait) w h)
  have hl8 := hwf.l8
  have ht16 := hwf.t16
  have hg4 := hwf.g4
  refine lv_aload_n hx hb dX7_meanWait_0 rfl (lv_at hl 0 rfl) ?_
  refine lv_aload_n hx hb dX7_meanWait_1 rfl (lv_at hl 0 rfl) ?_
  refine k_get (K := RX7) (T := TX7) (N := 34) (v := .int (D 14 0 1)) (w := .int (D 14 0 1)) hx hb fX7 hown hK hW 14 0 hm.o (fun _ => rfl) rfl 1 (by decide) (hts (.fieldLink RX7 97 "CrossdockeryModel" "lorries" "I") (by decide +kernel)) rfl rfl rfl dX7_meanWait_2 ?_
  refine k_join (pc' := 13) (fun H locs ls st => k_W X n ad L (k_g C g D) fr H ∧ (∀ q ∈ locs, k_B X ≤ q.base) ∧ lv_has ls 3 [(0, .ref (ad g 14 0))] ∧ st = [.int (j_X7_meanWait_13 D nl nt ng), .ref (ad g 14 0)]) (fun H locs ls st hJ => ?_) (fun join13 => ?_)
  ·
    obtain ⟨hW, hL, hl, rfl⟩ := hJ
    refine k_put (K := RX7) (T := TX7) (N := 34) (x := (j_X7_meanWait_13 D nl nt ng)) hx hb fX7 tyX7 tyX7_ok nmX7 hown hK hW hL 14 0 hm.o (fun _ => rfl) rfl 0 (by decide) (hts (.fieldLink RX7 93 "CrossdockeryModel" "thrown" "I") (by decide +kernel)) rfl rfl rfl rfl (fun _ => Nat.le_of_ble_eq_true rfl) (fun _ _ => rfl) dX7_meanWait_13 (fun H locs hW hL => ?_)
    refine lv_aload_n hx hb dX7_meanWait_16 rfl (lv_at hl 0 rfl) ?_
    refine k_get (K := RX7) (T := TX7) (N := 34) (v := .int ((k_d D 14 0 0 (j_X7_meanWait_13 D nl nt ng)) 14 0 1)) (w := .int (D 14 0 1)) hx hb fX7 hown hK hW 14 0 hm.o (fun _ => rfl) rfl 1 (by decide) (hts (.fieldLink RX7 97 "CrossdockeryModel" "lorries" "I") (by decide +kernel)) rfl rfl (congrArg Value.int (k_dk rfl)) dX7_meanWait_17 ?_
    refine lv_if_ne (tgt := 25) hx hb dX7_meanWait_20 (by decide) (fun c2 => ?_) (fun c2 => ?_)
    ·
      refine lv_iconst (v := 0) hx hb dX7_meanWait_25 (by decide) ?_
      refine lv_istore_n (lv' := [(1, .int 0), (0, .ref (ad g 14 0))]) hx hb dX7_meanWait_26 rfl hl (by decide) rfl (fun ls hl => ?_)
      refine lv_iconst (v := 0) hx hb dX7_meanWait_27 (by decide) ?_
      refine lv_istore_n (lv' := [(2, .int 0), (1, .int 0), (0, .ref (ad g 14 0))]) hx hb dX7_meanWait_28 rfl hl (by decide) rfl (fun ls hl => ?_)
      refine k_for (nl) (fun k29 H locs ls => ∃ z29 : Int32, z29 = it (f_X7_meanWait_29 D nl nt ng) k29 0 ∧ k_W X n ad L (k_g C g (k_d D 14 0 0 (j_X7_meanWait_13 D nl nt ng))) fr H ∧ (∀ q ∈ locs, k_B X ≤ q.base) ∧ lv_has ls 3 [(2, .int (nI k29)), (1, .int z29), (0, .ref (ad g 14 0))]) 0 ⟨0, rfl, hW, hL, lv_sub hl [0, 1, 2] rfl⟩ (Nat.zero_le _) (fun k29 hk29 ih29 H locs ls hI => ?_)
      obtain ⟨z29, hz29, hW, hL, hl⟩ := hI
      refine lv_iload_n hx hb dX7_meanWait_29 rfl (lv_at hl 0 rfl) ?_
      refine lv_aload_n hx hb dX7_meanWait_30 rfl (lv_at hl 2 rfl) ?_
      refine k_get (K := RX7) (T := TX7) (N := 34) (v := .int ((k_d D 14 0 0 (j_X7_meanWait_13 D nl nt ng)) 14 0 1)) (w := .int (D 14 0 1)) hx hb fX7 hown hK hW 14 0 hm.o (fun _ => rfl) rfl 1 (by decide) (hts (.fieldLink RX7 97 "CrossdockeryModel" "lorries" "I") (by decide +kernel)) rfl rfl (congrArg Value.int (k_dk rfl)) dX7_meanWait_31 ?_
      refine lv_icmp_ge (tgt := 52) hx hb dX7_meanWait_34 (by decide) (fun c3 => ?_) (fun c3 => ?_)
      ·
        rw [hwf.l] at c3
        have hge29 := k_nI_ge (by omega) (by omega) c3
        obtain rfl : nl = k29 := by omega
        replace hz29 : z29 = (l_X7_meanWait_29 D nl nt ng) := hz29
        subst hz29
        have hl : lv_has ls 3 [(2, .int (nI nl)), (1, .int (l_X7_meanWait_29 D nl nt ng)), (0, .ref (ad g 14 0))] := hl
        refine lv_iload_n hx hb dX7_meanWait_52 rfl (lv_at hl 1 rfl) ?_
        refine lv_i2d hx hb dX7_meanWait_53 ?_
        refine lv_aload_n hx hb dX7_meanWait_54 rfl (lv_at hl 2 rfl) ?_
        refine k_get (K := RX7) (T := TX7) (N := 34) (v := .int ((k_d D 14 0 0 (j_X7_meanWait_13 D nl nt ng)) 14 0 1)) (w := .int (D 14 0 1)) hx hb fX7 hown hK hW 14 0 hm.o (fun _ => rfl) rfl 1 (by decide) (hts (.fieldLink RX7 97 "CrossdockeryModel" "lorries" "I") (by decide +kernel)) rfl rfl (congrArg Value.int (k_dk rfl)) dX7_meanWait_55 ?_
        refine lv_i2d hx hb dX7_meanWait_58 ?_
        refine lv_ddiv hx hb dX7_meanWait_59 (hfp.1 _ _ c2) ?_
        have e9 : (s_X7_meanWait D nl nt ng) = (k_d D 14 0 0 (j_X7_meanWait_13 D nl nt ng), FP.ddiv (FP.i2d (l_X7_meanWait_29 D nl nt ng)) (FP.i2d (D 14 0 1))) := by unfold s_X7_meanWait; first | done | (simp only [if_neg c2]; done) | rfl
        exact k_dret hx hb hr hlocks (⟨by rw [e9], by rw [e9]; exact hW⟩) hL dX7_meanWait_60
      ·
        have hlt29 : k29 < nl := k_nI_nge (by omega) (by omega) (by rw [hwf.l] at c3; exact c3)
        refine lv_iload_n hx hb dX7_meanWait_37 rfl (lv_at hl 1 rfl) ?_
        refine lv_aload_n hx hb dX7_meanWait_38 rfl (lv_at hl 2 rfl) ?_
        refine k_get (K := RX7) (T := TX7) (N := 34) (v := .ref (ad g 15 6)) (w := .ref (ad g 15 6)) hx hb fX7 hown hK hW 14 0 hm.o (fun _ => rfl) rfl 13 (by decide) (hts (.fieldLink RX7 29 "CrossdockeryModel" "waited" "[I") (by decide +kernel)) rfl rfl rfl dX7_meanWait_39 ?_
        refine lv_iload_n hx hb dX7_meanWait_42 rfl (lv_at hl 0 rfl) ?_
        refine k_iald (z := 8) (k := k29) hx hb hK hW 15 6 (hm.a (i := 6) (by decide)) (fun _ => rfl) (nI_clamp (by omega)) (vp_in_nI (by omega) (by decide)) (v := (D 15 6 k29)) (k_dr rfl) dX7_meanWait_43 ?_
        refine lv_iadd hx hb dX7_meanWait_44 ?_
        refine lv_istore_n (lv' := [(1, .int (z29 + (D 15 6 k29))), (2, .int (nI k29)), (0, .ref (ad g 14 0))]) hx hb dX7_meanWait_45 rfl hl (by decide) rfl (fun ls hl => ?_)
        refine lv_iinc (v := (nI (k29 + 1))) (k := 1) (lv' := [(2, .int (nI (k29 + 1))), (1, .int (z29 + (D 15 6 k29))), (0, .ref (ad g 14 0))]) hx hb dX7_meanWait_46 hl rfl (nI_1 _) (by decide) rfl (fun ls hl => ?_)
        refine lv_goto (tgt := 29) hx hb dX7_meanWait_49 (by decide) ?_
        have e9 : (f_X7_meanWait_29 D nl nt ng) k29 z29 = (z29 + (D 15 6 k29)) := by unfold f_X7_meanWait_29; first | done | rfl
        exact ih29 _ _ _ hlt29 ⟨(z29 + (D 15 6 k29)), by rw [it_s, ← hz29, e9], hW, hL, lv_sub hl [0, 1, 2] rfl⟩
    ·
      refine lv_dconst0 hx hb dX7_meanWait_23 ?_
      have e9 : (s_X7_meanWait D nl nt ng) = (k_d D 14 0 0 (j_X7_meanWait_13 D nl nt ng), FP.dconst0) := by unfold s_X7_meanWait; first | done | (simp only [if_pos c2]; done) | rfl
      exact k_dret hx hb hr hlocks (⟨by rw [e9], by rw [e9]; exact hW⟩) hL dX7_meanWait_24
  ·
    refine lv_if_ne (tgt := 12) hx hb dX7_meanWait_5 (by decide) (fun c1 => ?_) (fun c1 => ?_)
    ·
      refine lv_iconst (v := 0) hx hb dX7_meanWait_12 (by decide) ?_
      have e9 : (j_X7_meanWait_13 D nl nt ng) = 0 := by unfold j_X7_meanWait_13; first | done | (simp only [if_neg c1]; done) | rfl
      exact join13 _ _ _ _ (by rw [e9]; exact ⟨hW, hL, lv_sub hl [0] rfl, rfl⟩)
    ·
      refine lv_iconst (v := 1) hx hb dX7_meanWait_8 (by decide) ?_
      refine lv_goto (tgt := 13) hx hb dX7_meanWait_9 (by decide) ?_
      have e9 : (j_X7_meanWait_13 D nl nt ng) = 1 := by unfold j_X7_meanWait_13; first | done | (simp only [if_pos c1]; done) | rfl
      exact join13 _ _ _ _ (by rw [e9]; exact ⟨hW, hL, lv_sub hl [0] rfl, rfl⟩)
def f_X7_dockShare_4 (D : KD) (nl : Nat) (nt : Nat) (ng : Nat) (k4 : Nat) (z4 : Int32) : Int32 := (z4 + (D 15 6 k4))
def l_X7_dockShare_4 (D : KD) (nl : Nat) (nt : Nat) (ng : Nat) : Int32 := it (f_X7_dockShare_4 D nl nt ng) nl 0
def j_X7_dockShare_37 (D : KD) (nl : Nat) (nt : Nat) (ng : Nat) : Int32 := (if (l_X7_dockShare_4 D nl nt ng) = 0 then 1 else 0)
def j_X7_dockShare_56 (D : KD) (nl : Nat) (nt : Nat) (ng : Nat) : UInt32 := (if (l_X7_dockShare_4 D nl nt ng) = 0 then FP.fconst0 else (FP.fdiv (FP.i2f (D 14 0 5)) (FP.i2f (l_X7_dockShare_4 D nl nt ng))))
def s_X7_dockShare (D : KD) (nl : Nat) (nt : Nat) (ng : Nat) : KD × UInt32 := (k_d D 14 0 0 (j_X7_dockShare_37 D nl nt ng), (j_X7_dockShare_56 D nl nt ng))
set_option maxHeartbeats 400000 in
set_option maxRecDepth 100000 in
theorem c_X7_dockShare (X : kX) (l : Launch) {n : Nat → Nat → Nat} {ad L : Nat → Nat → Nat → Nat} {C : Nat → Nat → Nat → Nat → Int32} {fr : Nat → Option Cell} {g : Nat} (hm : k_mod n g) (D : KD)  {nl nt ng : Nat} (hwf : mWF D nl nt ng) (hfp : kFP) : k_M X l yX7_dockShare wsX7_dockShare ({ frames := 1, cells := 0, slots := 0, locals := 12 }) [.ref (ad g 14 0)] (k_W X n ad L (k_g C g D) fr) (fun v H => v = some (.float ((s_X7_dockShare D nl nt ng).2)) ∧ k_W X n ad L (k_g C g ((s_X7_dockShare D nl nt ng).1)) fr H) 0 0 := by
  refine k_M.of (cc := cX7_dockShare) (maxL := 3) (ret := (some .float)) (by decide) rfl (Nat.le_of_ble_eq_true rfl) ?_
  intro p e s m args below meth c ls hx hb hr hml hown hts hlocks hnm hK hW hl
  have hL : ∀ q ∈ ([] : List Loc), k_B X ≤ q.base := fun _ h => nomatch h
  have hl : lv_has ls 3 [(0, .ref (ad g 14 0))] := hl
  have fX7 : ∀ w ∈ u_ws RX7 TX7 34, w.before args s = true := fun w h => hts w ((by decide +kernel : ∀ w ∈ u_ws RX7 TX7 34, w ∈ wsX7_dockShare) w h)
  have hl8 := hwf.l8
  have ht16 := hwf.t16
  have hg4 := hwf.g4
  refine lv_iconst (v := 0) hx hb dX7_dockShare_0 (by decide) ?_
  refine lv_istore_n (lv' := [(1, .int 0), (0, .ref (ad g 14 0))]) hx hb dX7_dockShare_1 rfl hl (by decide) rfl (fun ls hl => ?_)
  refine lv_iconst (v := 0) hx hb dX7_dockShare_2 (by decide) ?_
  refine lv_istore_n (lv' := [(2, .int 0), (1, .int 0), (0, .ref (ad g 14 0))]) hx hb dX7_dockShare_3 rfl hl (by decide) rfl (fun ls hl => ?_)
  refine k_for (nl) (fun k4 H locs ls => ∃ z4 : Int32, z4 = it (f_X7_dockShare_4 D nl nt ng) k4 0 ∧ k_W X n ad L (k_g C g D) fr H ∧ (∀ q ∈ locs, k_B X ≤ q.base) ∧ lv_has ls 3 [(2, .int (nI k4)), (1, .int z4), (0, .ref (ad g 14 0))]) 0 ⟨0, rfl, hW, hL, lv_sub hl [0, 1, 2] rfl⟩ (Nat.zero_le _) (fun k4 hk4 ih4 H locs ls hI => ?_)
  obtain ⟨z4, hz4, hW, hL, hl⟩ := hI
  refine lv_iload_n hx hb dX7_dockShare_4 rfl (lv_at hl 0 rfl) ?_
  refine lv_aload_n hx hb dX7_dockShare_5 rfl (lv_at hl 2 rfl) ?_
  refine k_get (K := RX7) (T := TX7) (N := 34) (v := .int (D 14 0 1)) (w := .int (D 14 0 1)) hx hb fX7 hown hK hW 14 0 hm.o (fun _ => rfl) rfl 1 (by decide) (hts (.fieldLink RX7 97 "CrossdockeryModel" "lorries" "I") (by decide +kernel)) rfl rfl rfl dX7_dockShare_6 ?_
  refine lv_icmp_ge (tgt := 27) hx hb dX7_dockShare_9 (by decide) (fun c1 => ?_) (fun c1 => ?_)
  ·
    rw [hwf.l] at c1
    have hge4 := k_nI_ge (by omega) (by omega) c1
    obtain rfl : nl = k4 := by omega
    replace hz4 : z4 = (l_X7_dockShare_4 D nl nt ng) := hz4
    subst hz4
    have hl : lv_has ls 3 [(2, .int (nI nl)), (1, .int (l_X7_dockShare_4 D nl nt ng)), (0, .ref (ad g 14 0))] := hl
    refine lv_aload_n hx hb dX7_dockShare_27 rfl (lv_at hl 2 rfl) ?_
    refine lv_iload_n hx hb dX7_dockShare_28 rfl (lv_at hl 1 rfl) ?_
    refine k_join (pc' := 37) (fun H locs ls st => k_W X n ad L (k_g C g D) fr H ∧ (∀ q ∈ locs, k_B X ≤ q.base) ∧ lv_has ls 3 [(2, .int (nI nl)), (1, .int (l_X7_dockShare_4 D nl nt ng)), (0, .ref (ad g 14 0))] ∧ st = [.int (j_X7_dockShare_37 D nl nt ng), .ref (ad g 14 0)]) (fun H locs ls st hJ => ?_) (fun join37 => ?_)
    ·
      obtain ⟨hW, hL, hl, rfl⟩ := hJ
      refine k_put (K := RX7) (T := TX7) (N := 34) (x := (j_X7_dockShare_37 D nl nt ng)) hx hb fX7 tyX7 tyX7_ok nmX7 hown hK hW hL 14 0 hm.o (fun _ => rfl) rfl 0 (by decide) (hts (.fieldLink RX7 93 "CrossdockeryModel" "thrown" "I") (by decide +kernel)) rfl rfl rfl rfl (fun _ => Nat.le_of_ble_eq_true rfl) (fun _ _ => rfl) dX7_dockShare_37 (fun H locs hW hL => ?_)
      refine lv_iload_n hx hb dX7_dockShare_40 rfl (lv_at hl 1 rfl) ?_
      refine k_join (pc' := 56) (fun H locs ls st => k_W X n ad L (k_g C g (k_d D 14 0 0 (j_X7_dockShare_37 D nl nt ng))) fr H ∧ (∀ q ∈ locs, k_B X ≤ q.base) ∧ lv_has ls 3 [(2, .int (nI nl)), (1, .int (l_X7_dockShare_4 D nl nt ng)), (0, .ref (ad g 14 0))] ∧ st = [.float (j_X7_dockShare_56 D nl nt ng)]) (fun H locs ls st hJ => ?_) (fun join56 => ?_)
      ·
        obtain ⟨hW, hL, hl, rfl⟩ := hJ
        have e9 : (s_X7_dockShare D nl nt ng) = (k_d D 14 0 0 (j_X7_dockShare_37 D nl nt ng), (j_X7_dockShare_56 D nl nt ng)) := by unfold s_X7_dockShare; first | done | rfl
        exact k_fret hx hb hr hlocks (⟨by rw [e9], by rw [e9]; exact hW⟩) hL dX7_dockShare_56
      ·
        refine lv_if_ne (tgt := 48) hx hb dX7_dockShare_41 (by decide) (fun c3 => ?_) (fun c3 => ?_)
        ·
          refine lv_aload_n hx hb dX7_dockShare_48 rfl (lv_at hl 2 rfl) ?_
          refine k_get (K := RX7) (T := TX7) (N := 34) (v := .int ((k_d D 14 0 0 (j_X7_dockShare_37 D nl nt ng)) 14 0 5)) (w := .int (D 14 0 5)) hx hb fX7 hown hK hW 14 0 hm.o (fun _ => rfl) rfl 5 (by decide) (hts (.fieldLink RX7 148 "CrossdockeryModel" "dockMinutes" "I") (by decide +kernel)) rfl rfl (congrArg Value.int (k_dk rfl)) dX7_dockShare_49 ?_
          refine lv_i2f hx hb dX7_dockShare_52 ?_
          refine lv_iload_n hx hb dX7_dockShare_53 rfl (lv_at hl 1 rfl) ?_
          refine lv_i2f hx hb dX7_dockShare_54 ?_
          refine lv_fdiv hx hb dX7_dockShare_55 (hfp.2.1 _ _ c3).1 ?_
          have e9 : (j_X7_dockShare_56 D nl nt ng) = (FP.fdiv (FP.i2f (D 14 0 5)) (FP.i2f (l_X7_dockShare_4 D nl nt ng))) := by unfold j_X7_dockShare_56; first | done | (simp only [if_neg c3]; done) | rfl
          exact join56 _ _ _ _ (by rw [e9]; exact ⟨hW, hL, lv_sub hl [0, 1, 2] rfl, rfl⟩)
        ·
          refine lv_fconst0 hx hb dX7_dockShare_44 ?_
          refine lv_goto (tgt := 56) hx hb dX7_dockShare_45 (by decide) ?_
          have e9 : (j_X7_dockShare_56 D nl nt ng) = FP.fconst0 := by unfold j_X7_dockShare_56; first | done | (simp only [if_pos c3]; done) | rfl
          exact join56 _ _ _ _ (by rw [e9]; exact ⟨hW, hL, lv_sub hl [0, 1, 2] rfl, rfl⟩)
    ·
      refine lv_if_ne (tgt := 36) hx hb dX7_dockShare_29 (by decide) (fun c2 => ?_) (fun c2 => ?_)
      ·
        refine lv_iconst (v := 0) hx hb dX7_dockShare_36 (by decide) ?_
        have e9 : (j_X7_dockShare_37 D nl nt ng) = 0 := by unfold j_X7_dockShare_37; first | done | (simp only [if_neg c2]; done) | rfl
        exact join37 _ _ _ _ (by rw [e9]; exact ⟨hW, hL, lv_sub hl [0, 1, 2] rfl, rfl⟩)
      ·
        refine lv_iconst (v := 1) hx hb dX7_dockShare_32 (by decide) ?_
        refine lv_goto (tgt := 37) hx hb dX7_dockShare_33 (by decide) ?_
        have e9 : (j_X7_dockShare_37 D nl nt ng) = 1 := by unfold j_X7_dockShare_37; first | done | (simp only [if_pos c2]; done) | rfl
        exact join37 _ _ _ _ (by rw [e9]; exact ⟨hW, hL, lv_sub hl [0, 1, 2] rfl, rfl⟩)
  ·
    have hlt4 : k4 < nl := k_nI_nge (by omega) (by omega) (by rw [hwf.l] at c1; exact c1)
    refine lv_iload_n hx hb dX7_dockShare_12 rfl (lv_at hl 1 rfl) ?_
    refine lv_aload_n hx hb dX7_dockShare_13 rfl (lv_at hl 2 rfl) ?_
    refine k_get (K := RX7) (T := TX7) (N := 34) (v := .ref (ad g 15 6)) (w := .ref (ad g 15 6)) hx hb fX7 hown hK hW 14 0 hm.o (fun _ => rfl) rfl 13 (by decide) (hts (.fieldLink RX7 29 "CrossdockeryModel" "waited" "[I") (by decide +kernel)) rfl rfl rfl dX7_dockShare_14 ?_
    refine lv_iload_n hx hb dX7_dockShare_17 rfl (lv_at hl 0 rfl) ?_
    refine k_iald (z := 8) (k := k4) hx hb hK hW 15 6 (hm.a (i := 6) (by decide)) (fun _ => rfl) (nI_clamp (by omega)) (vp_in_nI (by omega) (by decide)) (v := (D 15 6 k4)) rfl dX7_dockShare_18 ?_
    refine lv_iadd hx hb dX7_dockShare_19 ?_
    refine lv_istore_n (lv' := [(1, .int (z4 + (D 15 6 k4))), (2, .int (nI k4)), (0, .ref (ad g 14 0))]) hx hb dX7_dockShare_20 rfl hl (by decide) rfl (fun ls hl => ?_)
    refine lv_iinc (v := (nI (k4 + 1))) (k := 1) (lv' := [(2, .int (nI (k4 + 1))), (1, .int (z4 + (D 15 6 k4))), (0, .ref (ad g 14 0))]) hx hb dX7_dockShare_21 hl rfl (nI_1 _) (by decide) rfl (fun ls hl => ?_)
    refine lv_goto (tgt := 4) hx hb dX7_dockShare_24 (by decide) ?_
    have e9 : (f_X7_dockShare_4 D nl nt ng) k4 z4 = (z4 + (D 15 6 k4)) := by unfold f_X7_dockShare_4; first | done | rfl
    exact ih4 _ _ _ hlt4 ⟨(z4 + (D 15 6 k4)), by rw [it_s, ← hz4, e9], hW, hL, lv_sub hl [0, 1, 2] rfl⟩
