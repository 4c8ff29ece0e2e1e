theorem mWF_unload {D : KD} {nl nt ng : Nat} (h : mWF D nl nt ng) (l0 pw : Int32) : mWF (s_X7_unload D nl nt ng l0 pw) nl nt ng := by
  unfold s_X7_unload
  refine it_ind (P := fun z : KD × Int32 => mWF z.1 nl nt ng) h ?_
  intro k _ z hz
  unfold f_X7_unload_5
  split
  · split
    · exact hz
    · split
      · exact hz
      · exact ((hz.put15 (by decide)).put15 (by decide)).put15 (by decide)
  · exact hz
theorem mWF_load {D : KD} {nl nt ng : Nat} (h : mWF D nl nt ng) (l0 pw : Int32) : mWF (s_X7_load D nl nt ng l0 pw) nl nt ng := by
  unfold s_X7_load
  refine it_ind (P := fun z : KD × Int32 => mWF z.1 nl nt ng) h ?_
  intro k _ z hz
  unfold f_X7_load_5
  split
  · split
    · exact hz
    · split
      · exact hz
      · exact ((hz.put15 (by decide)).put15 (by decide)).put15 (by decide)
  · exact hz
theorem m1_unload {D : KD} {nl nt ng : Nat} {l0 pw : Int32} {j : Nat} (hj : j ≠ 15 ∧ j ≠ 18 ∧ j ≠ 1) : s_X7_unload D nl nt ng l0 pw 15 j = D 15 j := by
  unfold s_X7_unload
  refine it_ind (P := fun z : KD × Int32 => z.1 15 j = D 15 j) rfl ?_
  intro k _ z hz
  unfold f_X7_unload_5
  split
  · split
    · exact hz
    · split
      · exact hz
      · exact k_keep _ _ _ _ _ (fun q => hj.2.2 q.2) (k_keep _ _ _ _ _ (fun q => hj.2.1 q.2) (k_keep _ _ _ _ _ (fun q => hj.1 q.2) hz))
  · exact hz
theorem m1_load {D : KD} {nl nt ng : Nat} {l0 pw : Int32} {j : Nat} (hj : j ≠ 16 ∧ j ≠ 17 ∧ j ≠ 1) : s_X7_load D nl nt ng l0 pw 15 j = D 15 j := by
  unfold s_X7_load
  refine it_ind (P := fun z : KD × Int32 => z.1 15 j = D 15 j) rfl ?_
  intro k _ z hz
  unfold f_X7_load_5
  split
  · split
    · exact hz
    · split
      · exact hz
      · exact k_keep _ _ _ _ _ (fun q => hj.2.2 q.2) (k_keep _ _ _ _ _ (fun q => hj.2.1 q.2) (k_keep _ _ _ _ _ (fun q => hj.1 q.2) hz))
  · exact hz
/-- the queue's lorry at a place -/
theorem mQ_r {D : KD} {nl nt ng : Nat} {d pl : Int32} : ∀ f k, f + k = nl → r_X7_queued_2 D nl nt ng d pl f k = -1 ∨ ∃ l, k ≤ l ∧ l < nl ∧ r_X7_queued_2 D nl nt ng d pl f k = nI l ∧ D 15 11 l = 121 ∧ D 15 4 l = d ∧ it (f_X7_queued_40 D nl nt ng d pl l) nl 0 = pl := by
  intro f
  induction f with
  | zero => intro k _; exact Or.inl rfl
  | succ f ih =>
    intro k hk
    have hnext : r_X7_queued_2 D nl nt ng d pl f (k + 1) = -1 ∨ ∃ l, k ≤ l ∧ l < nl ∧ r_X7_queued_2 D nl nt ng d pl f (k + 1) = nI l ∧ D 15 11 l = 121 ∧ D 15 4 l = d ∧ it (f_X7_queued_40 D nl nt ng d pl l) nl 0 = pl := by
      rcases ih (k + 1) (by omega) with h | ⟨l, h1, h2⟩
      · exact Or.inl h
      · exact Or.inr ⟨l, by omega, h2⟩
    rw [r_X7_queued_2_s]
    split
    · next h1 =>
      split
      · next h2 =>
        split
        · next h3 => exact Or.inr ⟨k, Nat.le_refl _, by omega, rfl, h1, h2, h3⟩
        · exact hnext
      · exact hnext
    · exact hnext
theorem mQ_some {D : KD} {nl nt ng : Nat} {d pl : Int32} (h : s_X7_queued D nl nt ng d pl ≠ -1) : ∃ l, l < nl ∧ s_X7_queued D nl nt ng d pl = nI l ∧ D 15 11 l = 121 ∧ D 15 4 l = d ∧ it (f_X7_queued_40 D nl nt ng d pl l) nl 0 = pl := by
  unfold s_X7_queued at h ⊢
  rcases mQ_r (D := D) (nl := nl) (nt := nt) (ng := ng) (d := d) (pl := pl) (nl - 0) 0 (by omega) with q | ⟨l, -, q⟩
  · exact absurd q h
  · exact ⟨l, q⟩
theorem mQ_in {D : KD} {nl nt ng : Nat} (h8 : nl ≤ 8) {d pl : Int32} (h : s_X7_queued D nl nt ng d pl ≠ -1) : vp_in (s_X7_queued D nl nt ng d pl) 8 := by
  obtain ⟨l, hl, e, -⟩ := mQ_some h
  rw [e]
  exact vp_in_nI (by omega) (by decide)
theorem mWF.fill0 {D : KD} {nl nt ng : Nat} (h : mWF D nl nt ng) {d : Nat} {x : Int32} (h0 : D 15 23 d = -1) (hx : x = -1) : mWF (k_d D 15 23 d x) nl nt ng := by
  have e : k_d D 15 23 d x = D := by
    funext r i k
    unfold k_d
    split
    · next q => rw [hx, q.1, q.2.1, q.2.2, h0]
    · rfl
  rw [e]
  exact h
theorem nI_ne {a b : Nat} (ha : a < 2 ^ 31) (hb : b < 2 ^ 31) (h : a ≠ b) : nI a ≠ nI b := fun q => h ((nI_eq ha hb).mp q)
theorem mWF.fill1 {D : KD} {nl nt ng : Nat} (h : mWF D nl nt ng) {d l : Nat} (hd : d < 4) (h0 : D 15 23 d = -1) (hl : l < nl) (hs : D 15 11 l = 121) (hdr : D 15 4 l = nI d) : mWF (k_d (k_d D 15 23 d (nI l)) 15 11 l 100) nl nt ng := by
  have h8 := h.l8
  have a4 : k_d (k_d D 15 23 d (nI l)) 15 11 l 100 15 4 = D 15 4 := k_keep _ _ _ _ _ (by decide) (k_keep _ _ _ _ _ (by decide) rfl)
  have a12 : k_d (k_d D 15 23 d (nI l)) 15 11 l 100 15 12 = D 15 12 := k_keep _ _ _ _ _ (by decide) (k_keep _ _ _ _ _ (by decide) rfl)
  have a13 : k_d (k_d D 15 23 d (nI l)) 15 11 l 100 15 13 = D 15 13 := k_keep _ _ _ _ _ (by decide) (k_keep _ _ _ _ _ (by decide) rfl)
  have a14 : k_d (k_d D 15 23 d (nI l)) 15 11 l 100 14 0 = D 14 0 := by
    rw [k_d_off _ _ (by decide), k_d_off _ _ (by decide)]
  have a23 : k_d (k_d D 15 23 d (nI l)) 15 11 l 100 15 23 = k_d D 15 23 d (nI l) 15 23 := k_keep _ _ _ _ _ (by decide) rfl
  have a11 : k_d (k_d D 15 23 d (nI l)) 15 11 l 100 15 11 = k_d D 15 11 l 100 15 11 := by
    rw [k_d_row, k_d_row, k_d_off _ _ (by decide)]
  have s11 : ∀ m, m ≠ l → k_d D 15 11 l 100 15 11 m = D 15 11 m := fun m hm => k_d_ne _ _ hm
  have s23 : ∀ m, m ≠ d → k_d D 15 23 d (nI l) 15 23 m = D 15 23 m := fun m hm => k_d_ne _ _ hm
  obtain ⟨h1, h2, h3, h4, h5, h6, h7, h9, h10⟩ := h
  unfold mWF
  rw [a4, a12, a13, a14, a23, a11]
  refine ⟨h1, h2, h3, h4, h5, ?_, ?_, ?_, fun m hm => ?_⟩
  · intro m hm q
    by_cases e : m = l
    · subst e
      exact h6 _ hm (Or.inl hs)
    · rw [s11 m e] at q
      exact h6 m hm q
  · intro e he
    by_cases q : e = d
    · subst q
      refine Or.inr ?_
      rw [k_d_at, nI_clamp (by omega)]
      exact ⟨vp_in_nI hl (by omega), k_d_at _ _ _ _ _, hdr⟩
    · rw [s23 e q]
      rcases h7 e he with z | ⟨z1, z2, z3⟩
      · exact Or.inl z
      · refine Or.inr ⟨z1, ?_, z3⟩
        by_cases w : (D 15 23 e).toNatClampNeg = l
        · rw [w, k_d_at]
        · rw [s11 _ w]
          exact z2
  · intro m hm q
    by_cases e : m = l
    · subst e
      rw [hdr, nI_clamp (by omega), k_d_at]
    · rw [s11 m e] at q
      have z := h9 m hm q
      have hne : (D 15 4 m).toNatClampNeg ≠ d := by
        intro w
        rw [w, h0] at z
        have : vp_in (nI m) 8 := vp_in_nI (by omega) (by decide)
        rw [← z] at this
        exact this (Or.inl (by decide))
      rw [s23 _ hne]
      exact z
  · by_cases e : m = l
    · rw [e, k_d_at]
      exact Or.inr (Or.inr (Or.inl rfl))
    · rw [s11 m e]
      exact h10 m hm

def r_X7_owesAtDoor_26 (D : KD) (nl : Nat) (nt : Nat) (ng : Nat) (l0 : Int32) : Nat → Nat → Int32
  | 0, k26 => (-1)
  | f26 + 1, k26 => (if (D 15 13 k26) = l0 then (if (D 15 15 k26) = (D 15 14 k26) then r_X7_owesAtDoor_26 D nl nt ng l0 f26 (k26 + 1)  else (if (D 15 11 ((D 15 12 k26).toNatClampNeg)) = 101 then (if (D 15 2 ((D 15 12 k26).toNatClampNeg)) > (D 14 0 4) then (-2) else D 15 12 k26) else (-1))) else r_X7_owesAtDoor_26 D nl nt ng l0 f26 (k26 + 1) )
theorem r_X7_owesAtDoor_26_0 (D : KD) (nl : Nat) (nt : Nat) (ng : Nat) (l0 : Int32) (k26 : Nat)  : r_X7_owesAtDoor_26 D nl nt ng l0 0 k26  = (-1) := rfl
theorem r_X7_owesAtDoor_26_s (D : KD) (nl : Nat) (nt : Nat) (ng : Nat) (l0 : Int32) (f26 k26 : Nat)  : r_X7_owesAtDoor_26 D nl nt ng l0 (f26 + 1) k26  = (if (D 15 13 k26) = l0 then (if (D 15 15 k26) = (D 15 14 k26) then r_X7_owesAtDoor_26 D nl nt ng l0 f26 (k26 + 1)  else (if (D 15 11 ((D 15 12 k26).toNatClampNeg)) = 101 then (if (D 15 2 ((D 15 12 k26).toNatClampNeg)) > (D 14 0 4) then (-2) else D 15 12 k26) else (-1))) else r_X7_owesAtDoor_26 D nl nt ng l0 f26 (k26 + 1) ) := rfl
def s_X7_owesAtDoor (D : KD) (nl : Nat) (nt : Nat) (ng : Nat) (l0 : Int32) : Int32 := (if (s_X7_powerOf D nl nt ng (D 15 4 (l0.toNatClampNeg))) = 0 then (-1) else (if (D 15 0 (l0.toNatClampNeg)) = 0 then r_X7_owesAtDoor_26 D nl nt ng l0 (nt - 0) 0  else (-1)))
set_option maxHeartbeats 4000000 in
set_option maxRecDepth 100000 in
theorem c_X7_owesAtDoor (X : kX) (l : Launch) {n : Nat → Nat → Nat} {ad L : Nat → Nat → Nat → Nat} {C : Nat → Nat → Nat → Nat → Int32} {fr : Nat → Option Cell} {g : Nat} (hm : k_mod n g) (D : KD) (l0 : Int32) {nl nt ng : Nat} (hwf : mWF D nl nt ng) (hv_l0 : vp_in l0 8) : k_M X l yX7_owesAtDoor wsX7_owesAtDoor ({ frames := 3, cells := 0, slots := 0, locals := 57 }) [.ref (ad g 14 0), .int l0] (k_W X n ad L (k_g C g D) fr) (fun v H => v = some (.int (s_X7_owesAtDoor D nl nt ng l0)) ∧ k_W X n ad L (k_g C g D) fr H) 0 0 := by
  refine k_M.of (cc := cX7_owesAtDoor) (maxL := 3) (ret := (some .int)) (by decide) rfl (Nat.le_of_ble_eq_true rfl) ?_
  intro p e s m args below meth c ls hx hb hr hml hown hts hlocks hnm hK hW hl
  have hL : ∀ q ∈ ([] : List Loc), k_B X ≤ q.base := fun _ h => nomatch h
  have hl : lv_has ls 3 [(0, .ref (ad g 14 0)), (1, .int l0)] := hl
  have fX7 : ∀ w ∈ u_ws RX7 TX7 34, w.before args s = true := fun w h => hts w ((by decide +kernel : ∀ w ∈ u_ws RX7 TX7 34, w ∈ wsX7_owesAtDoor) w h)
  have hl8 := hwf.l8
  have ht16 := hwf.t16
  have hg4 := hwf.g4
  refine lv_aload_n hx hb dX7_owesAtDoor_0 rfl (lv_at hl 0 rfl) ?_
  refine lv_aload_n hx hb dX7_owesAtDoor_1 rfl (lv_at hl 0 rfl) ?_
  refine k_get (K := RX7) (T := TX7) (N := 34) (v := .ref (ad g 15 4)) (w := .ref (ad g 15 4)) hx hb fX7 hown hK hW 14 0 hm.o (fun _ => rfl) rfl 11 (by decide) (hts (.fieldLink RX7 23 "CrossdockeryModel" "door" "[I") (by decide +kernel)) rfl rfl rfl dX7_owesAtDoor_2 ?_
  refine lv_iload_n hx hb dX7_owesAtDoor_5 rfl (lv_at hl 1 rfl) ?_
  refine k_iald (z := 8) (k := (l0.toNatClampNeg)) hx hb hK hW 15 4 (hm.a (i := 4) (by decide)) (fun _ => rfl) rfl hv_l0 (v := (D 15 4 (l0.toNatClampNeg))) rfl dX7_owesAtDoor_6 ?_
  refine k_callV (As := [.int (D 15 4 (l0.toNatClampNeg))]) (rest := []) ⟨hx, hb, hml, hown, hts⟩ hK (c_X7_powerOf X l hm D (D 15 4 (l0.toNatClampNeg)) hwf) (cwV 1 hts gX7_owesAtDoor_X7_powerOf rfl rfl rfl (by decide +kernel) ⟨Nat.le_of_ble_eq_true rfl, Nat.le_of_ble_eq_true rfl⟩) (k_recv hK hW 14 0 hm.o (fun _ => rfl) rfl) hW rfl hl.1 rfl (Nat.le_of_ble_eq_true rfl) dX7_owesAtDoor_7 ⟨Nat.le_of_ble_eq_true rfl, Nat.le_of_ble_eq_true rfl⟩ hL (fun v9 H locs hp hL => ?_)
  obtain ⟨rfl, hW⟩ := hp
  refine lv_if_eq (tgt := 22) hx hb dX7_owesAtDoor_10 (by decide) (fun c1 => ?_) (fun c1 => ?_)
  ·
    refine lv_iconst (v := (-1)) hx hb dX7_owesAtDoor_22 (by decide) ?_
    have e9 : (s_X7_owesAtDoor D nl nt ng l0) = (-1) := by unfold s_X7_owesAtDoor; first | done | (simp only [if_pos c1]; done) | rfl
    exact k_iret hx hb hr hlocks (⟨by rw [e9], hW⟩) hL dX7_owesAtDoor_23
  ·
    refine lv_aload_n hx hb dX7_owesAtDoor_13 rfl (lv_at hl 0 rfl) ?_
    refine k_get (K := RX7) (T := TX7) (N := 34) (v := .ref (ad g 15 0)) (w := .ref (ad g 15 0)) hx hb fX7 hown hK hW 14 0 hm.o (fun _ => rfl) rfl 7 (by decide) (hts (.fieldLink RX7 7 "CrossdockeryModel" "isBringing" "[Z") (by decide +kernel)) rfl rfl rfl dX7_owesAtDoor_14 ?_
    refine lv_iload_n hx hb dX7_owesAtDoor_17 rfl (lv_at hl 1 rfl) ?_
    refine k_zald (z := 8) (k := (l0.toNatClampNeg)) hx hb hK hW 15 0 (hm.a (i := 0) (by decide)) (fun _ => rfl) rfl hv_l0 (v := (D 15 0 (l0.toNatClampNeg))) rfl dX7_owesAtDoor_18 ?_
    refine lv_if_eq (tgt := 24) hx hb dX7_owesAtDoor_19 (by decide) (fun c2 => ?_) (fun c2 => ?_)
    ·
      refine lv_iconst (v := 0) hx hb dX7_owesAtDoor_24 (by decide) ?_
      refine lv_istore_n (lv' := [(2, .int 0), (0, .ref (ad g 14 0)), (1, .int l0)]) hx hb dX7_owesAtDoor_25 rfl hl (by decide) rfl (fun ls hl => ?_)
      refine k_for (nt) (fun k26 H locs ls => ∃ z26 : Unit, (s_X7_owesAtDoor D nl nt ng l0) = (r_X7_owesAtDoor_26 D nl nt ng l0) (nt - k26) k26  ∧ k_W X n ad L (k_g C g D) fr H ∧ (∀ q ∈ locs, k_B X ≤ q.base) ∧ lv_has ls 3 [(2, .int (nI k26)), (0, .ref (ad g 14 0)), (1, .int l0)]) 0 ⟨(), by unfold s_X7_owesAtDoor; first | done | (simp only [if_neg c1, if_pos c2]; done) | rfl, hW, hL, lv_sub hl [0, 1, 2] rfl⟩ (Nat.zero_le _) (fun k26 hk26 ih26 H locs ls hI => ?_)
      obtain ⟨z26, hz26, hW, hL, hl⟩ := hI
      refine lv_iload_n hx hb dX7_owesAtDoor_26 rfl (lv_at hl 0 rfl) ?_
      refine lv_aload_n hx hb dX7_owesAtDoor_27 rfl (lv_at hl 1 rfl) ?_
      refine k_get (K := RX7) (T := TX7) (N := 34) (v := .int (D 14 0 2)) (w := .int (D 14 0 2)) hx hb fX7 hown hK hW 14 0 hm.o (fun _ => rfl) rfl 2 (by decide) (hts (.fieldLink RX7 115 "CrossdockeryModel" "transfers" "I") (by decide +kernel)) rfl rfl rfl dX7_owesAtDoor_28 ?_
      refine lv_icmp_ge (tgt := 116) hx hb dX7_owesAtDoor_31 (by decide) (fun c3 => ?_) (fun c3 => ?_)
      ·
        rw [hwf.t] at c3
        have hge26 := k_nI_ge (by omega) (by omega) c3
        obtain rfl : nt = k26 := by omega
        rw [show nt - nt = 0 by omega] at hz26
        refine lv_iconst (v := (-1)) hx hb dX7_owesAtDoor_116 (by decide) ?_
        have e9 : (s_X7_owesAtDoor D nl nt ng l0) = (-1) := by rw [hz26, r_X7_owesAtDoor_26_0]; first | done | (simp only [if_neg c1, if_pos c2]; done) | rfl
        exact k_iret hx hb hr hlocks (⟨by rw [e9], hW⟩) hL dX7_owesAtDoor_117
      ·
        have hlt26 : k26 < nt := k_nI_nge (by omega) (by omega) (by rw [hwf.t] at c3; exact c3)
        obtain ⟨f26, hf26⟩ : ∃ f, nt - k26 = f + 1 := ⟨nt - k26 - 1, by omega⟩
        refine lv_aload_n hx hb dX7_owesAtDoor_34 rfl (lv_at hl 1 rfl) ?_
        refine k_get (K := RX7) (T := TX7) (N := 34) (v := .ref (ad g 15 13)) (w := .ref (ad g 15 13)) hx hb fX7 hown hK hW 14 0 hm.o (fun _ => rfl) rfl 20 (by decide) (hts (.fieldLink RX7 51 "CrossdockeryModel" "to" "[I") (by decide +kernel)) rfl rfl rfl dX7_owesAtDoor_35 ?_
        refine lv_iload_n hx hb dX7_owesAtDoor_38 rfl (lv_at hl 0 rfl) ?_
        refine k_iald (z := 16) (k := k26) hx hb hK hW 15 13 (hm.a (i := 13) (by decide)) (fun _ => rfl) (nI_clamp (by omega)) (vp_in_nI (by omega) (by decide)) (v := (D 15 13 k26)) rfl dX7_owesAtDoor_39 ?_
        refine lv_iload_n hx hb dX7_owesAtDoor_40 rfl (lv_at hl 2 rfl) ?_
        refine lv_icmp_ne (tgt := 110) hx hb dX7_owesAtDoor_41 (by decide) (fun c4 => ?_) (fun c4 => ?_)
        ·
          refine lv_iinc (v := (nI (k26 + 1))) (k := 0) (lv' := [(2, .int (nI (k26 + 1))), (0, .ref (ad g 14 0)), (1, .int l0)]) hx hb dX7_owesAtDoor_110 hl rfl (nI_1 _) (by decide) rfl (fun ls hl => ?_)
          refine lv_goto (tgt := 26) hx hb dX7_owesAtDoor_113 (by decide) ?_
          have e9 : (s_X7_owesAtDoor D nl nt ng l0) = (r_X7_owesAtDoor_26 D nl nt ng l0) f26 (k26 + 1)  := by rw [hz26, hf26, r_X7_owesAtDoor_26_s]; first | done | (simp only [if_neg c4]; done) | rfl
          exact ih26 _ _ _ hlt26 ⟨(), by rw [e9, show nt - (k26 + 1) = f26 by omega], hW, hL, lv_sub hl [0, 1, 2] rfl⟩
        ·
          refine lv_aload_n hx hb dX7_owesAtDoor_44 rfl (lv_at hl 1 rfl) ?_
          refine k_get (K := RX7) (T := TX7) (N := 34) (v := .ref (ad g 15 15)) (w := .ref (ad g 15 15)) hx hb fX7 hown hK hW 14 0 hm.o (fun _ => rfl) rfl 22 (by decide) (hts (.fieldLink RX7 57 "CrossdockeryModel" "unloaded" "[I") (by decide +kernel)) rfl rfl rfl dX7_owesAtDoor_45 ?_
          refine lv_iload_n hx hb dX7_owesAtDoor_48 rfl (lv_at hl 0 rfl) ?_
          refine k_iald (z := 16) (k := k26) hx hb hK hW 15 15 (hm.a (i := 15) (by decide)) (fun _ => rfl) (nI_clamp (by omega)) (vp_in_nI (by omega) (by decide)) (v := (D 15 15 k26)) rfl dX7_owesAtDoor_49 ?_
          refine lv_aload_n hx hb dX7_owesAtDoor_50 rfl (lv_at hl 1 rfl) ?_
          refine k_get (K := RX7) (T := TX7) (N := 34) (v := .ref (ad g 15 14)) (w := .ref (ad g 15 14)) hx hb fX7 hown hK hW 14 0 hm.o (fun _ => rfl) rfl 21 (by decide) (hts (.fieldLink RX7 54 "CrossdockeryModel" "units" "[I") (by decide +kernel)) rfl rfl rfl dX7_owesAtDoor_51 ?_
          refine lv_iload_n hx hb dX7_owesAtDoor_54 rfl (lv_at hl 0 rfl) ?_
          refine k_iald (z := 16) (k := k26) hx hb hK hW 15 14 (hm.a (i := 14) (by decide)) (fun _ => rfl) (nI_clamp (by omega)) (vp_in_nI (by omega) (by decide)) (v := (D 15 14 k26)) rfl dX7_owesAtDoor_55 ?_
          refine lv_icmp_ne (tgt := 62) hx hb dX7_owesAtDoor_56 (by decide) (fun c5 => ?_) (fun c5 => ?_)
          ·
            refine lv_aload_n hx hb dX7_owesAtDoor_62 rfl (lv_at hl 1 rfl) ?_
            refine k_get (K := RX7) (T := TX7) (N := 34) (v := .ref (ad g 15 11)) (w := .ref (ad g 15 11)) hx hb fX7 hown hK hW 14 0 hm.o (fun _ => rfl) rfl 18 (by decide) (hts (.fieldLink RX7 44 "CrossdockeryModel" "state" "[C") (by decide +kernel)) rfl rfl rfl dX7_owesAtDoor_63 ?_
            refine lv_aload_n hx hb dX7_owesAtDoor_66 rfl (lv_at hl 1 rfl) ?_
            refine k_get (K := RX7) (T := TX7) (N := 34) (v := .ref (ad g 15 12)) (w := .ref (ad g 15 12)) hx hb fX7 hown hK hW 14 0 hm.o (fun _ => rfl) rfl 19 (by decide) (hts (.fieldLink RX7 48 "CrossdockeryModel" "from" "[I") (by decide +kernel)) rfl rfl rfl dX7_owesAtDoor_67 ?_
            refine lv_iload_n hx hb dX7_owesAtDoor_70 rfl (lv_at hl 0 rfl) ?_
            refine k_iald (z := 16) (k := k26) hx hb hK hW 15 12 (hm.a (i := 12) (by decide)) (fun _ => rfl) (nI_clamp (by omega)) (vp_in_nI (by omega) (by decide)) (v := (D 15 12 k26)) rfl dX7_owesAtDoor_71 ?_
            refine k_cald (z := 8) (k := ((D 15 12 k26).toNatClampNeg)) hx hb hK hW 15 11 (hm.a (i := 11) (by decide)) (fun _ => rfl) rfl (hwf.fr (by omega)) (v := (D 15 11 ((D 15 12 k26).toNatClampNeg))) rfl dX7_owesAtDoor_72 ?_
            refine lv_bipush (v := 101) hx hb dX7_owesAtDoor_73 (by decide) ?_
            refine lv_icmp_eq (tgt := 80) hx hb dX7_owesAtDoor_75 (by decide) (fun c6 => ?_) (fun c6 => ?_)
            ·
              refine lv_aload_n hx hb dX7_owesAtDoor_80 rfl (lv_at hl 1 rfl) ?_
              refine k_get (K := RX7) (T := TX7) (N := 34) (v := .ref (ad g 15 2)) (w := .ref (ad g 15 2)) hx hb fX7 hown hK hW 14 0 hm.o (fun _ => rfl) rfl 9 (by decide) (hts (.fieldLink RX7 16 "CrossdockeryModel" "planned" "[I") (by decide +kernel)) rfl rfl rfl dX7_owesAtDoor_81 ?_
              refine lv_aload_n hx hb dX7_owesAtDoor_84 rfl (lv_at hl 1 rfl) ?_
              refine k_get (K := RX7) (T := TX7) (N := 34) (v := .ref (ad g 15 12)) (w := .ref (ad g 15 12)) hx hb fX7 hown hK hW 14 0 hm.o (fun _ => rfl) rfl 19 (by decide) (hts (.fieldLink RX7 48 "CrossdockeryModel" "from" "[I") (by decide +kernel)) rfl rfl rfl dX7_owesAtDoor_85 ?_
              refine lv_iload_n hx hb dX7_owesAtDoor_88 rfl (lv_at hl 0 rfl) ?_
              refine k_iald (z := 16) (k := k26) hx hb hK hW 15 12 (hm.a (i := 12) (by decide)) (fun _ => rfl) (nI_clamp (by omega)) (vp_in_nI (by omega) (by decide)) (v := (D 15 12 k26)) rfl dX7_owesAtDoor_89 ?_
              refine k_iald (z := 8) (k := ((D 15 12 k26).toNatClampNeg)) hx hb hK hW 15 2 (hm.a (i := 2) (by decide)) (fun _ => rfl) rfl (hwf.fr (by omega)) (v := (D 15 2 ((D 15 12 k26).toNatClampNeg))) rfl dX7_owesAtDoor_90 ?_
              refine lv_aload_n hx hb dX7_owesAtDoor_91 rfl (lv_at hl 1 rfl) ?_
              refine k_get (K := RX7) (T := TX7) (N := 34) (v := .int (D 14 0 4)) (w := .int (D 14 0 4)) hx hb fX7 hown hK hW 14 0 hm.o (fun _ => rfl) rfl 4 (by decide) (hts (.fieldLink RX7 121 "CrossdockeryModel" "now" "I") (by decide +kernel)) rfl rfl rfl dX7_owesAtDoor_92 ?_
              refine lv_icmp_gt (tgt := 107) hx hb dX7_owesAtDoor_95 (by decide) (fun c7 => ?_) (fun c7 => ?_)
              ·
                refine lv_bipush (v := (-2)) hx hb dX7_owesAtDoor_107 (by decide) ?_
                have e9 : (s_X7_owesAtDoor D nl nt ng l0) = (-2) := by rw [hz26, hf26, r_X7_owesAtDoor_26_s]; first | done | (simp only [if_pos c4, if_neg c5, if_pos c6, if_pos c7]; done) | rfl
                exact k_iret hx hb hr hlocks (⟨by rw [e9], hW⟩) hL dX7_owesAtDoor_109
              ·
                refine lv_aload_n hx hb dX7_owesAtDoor_98 rfl (lv_at hl 1 rfl) ?_
                refine k_get (K := RX7) (T := TX7) (N := 34) (v := .ref (ad g 15 12)) (w := .ref (ad g 15 12)) hx hb fX7 hown hK hW 14 0 hm.o (fun _ => rfl) rfl 19 (by decide) (hts (.fieldLink RX7 48 "CrossdockeryModel" "from" "[I") (by decide +kernel)) rfl rfl rfl dX7_owesAtDoor_99 ?_
                refine lv_iload_n hx hb dX7_owesAtDoor_102 rfl (lv_at hl 0 rfl) ?_
                refine k_iald (z := 16) (k := k26) hx hb hK hW 15 12 (hm.a (i := 12) (by decide)) (fun _ => rfl) (nI_clamp (by omega)) (vp_in_nI (by omega) (by decide)) (v := (D 15 12 k26)) rfl dX7_owesAtDoor_103 ?_
                refine lv_goto (tgt := 109) hx hb dX7_owesAtDoor_104 (by decide) ?_
                have e9 : (s_X7_owesAtDoor D nl nt ng l0) = D 15 12 k26 := by rw [hz26, hf26, r_X7_owesAtDoor_26_s]; first | done | (simp only [if_pos c4, if_neg c5, if_pos c6, if_neg c7]; done) | rfl
                exact k_iret hx hb hr hlocks (⟨by rw [e9], hW⟩) hL dX7_owesAtDoor_109
            ·
              refine lv_iconst (v := (-1)) hx hb dX7_owesAtDoor_78 (by decide) ?_
              have e9 : (s_X7_owesAtDoor D nl nt ng l0) = (-1) := by rw [hz26, hf26, r_X7_owesAtDoor_26_s]; first | done | (simp only [if_pos c4, if_neg c5, if_neg c6]; done) | rfl
              exact k_iret hx hb hr hlocks (⟨by rw [e9], hW⟩) hL dX7_owesAtDoor_79
          ·
            refine lv_goto (tgt := 110) hx hb dX7_owesAtDoor_59 (by decide) ?_
            refine lv_iinc (v := (nI (k26 + 1))) (k := 0) (lv' := [(2, .int (nI (k26 + 1))), (0, .ref (ad g 14 0)), (1, .int l0)]) hx hb dX7_owesAtDoor_110 hl rfl (nI_1 _) (by decide) rfl (fun ls hl => ?_)
            refine lv_goto (tgt := 26) hx hb dX7_owesAtDoor_113 (by decide) ?_
            have e9 : (s_X7_owesAtDoor D nl nt ng l0) = (r_X7_owesAtDoor_26 D nl nt ng l0) f26 (k26 + 1)  := by rw [hz26, hf26, r_X7_owesAtDoor_26_s]; first | done | (simp only [if_pos c4, if_pos c5]; done) | rfl
            exact ih26 _ _ _ hlt26 ⟨(), by rw [e9, show nt - (k26 + 1) = f26 by omega], hW, hL, lv_sub hl [0, 1, 2] rfl⟩
    ·
      refine lv_iconst (v := (-1)) hx hb dX7_owesAtDoor_22 (by decide) ?_
      have e9 : (s_X7_owesAtDoor D nl nt ng l0) = (-1) := by unfold s_X7_owesAtDoor; first | done | (simp only [if_neg c1, if_neg c2]; done) | rfl
      exact k_iret hx hb hr hlocks (⟨by rw [e9], hW⟩) hL dX7_owesAtDoor_23
def j_X7_owes_33 (D : KD) (nl : Nat) (nt : Nat) (ng : Nat) (l0 : Int32) (ah : Int32) : Int32 := (if (D 15 0 (l0.toNatClampNeg)) = 0 then 5 else 0)
def s_X7_owes (D : KD) (nl : Nat) (nt : Nat) (ng : Nat) (l0 : Int32) (ah : Int32) : Int32 := (if (D 14 0 4) < (D 15 2 (l0.toNatClampNeg)) then (-2) else (if (D 15 6 (l0.toNatClampNeg)) ≥ (j_X7_owes_33 D nl nt ng l0 ah) then (if (D 15 11 (l0.toNatClampNeg)) = 100 then (s_X7_owesAtDoor D nl nt ng l0) else (if (D 15 1 (ah.toNatClampNeg)) = 0 then (if (s_X7_owesAtDoor D nl nt ng ah) = (-2) then ah else (s_X7_owesAtDoor D nl nt ng ah)) else (if (D 15 5 (ah.toNatClampNeg)) ≤ (D 15 2 (ah.toNatClampNeg)) then (-1) else ah))) else (-2)))
set_option maxHeartbeats 4000000 in
set_option maxRecDepth 100000 in
theorem c_X7_owes (X : kX) (l : Launch) {n : Nat → Nat → Nat} {ad L : Nat → Nat → Nat → Nat} {C : Nat → Nat → Nat → Nat → Int32} {fr : Nat → Option Cell} {g : Nat} (hm : k_mod n g) (D : KD) (l0 : Int32) (ah : Int32) {nl nt ng : Nat} (hwf : mWF D nl nt ng) (hv_l0 : vp_in l0 8) (hv_ah : vp_in ah 8) : k_M X l yX7_owes wsX7_owes ({ frames := 4, cells := 0, slots := 0, locals := 79 }) [.ref (ad g 14 0), .int l0, .int ah] (k_W X n ad L (k_g C g D) fr) (fun v H => v = some (.int (s_X7_owes D nl nt ng l0 ah)) ∧ k_W X n ad L (k_g C g D) fr H) 0 0 := by
  refine k_M.of (cc := cX7_owes) (maxL := 4) (ret := (some .int)) (by decide) rfl (Nat.le_of_ble_eq_true rfl) ?_
  intro p e s m args below meth c ls hx hb hr hml hown hts hlocks hnm hK hW hl
  have hL : ∀ q ∈ ([] : List Loc), k_B X ≤ q.base := fun _ h => nomatch h
  have hl : lv_has ls 4 [(0, .ref (ad g 14 0)), (1, .int l0), (2, .int ah)] := hl
  have fX7 : ∀ w ∈ u_ws RX7 TX7 34, w.before args s = true := fun w h => hts w ((by decide +kernel : ∀ w ∈ u_ws RX7 TX7 34, w ∈ wsX7_owes) w h)
  have hl8 := hwf.l8
  have ht16 := hwf.t16
  have hg4 := hwf.g4
  refine lv_aload_n hx hb dX7_owes_0 rfl (lv_at hl 0 rfl) ?_
  refine k_get (K := RX7) (T := TX7) (N := 34) (v := .int (D 14 0 4)) (w := .int (D 14 0 4)) hx hb fX7 hown hK hW 14 0 hm.o (fun _ => rfl) rfl 4 (by decide) (hts (.fieldLink RX7 121 "CrossdockeryModel" "now" "I") (by decide +kernel)) rfl rfl rfl dX7_owes_1 ?_
  refine lv_aload_n hx hb dX7_owes_4 rfl (lv_at hl 0 rfl) ?_
  refine k_get (K := RX7) (T := TX7) (N := 34) (v := .ref (ad g 15 2)) (w := .ref (ad g 15 2)) hx hb fX7 hown hK hW 14 0 hm.o (fun _ => rfl) rfl 9 (by decide) (hts (.fieldLink RX7 16 "CrossdockeryModel" "planned" "[I") (by decide +kernel)) rfl rfl rfl dX7_owes_5 ?_
  refine lv_iload_n hx hb dX7_owes_8 rfl (lv_at hl 1 rfl) ?_
  refine k_iald (z := 8) (k := (l0.toNatClampNeg)) hx hb hK hW 15 2 (hm.a (i := 2) (by decide)) (fun _ => rfl) rfl hv_l0 (v := (D 15 2 (l0.toNatClampNeg))) rfl dX7_owes_9 ?_
  refine lv_icmp_lt (tgt := 36) hx hb dX7_owes_10 (by decide) (fun c1 => ?_) (fun c1 => ?_)
  ·
    refine lv_bipush (v := (-2)) hx hb dX7_owes_36 (by decide) ?_
    have e9 : (s_X7_owes D nl nt ng l0 ah) = (-2) := by unfold s_X7_owes; first | done | (simp only [if_pos c1]; done) | rfl
    exact k_iret hx hb hr hlocks (⟨by rw [e9], hW⟩) hL dX7_owes_38
  ·
    refine lv_aload_n hx hb dX7_owes_13 rfl (lv_at hl 0 rfl) ?_
    refine k_get (K := RX7) (T := TX7) (N := 34) (v := .ref (ad g 15 6)) (w := .ref (ad g 15 6)) hx hb fX7 hown hK hW 14 0 hm.o (fun _ => rfl) rfl 13 (by decide) (hts (.fieldLink RX7 29 "CrossdockeryModel" "waited" "[I") (by decide +kernel)) rfl rfl rfl dX7_owes_14 ?_
    refine lv_iload_n hx hb dX7_owes_17 rfl (lv_at hl 1 rfl) ?_
    refine k_iald (z := 8) (k := (l0.toNatClampNeg)) hx hb hK hW 15 6 (hm.a (i := 6) (by decide)) (fun _ => rfl) rfl hv_l0 (v := (D 15 6 (l0.toNatClampNeg))) rfl dX7_owes_18 ?_
    refine lv_aload_n hx hb dX7_owes_19 rfl (lv_at hl 0 rfl) ?_
    refine k_get (K := RX7) (T := TX7) (N := 34) (v := .ref (ad g 15 0)) (w := .ref (ad g 15 0)) hx hb fX7 hown hK hW 14 0 hm.o (fun _ => rfl) rfl 7 (by decide) (hts (.fieldLink RX7 7 "CrossdockeryModel" "isBringing" "[Z") (by decide +kernel)) rfl rfl rfl dX7_owes_20 ?_
    refine lv_iload_n hx hb dX7_owes_23 rfl (lv_at hl 1 rfl) ?_
    refine k_zald (z := 8) (k := (l0.toNatClampNeg)) hx hb hK hW 15 0 (hm.a (i := 0) (by decide)) (fun _ => rfl) rfl hv_l0 (v := (D 15 0 (l0.toNatClampNeg))) rfl dX7_owes_24 ?_
    refine k_join (pc' := 33) (fun H locs ls st => k_W X n ad L (k_g C g D) fr H ∧ (∀ q ∈ locs, k_B X ≤ q.base) ∧ lv_has ls 4 [(0, .ref (ad g 14 0)), (1, .int l0), (2, .int ah)] ∧ st = [.int (j_X7_owes_33 D nl nt ng l0 ah), .int (D 15 6 (l0.toNatClampNeg))]) (fun H locs ls st hJ => ?_) (fun join33 => ?_)
    ·
      obtain ⟨hW, hL, hl, rfl⟩ := hJ
      refine lv_icmp_ge (tgt := 39) hx hb dX7_owes_33 (by decide) (fun c3 => ?_) (fun c3 => ?_)
      ·
        refine lv_aload_n hx hb dX7_owes_39 rfl (lv_at hl 0 rfl) ?_
        refine k_get (K := RX7) (T := TX7) (N := 34) (v := .ref (ad g 15 11)) (w := .ref (ad g 15 11)) hx hb fX7 hown hK hW 14 0 hm.o (fun _ => rfl) rfl 18 (by decide) (hts (.fieldLink RX7 44 "CrossdockeryModel" "state" "[C") (by decide +kernel)) rfl rfl rfl dX7_owes_40 ?_
        refine lv_iload_n hx hb dX7_owes_43 rfl (lv_at hl 1 rfl) ?_
        refine k_cald (z := 8) (k := (l0.toNatClampNeg)) hx hb hK hW 15 11 (hm.a (i := 11) (by decide)) (fun _ => rfl) rfl hv_l0 (v := (D 15 11 (l0.toNatClampNeg))) rfl dX7_owes_44 ?_
        refine lv_bipush (v := 100) hx hb dX7_owes_45 (by decide) ?_
        refine lv_icmp_ne (tgt := 56) hx hb dX7_owes_47 (by decide) (fun c4 => ?_) (fun c4 => ?_)
        ·
          refine lv_aload_n hx hb dX7_owes_56 rfl (lv_at hl 0 rfl) ?_
          refine k_get (K := RX7) (T := TX7) (N := 34) (v := .ref (ad g 15 1)) (w := .ref (ad g 15 1)) hx hb fX7 hown hK hW 14 0 hm.o (fun _ => rfl) rfl 8 (by decide) (hts (.fieldLink RX7 13 "CrossdockeryModel" "isHandled" "[Z") (by decide +kernel)) rfl rfl rfl dX7_owes_57 ?_
          refine lv_iload_n hx hb dX7_owes_60 rfl (lv_at hl 2 rfl) ?_
          refine k_zald (z := 8) (k := (ah.toNatClampNeg)) hx hb hK hW 15 1 (hm.a (i := 1) (by decide)) (fun _ => rfl) rfl hv_ah (v := (D 15 1 (ah.toNatClampNeg))) rfl dX7_owes_61 ?_
          refine lv_if_eq (tgt := 86) hx hb dX7_owes_62 (by decide) (fun c5 => ?_) (fun c5 => ?_)
          ·
            refine lv_aload_n hx hb dX7_owes_86 rfl (lv_at hl 0 rfl) ?_
            refine lv_iload_n hx hb dX7_owes_87 rfl (lv_at hl 2 rfl) ?_
            refine k_callV (As := [.int ah]) (rest := []) ⟨hx, hb, hml, hown, hts⟩ hK (c_X7_owesAtDoor X l hm D ah hwf (by assumption)) (cwV 1 hts gX7_owes_X7_owesAtDoor rfl rfl rfl (by decide +kernel) ⟨Nat.le_of_ble_eq_true rfl, Nat.le_of_ble_eq_true rfl⟩) (k_recv hK hW 14 0 hm.o (fun _ => rfl) rfl) hW rfl hl.1 rfl (Nat.le_of_ble_eq_true rfl) dX7_owes_88 ⟨Nat.le_of_ble_eq_true rfl, Nat.le_of_ble_eq_true rfl⟩ hL (fun v9 H locs hp hL => ?_)
            obtain ⟨rfl, hW⟩ := hp
            refine lv_istore_n (lv' := [(3, .int (s_X7_owesAtDoor D nl nt ng ah)), (0, .ref (ad g 14 0)), (1, .int l0), (2, .int ah)]) hx hb dX7_owes_91 rfl hl (by decide) rfl (fun ls hl => ?_)
            refine lv_iload_n hx hb dX7_owes_92 rfl (lv_at hl 0 rfl) ?_
            refine lv_bipush (v := (-2)) hx hb dX7_owes_93 (by decide) ?_
            refine lv_icmp_ne (tgt := 102) hx hb dX7_owes_95 (by decide) (fun c6 => ?_) (fun c6 => ?_)
            ·
              refine lv_iload_n hx hb dX7_owes_102 rfl (lv_at hl 0 rfl) ?_
              have e9 : (s_X7_owes D nl nt ng l0 ah) = (s_X7_owesAtDoor D nl nt ng ah) := by unfold s_X7_owes; first | done | (simp only [if_neg c1, if_pos c3, if_neg c4, if_pos c5, if_neg c6]; done) | rfl
              exact k_iret hx hb hr hlocks (⟨by rw [e9], hW⟩) hL dX7_owes_103
            ·
              refine lv_iload_n hx hb dX7_owes_98 rfl (lv_at hl 3 rfl) ?_
              refine lv_goto (tgt := 103) hx hb dX7_owes_99 (by decide) ?_
              have e9 : (s_X7_owes D nl nt ng l0 ah) = ah := by unfold s_X7_owes; first | done | (simp only [if_neg c1, if_pos c3, if_neg c4, if_pos c5, if_pos c6]; done) | rfl
              exact k_iret hx hb hr hlocks (⟨by rw [e9], hW⟩) hL dX7_owes_103
          ·
            refine lv_aload_n hx hb dX7_owes_65 rfl (lv_at hl 0 rfl) ?_
            refine k_get (K := RX7) (T := TX7) (N := 34) (v := .ref (ad g 15 5)) (w := .ref (ad g 15 5)) hx hb fX7 hown hK hW 14 0 hm.o (fun _ => rfl) rfl 12 (by decide) (hts (.fieldLink RX7 26 "CrossdockeryModel" "arrived" "[I") (by decide +kernel)) rfl rfl rfl dX7_owes_66 ?_
            refine lv_iload_n hx hb dX7_owes_69 rfl (lv_at hl 2 rfl) ?_
            refine k_iald (z := 8) (k := (ah.toNatClampNeg)) hx hb hK hW 15 5 (hm.a (i := 5) (by decide)) (fun _ => rfl) rfl hv_ah (v := (D 15 5 (ah.toNatClampNeg))) rfl dX7_owes_70 ?_
            refine lv_aload_n hx hb dX7_owes_71 rfl (lv_at hl 0 rfl) ?_
            refine k_get (K := RX7) (T := TX7) (N := 34) (v := .ref (ad g 15 2)) (w := .ref (ad g 15 2)) hx hb fX7 hown hK hW 14 0 hm.o (fun _ => rfl) rfl 9 (by decide) (hts (.fieldLink RX7 16 "CrossdockeryModel" "planned" "[I") (by decide +kernel)) rfl rfl rfl dX7_owes_72 ?_
            refine lv_iload_n hx hb dX7_owes_75 rfl (lv_at hl 2 rfl) ?_
            refine k_iald (z := 8) (k := (ah.toNatClampNeg)) hx hb hK hW 15 2 (hm.a (i := 2) (by decide)) (fun _ => rfl) rfl hv_ah (v := (D 15 2 (ah.toNatClampNeg))) rfl dX7_owes_76 ?_
            refine lv_icmp_le (tgt := 84) hx hb dX7_owes_77 (by decide) (fun c7 => ?_) (fun c7 => ?_)
            ·
              refine lv_iconst (v := (-1)) hx hb dX7_owes_84 (by decide) ?_
              have e9 : (s_X7_owes D nl nt ng l0 ah) = (-1) := by unfold s_X7_owes; first | done | (simp only [if_neg c1, if_pos c3, if_neg c4, if_neg c5, if_pos c7]; done) | rfl
              exact k_iret hx hb hr hlocks (⟨by rw [e9], hW⟩) hL dX7_owes_85
            ·
              refine lv_iload_n hx hb dX7_owes_80 rfl (lv_at hl 2 rfl) ?_
              refine lv_goto (tgt := 85) hx hb dX7_owes_81 (by decide) ?_
              have e9 : (s_X7_owes D nl nt ng l0 ah) = ah := by unfold s_X7_owes; first | done | (simp only [if_neg c1, if_pos c3, if_neg c4, if_neg c5, if_neg c7]; done) | rfl
              exact k_iret hx hb hr hlocks (⟨by rw [e9], hW⟩) hL dX7_owes_85
        ·
          refine lv_aload_n hx hb dX7_owes_50 rfl (lv_at hl 0 rfl) ?_
          refine lv_iload_n hx hb dX7_owes_51 rfl (lv_at hl 1 rfl) ?_
          refine k_callV (As := [.int l0]) (rest := []) ⟨hx, hb, hml, hown, hts⟩ hK (c_X7_owesAtDoor X l hm D l0 hwf (by assumption)) (cwV 1 hts gX7_owes_X7_owesAtDoor rfl rfl rfl (by decide +kernel) ⟨Nat.le_of_ble_eq_true rfl, Nat.le_of_ble_eq_true rfl⟩) (k_recv hK hW 14 0 hm.o (fun _ => rfl) rfl) hW rfl hl.1 rfl (Nat.le_of_ble_eq_true rfl) dX7_owes_52 ⟨Nat.le_of_ble_eq_true rfl, Nat.le_of_ble_eq_true rfl⟩ hL (fun v9 H locs hp hL => ?_)
          obtain ⟨rfl, hW⟩ := hp
          have e9 : (s_X7_owes D nl nt ng l0 ah) = (s_X7_owesAtDoor D nl nt ng l0) := by unfold s_X7_owes; first | done | (simp only [if_neg c1, if_pos c3, if_pos c4]; done) | rfl
          exact k_iret hx hb hr hlocks (⟨by rw [e9], hW⟩) hL dX7_owes_55
      ·
        refine lv_bipush (v := (-2)) hx hb dX7_owes_36 (by decide) ?_
        have e9 : (s_X7_owes D nl nt ng l0 ah) = (-2) := by unfold s_X7_owes; first | done | (simp only [if_neg c1, if_neg c3]; done) | rfl
        exact k_iret hx hb hr hlocks (⟨by rw [e9], hW⟩) hL dX7_owes_38
    ·
      refine lv_if_eq (tgt := 32) hx hb dX7_owes_25 (by decide) (fun c2 => ?_) (fun c2 => ?_)
      ·
        refine lv_iconst (v := 5) hx hb dX7_owes_32 (by decide) ?_
        have e9 : (j_X7_owes_33 D nl nt ng l0 ah) = 5 := by unfold j_X7_owes_33; first | done | (simp only [if_pos c2]; done) | rfl
        exact join33 _ _ _ _ (by rw [e9]; exact ⟨hW, hL, lv_sub hl [0, 1, 2] rfl, rfl⟩)
      ·
        refine lv_iconst (v := 0) hx hb dX7_owes_28 (by decide) ?_
        refine lv_goto (tgt := 33) hx hb dX7_owes_29 (by decide) ?_
        have e9 : (j_X7_owes_33 D nl nt ng l0 ah) = 0 := by unfold j_X7_owes_33; first | done | (simp only [if_neg c2]; done) | rfl
        exact join33 _ _ _ _ (by rw [e9]; exact ⟨hW, hL, lv_sub hl [0, 1, 2] rfl, rfl⟩)
