/-! an event and what it does to a dock's state: contents, lorries, transfers, gangs -/
abbrev kSt : Type := KD × Nat × Nat × Nat
def s_und (σ : kSt) (w : Nat → Int32) : kSt × Int32 :=
  if w 0 = 0 then ((s_X0_takeOnLorry σ.1 σ.2.1 (w 1) (w 2) (w 3), σ.2.1 + 1, σ.2.2.1, σ.2.2.2), nI σ.2.1)
  else if w 0 = 1 then ((s_X0_takeOnTransfer σ.1 σ.2.2.1 (w 1) (w 2) (w 3), σ.2.1, σ.2.2.1 + 1, σ.2.2.2), nI σ.2.2.1)
  else if w 0 = 2 then (((s_X3_planFor σ.1 (w 1).toNatClampNeg (w 2)).1, σ.2), (s_X3_planFor σ.1 (w 1).toNatClampNeg (w 2)).2)
  else if w 0 = 3 then ((s_X3_comeIn σ.1 (w 1).toNatClampNeg (σ.1 0 0 4), σ.2), s_X0_lorriesInYard (s_X3_comeIn σ.1 (w 1).toNatClampNeg (σ.1 0 0 4)) σ.2.1 σ.2.2.1 σ.2.2.2)
  else if w 0 = 4 then (((s_X0_sendAway σ.1 σ.2.1 σ.2.2.1 σ.2.2.2 (w 1).toNatClampNeg).1, σ.2), (s_X0_sendAway σ.1 σ.2.1 σ.2.2.1 σ.2.2.2 (w 1).toNatClampNeg).2)
  else if w 0 = 5 then ((s_X0_takeOnGang σ.1 σ.2.2.2 (w 1) (w 2) (w 3), σ.2.1, σ.2.2.1, σ.2.2.2 + 1), nI σ.2.2.2)
  else if w 0 = 6 then (((s_X2_moveTo σ.1 (w 1).toNatClampNeg (w 2)).1, σ.2), (s_X2_moveTo σ.1 (w 1).toNatClampNeg (w 2)).2)
  else (((s_X0_passMinutes σ.1 σ.2.1 σ.2.2.1 σ.2.2.2 (w 1).toNatClampNeg).1, σ.2), (s_X0_passMinutes σ.1 σ.2.1 σ.2.2.1 σ.2.2.2 (w 1).toNatClampNeg).2)
def kOk (σ : kSt) (w : Nat → Int32) : Prop :=
  (w 0 = 0 ∧ σ.2.1 < 8) ∨ (w 0 = 1 ∧ σ.2.2.1 < 16 ∧ vp_in (w 1) σ.2.1 ∧ vp_in (w 2) σ.2.1) ∨ (w 0 = 2 ∧ vp_in (w 1) σ.2.1) ∨ (w 0 = 3 ∧ vp_in (w 1) σ.2.1) ∨ (w 0 = 4 ∧ vp_in (w 1) σ.2.1) ∨ (w 0 = 5 ∧ σ.2.2.2 < 4) ∨ (w 0 = 6 ∧ vp_in (w 1) σ.2.2.2) ∨ (w 0 = 7 ∧ w 1 = nI (w 1).toNatClampNeg ∧ (w 1).toNatClampNeg < 2 ^ 31)
theorem s_und_0 {σ : kSt} {w : Nat → Int32} (h : w 0 = 0) : s_und σ w = ((s_X0_takeOnLorry σ.1 σ.2.1 (w 1) (w 2) (w 3), σ.2.1 + 1, σ.2.2.1, σ.2.2.2), nI σ.2.1) := by
  unfold s_und; rw [h]; first | done | rfl
theorem s_und_1 {σ : kSt} {w : Nat → Int32} (h : w 0 = 1) : s_und σ w = ((s_X0_takeOnTransfer σ.1 σ.2.2.1 (w 1) (w 2) (w 3), σ.2.1, σ.2.2.1 + 1, σ.2.2.2), nI σ.2.2.1) := by
  unfold s_und; rw [h]; first | done | rfl
theorem s_und_2 {σ : kSt} {w : Nat → Int32} (h : w 0 = 2) : s_und σ w = (((s_X3_planFor σ.1 (w 1).toNatClampNeg (w 2)).1, σ.2), (s_X3_planFor σ.1 (w 1).toNatClampNeg (w 2)).2) := by
  unfold s_und; rw [h]; first | done | rfl
theorem s_und_3 {σ : kSt} {w : Nat → Int32} (h : w 0 = 3) : s_und σ w = ((s_X3_comeIn σ.1 (w 1).toNatClampNeg (σ.1 0 0 4), σ.2), s_X0_lorriesInYard (s_X3_comeIn σ.1 (w 1).toNatClampNeg (σ.1 0 0 4)) σ.2.1 σ.2.2.1 σ.2.2.2) := by
  unfold s_und; rw [h]; first | done | rfl
theorem s_und_4 {σ : kSt} {w : Nat → Int32} (h : w 0 = 4) : s_und σ w = (((s_X0_sendAway σ.1 σ.2.1 σ.2.2.1 σ.2.2.2 (w 1).toNatClampNeg).1, σ.2), (s_X0_sendAway σ.1 σ.2.1 σ.2.2.1 σ.2.2.2 (w 1).toNatClampNeg).2) := by
  unfold s_und; rw [h]; first | done | rfl
theorem s_und_5 {σ : kSt} {w : Nat → Int32} (h : w 0 = 5) : s_und σ w = ((s_X0_takeOnGang σ.1 σ.2.2.2 (w 1) (w 2) (w 3), σ.2.1, σ.2.2.1, σ.2.2.2 + 1), nI σ.2.2.2) := by
  unfold s_und; rw [h]; first | done | rfl
theorem s_und_6 {σ : kSt} {w : Nat → Int32} (h : w 0 = 6) : s_und σ w = (((s_X2_moveTo σ.1 (w 1).toNatClampNeg (w 2)).1, σ.2), (s_X2_moveTo σ.1 (w 1).toNatClampNeg (w 2)).2) := by
  unfold s_und; rw [h]; first | done | rfl
theorem s_und_7 {σ : kSt} {w : Nat → Int32} (h : w 0 = 7) : s_und σ w = (((s_X0_passMinutes σ.1 σ.2.1 σ.2.2.1 σ.2.2.2 (w 1).toNatClampNeg).1, σ.2), (s_X0_passMinutes σ.1 σ.2.1 σ.2.2.1 σ.2.2.2 (w 1).toNatClampNeg).2) := by
  unfold s_und; rw [h]; first | done | rfl
/-- the world once owner g's dock has come to the state σ -/
def kNext (X : kX) (g : Nat) (n : Nat → Nat → Nat) (ad L : Nat → Nat → Nat → Nat) (C : Nat → Nat → Nat → Nat → Int32) (fr : Nat → Option Cell) (σ : kSt) (H : Heap) : Prop :=
  ∃ n' ad' L', (∀ g', g' ≠ g → n' g' = n g') ∧ k_oth g ad ad' L L' ∧ kDk n' g σ.2.1 σ.2.2.1 σ.2.2.2 ∧ n' g 9 = 0 ∧ cWF σ.1 σ.2.1 σ.2.2.1 ∧ k_W X n' ad' L' (k_g C g σ.1) fr H
theorem kNext.mk {X : kX} {g : Nat} {n : Nat → Nat → Nat} {ad L : Nat → Nat → Nat → Nat} {C : Nat → Nat → Nat → Nat → Int32} {fr : Nat → Option Cell} {σ : kSt} {H : Heap} (n' ad' L') (h1 : ∀ g', g' ≠ g → n' g' = n g') (h2 : k_oth g ad ad' L L') (h3 : kDk n' g σ.2.1 σ.2.2.1 σ.2.2.2) (h4 : n' g 9 = 0) (h5 : cWF σ.1 σ.2.1 σ.2.2.1) (h6 : k_W X n' ad' L' (k_g C g σ.1) fr H) : kNext X g n ad L C fr σ H := ⟨n', ad', L', h1, h2, h3, h4, h5, h6⟩
theorem kNext.stay {X : kX} {g : Nat} {n : Nat → Nat → Nat} {ad L : Nat → Nat → Nat → Nat} {C : Nat → Nat → Nat → Nat → Int32} {fr : Nat → Option Cell} {nl nt ng : Nat} {D' : KD} {H : Heap} (h3 : kDk n g nl nt ng) (h4 : n g 9 = 0) (h5 : cWF D' nl nt) (h6 : k_W X n ad L (k_g C g D') fr H) : kNext X g n ad L C fr (D', nl, nt, ng) H := ⟨n, ad, L, fun _ _ => rfl, k_oth.rfl9, h3, h4, h5, h6⟩
/-- what an event costs: a lorry, a transfer, a gang is made -/
def k_cst (w : Nat → Int32) : Nat := if w 0 = 0 ∨ w 0 = 1 ∨ w 0 = 5 then 1 else 0
theorem k_cst_0 {w : Nat → Int32} (h : w 0 = 0) : k_cst w = 1 := if_pos (Or.inl h)
theorem k_cst_1 {w : Nat → Int32} (h : w 0 = 1) : k_cst w = 1 := if_pos (Or.inr (Or.inl h))
theorem k_cst_5 {w : Nat → Int32} (h : w 0 = 5) : k_cst w = 1 := if_pos (Or.inr (Or.inr h))
theorem k_cst_le (w : Nat → Int32) : k_cst w ≤ 1 := by
  unfold k_cst
  split <;> omega
theorem k_cst_cnt {σ : kSt} {w : Nat → Int32} (h : kOk σ w) : (s_und σ w).1.2.1 + (s_und σ w).1.2.2.1 + (s_und σ w).1.2.2.2 = σ.2.1 + σ.2.2.1 + σ.2.2.2 + k_cst w := by
  rcases h with ⟨hk, -⟩ | ⟨hk, -⟩ | ⟨hk, -⟩ | ⟨hk, -⟩ | ⟨hk, -⟩ | ⟨hk, -⟩ | ⟨hk, -⟩ | ⟨hk, -⟩
  · rw [s_und_0 hk, k_cst_0 hk]; dsimp only; omega
  · rw [s_und_1 hk, k_cst_1 hk]; dsimp only; omega
  · rw [s_und_2 hk]; unfold k_cst; rw [hk]; first | done | rfl
  · rw [s_und_3 hk]; unfold k_cst; rw [hk]; first | done | rfl
  · rw [s_und_4 hk]; unfold k_cst; rw [hk]; first | done | rfl
  · rw [s_und_5 hk, k_cst_5 hk]; dsimp only; omega
  · rw [s_und_6 hk]; unfold k_cst; rw [hk]; first | done | rfl
  · rw [s_und_7 hk]; unfold k_cst; rw [hk]; first | done | rfl
set_option maxHeartbeats 400000 in
set_option maxRecDepth 100000 in
theorem c_X0_undergo (X : kX) (l : Launch) {n : Nat → Nat → Nat} {ad L : Nat → Nat → Nat → Nat} {C : Nat → Nat → Nat → Nat → Int32} {fr : Nat → Option Cell} {g : Nat} {nl nt ng : Nat} (hd : kDk n g nl nt ng) (D : KD) (hwf : cWF D nl nt) (h9 : n g 9 = 0) (hg5 : 5 ≠ g) {e9 : Nat} (he9 : k_v n 5 19 e9) (hok : kOk (D, nl, nt, ng) (C 5 19 e9)) : k_M X l yX0_undergo wsX0_undergo ({ frames := 8, cells := (3 * k_cst (C 5 19 e9)), slots := (34 * k_cst (C 5 19 e9)), locals := 213 }) [.ref (ad g 0 0), .ref (ad 5 19 e9)] (k_W X n ad L (k_g C g D) fr) (fun v H => v = some (.int (s_und (D, nl, nt, ng) (C 5 19 e9)).2) ∧ kNext X g n ad L C fr (s_und (D, nl, nt, ng) (C 5 19 e9)).1 H) (3 * k_cst (C 5 19 e9)) (34 * k_cst (C 5 19 e9)) := by
  refine k_M.of (cc := cX0_undergo) (maxL := 2) (ret := (some .int)) (by decide) rfl (Nat.le_of_ble_eq_true rfl) ?_
  intro p e s m args below meth c ls hx hb hr hml hown hts hlocks hnm hK hW hl
  have hL : ∀ q ∈ ([] : List Loc), k_B X ≤ q.base := fun _ h => nomatch h
  have hl : lv_has ls 2 [(0, .ref (ad g 0 0)), (1, .ref (ad 5 19 e9))] := hl
  have fX0 : ∀ w ∈ u_ws RX0 TX0 5, w.before args s = true := fun w h => hts w ((by decide +kernel : ∀ w ∈ u_ws RX0 TX0 5, w ∈ wsX0_undergo) w h)
  have fX1 : ∀ w ∈ u_ws RX1 TX1 4, w.before args s = true := fun w h => hts w ((by decide +kernel : ∀ w ∈ u_ws RX1 TX1 4, w ∈ wsX0_undergo) w h)
  have hl8 := hd.l8
  have ht16 := hd.t16
  have hg4 := hd.g4
  refine lv_aload_n hx hb dX0_undergo_0 rfl (lv_at hl 1 rfl) ?_
  refine k_get (g := 5) (D := k_g C g D 5) (K := RX1) (T := TX1) (N := 4) (v := .int (k_g C g D 5 19 e9 0)) (w := .int (C 5 19 e9 0)) hx hb fX1 hown hK (k_ev hW) 19 e9 he9 (fun _ => rfl) rfl 0 (by decide) (hts (.fieldLink RX0 53 "Crossdockery$Event" "kind" "I") (by decide +kernel)) rfl rfl (congrArg Value.int (k_evv hg5 e9 0)) dX0_undergo_1 ?_
  rcases hok with ⟨hk, h1⟩ | ⟨hk, h1, h2, h3⟩ | ⟨hk, h1⟩ | ⟨hk, h1⟩ | ⟨hk, h1⟩ | ⟨hk, h1⟩ | ⟨hk, h1⟩ | ⟨hk, h1, h2⟩
  ·
    replace hk : C 5 19 e9 0 = 0 := hk
    have hcs : k_cst (C 5 19 e9) = 1 := k_cst_0 hk
    refine W.eq (g2 := F0 m 4 ls [.int 0]) (by rw [hk]; first | done | rfl) ?_
    refine lv_tableIn (off := 48) (tgt := 52) hx hb dX0_undergo_4 (by decide) (by decide) rfl (by decide) ?_
    refine lv_aload_n hx hb dX0_undergo_52 rfl (lv_at hl 0 rfl) ?_
    refine lv_aload_n hx hb dX0_undergo_53 rfl (lv_at hl 1 rfl) ?_
    refine k_callV (As := [.ref (ad 5 19 e9)]) (rest := []) ⟨hx, hb, hml, hown, hts⟩ hK (c_X0_takeOnLorry X l hd D hwf h9 hg5 he9 h1) (cwV 1 hts gX0_undergo_X0_takeOnLorry rfl rfl rfl (by decide +kernel) ⟨Nat.le_of_ble_eq_true rfl, Nat.le_of_ble_eq_true rfl⟩) (k_recv hK hW 0 0 hd.o (fun _ => rfl) rfl) hW rfl hl.1 rfl (Nat.le_of_ble_eq_true rfl) dX0_undergo_54 ⟨(by show _ ≤ 3 * k_cst (C 5 19 e9); omega), (by show _ ≤ 34 * k_cst (C 5 19 e9); omega)⟩ hL (fun v9 H locs hp hL => ?_)
    obtain ⟨rfl, ad', L', ho, hW⟩ := hp
    refine k_more (cells' := 3 * k_cst (C 5 19 e9)) (slots' := 34 * k_cst (C 5 19 e9)) (by omega) (by omega) ?_
    exact k_iret hx hb hr hlocks (by rw [s_und_0 (σ := (D, nl, nt, ng)) hk]; exact ⟨rfl, kNext.mk _ ad' L' (fun g' hg => k_n2_g hg) ho (hd.n2l h1) ((k_n2_r (by decide) _).trans h9) (cWF_takeOnLorry hwf _ _ _) hW⟩) hL dX0_undergo_57
  ·
    replace hk : C 5 19 e9 0 = 1 := hk
    have hcs : k_cst (C 5 19 e9) = 1 := k_cst_1 hk
    refine W.eq (g2 := F0 m 4 ls [.int 1]) (by rw [hk]; first | done | rfl) ?_
    refine lv_tableIn (off := 54) (tgt := 58) hx hb dX0_undergo_4 (by decide) (by decide) rfl (by decide) ?_
    refine lv_aload_n hx hb dX0_undergo_58 rfl (lv_at hl 0 rfl) ?_
    refine lv_aload_n hx hb dX0_undergo_59 rfl (lv_at hl 1 rfl) ?_
    refine k_callV (As := [.ref (ad 5 19 e9)]) (rest := []) ⟨hx, hb, hml, hown, hts⟩ hK (c_X0_takeOnTransfer X l hd D hwf h9 hg5 he9 h1 h2 h3) (cwV 1 hts gX0_undergo_X0_takeOnTransfer rfl rfl rfl (by decide +kernel) ⟨Nat.le_of_ble_eq_true rfl, Nat.le_of_ble_eq_true rfl⟩) (k_recv hK hW 0 0 hd.o (fun _ => rfl) rfl) hW rfl hl.1 rfl (Nat.le_of_ble_eq_true rfl) dX0_undergo_60 ⟨(by show _ ≤ 3 * k_cst (C 5 19 e9); omega), (by show _ ≤ 34 * k_cst (C 5 19 e9); omega)⟩ hL (fun v9 H locs hp hL => ?_)
    obtain ⟨rfl, ad', L', ho, hW⟩ := hp
    refine k_more (cells' := 3 * k_cst (C 5 19 e9)) (slots' := 34 * k_cst (C 5 19 e9)) (by omega) (by omega) ?_
    exact k_iret hx hb hr hlocks (by rw [s_und_1 (σ := (D, nl, nt, ng)) hk]; exact ⟨rfl, kNext.mk _ ad' L' (fun g' hg => k_n2_g hg) ho (hd.n2t h1) ((k_n2_r (by decide) _).trans h9) (cWF_takeOnTransfer hwf h2 h3 _) hW⟩) hL dX0_undergo_63
  ·
    replace hk : C 5 19 e9 0 = 2 := hk
    refine W.eq (g2 := F0 m 4 ls [.int 2]) (by rw [hk]; first | done | rfl) ?_
    refine lv_tableIn (off := 60) (tgt := 64) hx hb dX0_undergo_4 (by decide) (by decide) rfl (by decide) ?_
    refine lv_aload_n hx hb dX0_undergo_64 rfl (lv_at hl 0 rfl) ?_
    refine lv_aload_n hx hb dX0_undergo_65 rfl (lv_at hl 1 rfl) ?_
    refine k_get (g := 5) (D := k_g C g D 5) (K := RX1) (T := TX1) (N := 4) (v := .int (k_g C g D 5 19 e9 1)) (w := .int (C 5 19 e9 1)) hx hb fX1 hown hK (k_ev hW) 19 e9 he9 (fun _ => rfl) rfl 1 (by decide) (hts (.fieldLink RX0 66 "Crossdockery$Event" "first" "I") (by decide +kernel)) rfl rfl (congrArg Value.int (k_evv hg5 e9 1)) dX0_undergo_66 ?_
    refine k_callV (As := [.int (C 5 19 e9 1)]) (rest := []) ⟨hx, hb, hml, hown, hts⟩ hK (c_X0_existingLorry_v X l hd D (x := (C 5 19 e9 1)) (by assumption)) (cwV 1 hts gX0_undergo_X0_existingLorry rfl rfl rfl (by decide +kernel) ⟨Nat.le_of_ble_eq_true rfl, Nat.le_of_ble_eq_true rfl⟩) (k_recv hK hW 0 0 hd.o (fun _ => rfl) rfl) hW rfl hl.1 rfl (Nat.le_of_ble_eq_true rfl) dX0_undergo_69 ⟨Nat.le_of_ble_eq_true rfl, Nat.le_of_ble_eq_true rfl⟩ hL (fun v9 H locs hp hL => ?_)
    obtain ⟨rfl, hW⟩ := hp
    refine lv_aload_n hx hb dX0_undergo_72 rfl (lv_at hl 1 rfl) ?_
    refine k_get (g := 5) (D := k_g C g D 5) (K := RX1) (T := TX1) (N := 4) (v := .int (k_g C g D 5 19 e9 2)) (w := .int (C 5 19 e9 2)) hx hb fX1 hown hK (k_ev hW) 19 e9 he9 (fun _ => rfl) rfl 2 (by decide) (hts (.fieldLink RX0 73 "Crossdockery$Event" "second" "I") (by decide +kernel)) rfl rfl (congrArg Value.int (k_evv hg5 e9 2)) dX0_undergo_73 ?_
    refine k_callV (As := [.int (C 5 19 e9 2)]) (rest := []) ⟨hx, hb, hml, hown, hts⟩ hK (c_X3_planFor X l hd D ((C 5 19 e9 1).toNatClampNeg) (vp_in.lt (by assumption : vp_in (C 5 19 e9 1) nl)) (C 5 19 e9 2)) (cwV 1 hts gX0_undergo_X3_planFor rfl rfl rfl (by decide +kernel) ⟨Nat.le_of_ble_eq_true rfl, Nat.le_of_ble_eq_true rfl⟩) (k_recv hK hW 4 ((C 5 19 e9 1).toNatClampNeg) (hd.lo (vp_in.lt (by assumption : vp_in (C 5 19 e9 1) nl))) (fun _ => rfl) rfl) hW rfl hl.1 rfl (Nat.le_of_ble_eq_true rfl) dX0_undergo_76 ⟨Nat.le_of_ble_eq_true rfl, Nat.le_of_ble_eq_true rfl⟩ hL (fun v9 H locs hp hL => ?_)
    obtain ⟨rfl, hW⟩ := hp
    refine k_more (cells' := 3 * k_cst (C 5 19 e9)) (slots' := 34 * k_cst (C 5 19 e9)) (by omega) (by omega) ?_
    exact k_iret hx hb hr hlocks (by rw [s_und_2 (σ := (D, nl, nt, ng)) hk]; exact ⟨rfl, kNext.stay hd h9 (cWF_X3_planFor (ng := ng) hwf _ _) hW⟩) hL dX0_undergo_79
  ·
    replace hk : C 5 19 e9 0 = 3 := hk
    refine W.eq (g2 := F0 m 4 ls [.int 3]) (by rw [hk]; first | done | rfl) ?_
    refine lv_tableIn (off := 76) (tgt := 80) hx hb dX0_undergo_4 (by decide) (by decide) rfl (by decide) ?_
    refine lv_aload_n hx hb dX0_undergo_80 rfl (lv_at hl 0 rfl) ?_
    refine lv_aload_n hx hb dX0_undergo_81 rfl (lv_at hl 1 rfl) ?_
    refine k_get (g := 5) (D := k_g C g D 5) (K := RX1) (T := TX1) (N := 4) (v := .int (k_g C g D 5 19 e9 1)) (w := .int (C 5 19 e9 1)) hx hb fX1 hown hK (k_ev hW) 19 e9 he9 (fun _ => rfl) rfl 1 (by decide) (hts (.fieldLink RX0 66 "Crossdockery$Event" "first" "I") (by decide +kernel)) rfl rfl (congrArg Value.int (k_evv hg5 e9 1)) dX0_undergo_82 ?_
    refine k_callV (As := [.int (C 5 19 e9 1)]) (rest := []) ⟨hx, hb, hml, hown, hts⟩ hK (c_X0_existingLorry_v X l hd D (x := (C 5 19 e9 1)) (by assumption)) (cwV 1 hts gX0_undergo_X0_existingLorry rfl rfl rfl (by decide +kernel) ⟨Nat.le_of_ble_eq_true rfl, Nat.le_of_ble_eq_true rfl⟩) (k_recv hK hW 0 0 hd.o (fun _ => rfl) rfl) hW rfl hl.1 rfl (Nat.le_of_ble_eq_true rfl) dX0_undergo_85 ⟨Nat.le_of_ble_eq_true rfl, Nat.le_of_ble_eq_true rfl⟩ hL (fun v9 H locs hp hL => ?_)
    obtain ⟨rfl, hW⟩ := hp
    refine lv_aload_n hx hb dX0_undergo_88 rfl (lv_at hl 0 rfl) ?_
    refine k_get (K := RX0) (T := TX0) (N := 5) (v := .int (D 0 0 4)) (w := .int (D 0 0 4)) hx hb fX0 hown hK hW 0 0 hd.o (fun _ => rfl) rfl 4 (by decide) (hts (.fieldLink RX0 80 "Crossdockery$Dock" "minute" "I") (by decide +kernel)) rfl rfl rfl dX0_undergo_89 ?_
    refine k_callV (As := [.int (D 0 0 4)]) (rest := []) ⟨hx, hb, hml, hown, hts⟩ hK (c_X3_comeIn X l hd D ((C 5 19 e9 1).toNatClampNeg) (vp_in.lt (by assumption : vp_in (C 5 19 e9 1) nl)) (D 0 0 4)) (cwV 1 hts gX0_undergo_X3_comeIn rfl rfl rfl (by decide +kernel) ⟨Nat.le_of_ble_eq_true rfl, Nat.le_of_ble_eq_true rfl⟩) (k_recv hK hW 4 ((C 5 19 e9 1).toNatClampNeg) (hd.lo (vp_in.lt (by assumption : vp_in (C 5 19 e9 1) nl))) (fun _ => rfl) rfl) hW rfl hl.1 rfl (Nat.le_of_ble_eq_true rfl) dX0_undergo_92 ⟨Nat.le_of_ble_eq_true rfl, Nat.le_of_ble_eq_true rfl⟩ hL (fun v9 H locs hp hL => ?_)
    obtain ⟨rfl, hW⟩ := hp
    refine lv_aload_n hx hb dX0_undergo_95 rfl (lv_at hl 0 rfl) ?_
    refine k_callV (As := []) (rest := []) ⟨hx, hb, hml, hown, hts⟩ hK (c_X0_lorriesInYard X l hd (s_X3_comeIn D ((C 5 19 e9 1).toNatClampNeg) (D 0 0 4)) ) (cwV 0 hts gX0_undergo_X0_lorriesInYard rfl rfl rfl (by decide +kernel) ⟨Nat.le_of_ble_eq_true rfl, Nat.le_of_ble_eq_true rfl⟩) (k_recv hK hW 0 0 hd.o (fun _ => rfl) rfl) hW rfl hl.1 rfl (Nat.le_of_ble_eq_true rfl) dX0_undergo_96 ⟨Nat.le_of_ble_eq_true rfl, Nat.le_of_ble_eq_true rfl⟩ hL (fun v9 H locs hp hL => ?_)
    obtain ⟨rfl, hW⟩ := hp
    refine k_more (cells' := 3 * k_cst (C 5 19 e9)) (slots' := 34 * k_cst (C 5 19 e9)) (by omega) (by omega) ?_
    exact k_iret hx hb hr hlocks (by rw [s_und_3 (σ := (D, nl, nt, ng)) hk]; exact ⟨rfl, kNext.stay hd h9 (cWF_X3_comeIn (ng := ng) hwf _ _) hW⟩) hL dX0_undergo_99
  ·
    replace hk : C 5 19 e9 0 = 4 := hk
    refine W.eq (g2 := F0 m 4 ls [.int 4]) (by rw [hk]; first | done | rfl) ?_
    refine lv_tableIn (off := 96) (tgt := 100) hx hb dX0_undergo_4 (by decide) (by decide) rfl (by decide) ?_
    refine lv_aload_n hx hb dX0_undergo_100 rfl (lv_at hl 0 rfl) ?_
    refine lv_aload_n hx hb dX0_undergo_101 rfl (lv_at hl 0 rfl) ?_
    refine lv_aload_n hx hb dX0_undergo_102 rfl (lv_at hl 1 rfl) ?_
    refine k_get (g := 5) (D := k_g C g D 5) (K := RX1) (T := TX1) (N := 4) (v := .int (k_g C g D 5 19 e9 1)) (w := .int (C 5 19 e9 1)) hx hb fX1 hown hK (k_ev hW) 19 e9 he9 (fun _ => rfl) rfl 1 (by decide) (hts (.fieldLink RX0 66 "Crossdockery$Event" "first" "I") (by decide +kernel)) rfl rfl (congrArg Value.int (k_evv hg5 e9 1)) dX0_undergo_103 ?_
    refine k_callV (As := [.int (C 5 19 e9 1)]) (rest := [.ref (ad g 0 0)]) ⟨hx, hb, hml, hown, hts⟩ hK (c_X0_existingLorry_v X l hd D (x := (C 5 19 e9 1)) (by assumption)) (cwV 1 hts gX0_undergo_X0_existingLorry rfl rfl rfl (by decide +kernel) ⟨Nat.le_of_ble_eq_true rfl, Nat.le_of_ble_eq_true rfl⟩) (k_recv hK hW 0 0 hd.o (fun _ => rfl) rfl) hW rfl hl.1 rfl (Nat.le_of_ble_eq_true rfl) dX0_undergo_106 ⟨Nat.le_of_ble_eq_true rfl, Nat.le_of_ble_eq_true rfl⟩ hL (fun v9 H locs hp hL => ?_)
    obtain ⟨rfl, hW⟩ := hp
    refine k_callV (As := [.ref (ad g 4 ((C 5 19 e9 1).toNatClampNeg))]) (rest := []) ⟨hx, hb, hml, hown, hts⟩ hK (c_X0_sendAway X l hd D hwf (C 5 19 e9 1).toNatClampNeg (vp_in.lt h1)) (cwV 1 hts gX0_undergo_X0_sendAway rfl rfl rfl (by decide +kernel) ⟨Nat.le_of_ble_eq_true rfl, Nat.le_of_ble_eq_true rfl⟩) (k_recv hK hW 0 0 hd.o (fun _ => rfl) rfl) hW rfl hl.1 rfl (Nat.le_of_ble_eq_true rfl) dX0_undergo_109 ⟨Nat.le_of_ble_eq_true rfl, Nat.le_of_ble_eq_true rfl⟩ hL (fun v9 H locs hp hL => ?_)
    obtain ⟨rfl, hW, hc⟩ := hp
    refine k_more (cells' := 3 * k_cst (C 5 19 e9)) (slots' := 34 * k_cst (C 5 19 e9)) (by omega) (by omega) ?_
    exact k_iret hx hb hr hlocks (by rw [s_und_4 (σ := (D, nl, nt, ng)) hk]; exact ⟨rfl, kNext.stay hd h9 (hc) hW⟩) hL dX0_undergo_112
  ·
    replace hk : C 5 19 e9 0 = 5 := hk
    have hcs : k_cst (C 5 19 e9) = 1 := k_cst_5 hk
    refine W.eq (g2 := F0 m 4 ls [.int 5]) (by rw [hk]; first | done | rfl) ?_
    refine lv_tableIn (off := 109) (tgt := 113) hx hb dX0_undergo_4 (by decide) (by decide) rfl (by decide) ?_
    refine lv_aload_n hx hb dX0_undergo_113 rfl (lv_at hl 0 rfl) ?_
    refine lv_aload_n hx hb dX0_undergo_114 rfl (lv_at hl 1 rfl) ?_
    refine k_callV (As := [.ref (ad 5 19 e9)]) (rest := []) ⟨hx, hb, hml, hown, hts⟩ hK (c_X0_takeOnGang X l hd D hwf h9 hg5 he9 h1) (cwV 1 hts gX0_undergo_X0_takeOnGang rfl rfl rfl (by decide +kernel) ⟨Nat.le_of_ble_eq_true rfl, Nat.le_of_ble_eq_true rfl⟩) (k_recv hK hW 0 0 hd.o (fun _ => rfl) rfl) hW rfl hl.1 rfl (Nat.le_of_ble_eq_true rfl) dX0_undergo_115 ⟨(by show _ ≤ 3 * k_cst (C 5 19 e9); omega), (by show _ ≤ 34 * k_cst (C 5 19 e9); omega)⟩ hL (fun v9 H locs hp hL => ?_)
    obtain ⟨rfl, ad', L', ho, hW⟩ := hp
    refine k_more (cells' := 3 * k_cst (C 5 19 e9)) (slots' := 34 * k_cst (C 5 19 e9)) (by omega) (by omega) ?_
    exact k_iret hx hb hr hlocks (by rw [s_und_5 (σ := (D, nl, nt, ng)) hk]; exact ⟨rfl, kNext.mk _ ad' L' (fun g' hg => k_n2_g hg) ho (hd.n2g h1) ((k_n2_r (by decide) _).trans h9) (cWF_takeOnGang hwf _ _ _ _) hW⟩) hL dX0_undergo_118
  ·
    replace hk : C 5 19 e9 0 = 6 := hk
    refine W.eq (g2 := F0 m 4 ls [.int 6]) (by rw [hk]; first | done | rfl) ?_
    refine lv_tableIn (off := 115) (tgt := 119) hx hb dX0_undergo_4 (by decide) (by decide) rfl (by decide) ?_
    refine lv_aload_n hx hb dX0_undergo_119 rfl (lv_at hl 0 rfl) ?_
    refine lv_aload_n hx hb dX0_undergo_120 rfl (lv_at hl 1 rfl) ?_
    refine k_get (g := 5) (D := k_g C g D 5) (K := RX1) (T := TX1) (N := 4) (v := .int (k_g C g D 5 19 e9 1)) (w := .int (C 5 19 e9 1)) hx hb fX1 hown hK (k_ev hW) 19 e9 he9 (fun _ => rfl) rfl 1 (by decide) (hts (.fieldLink RX0 66 "Crossdockery$Event" "first" "I") (by decide +kernel)) rfl rfl (congrArg Value.int (k_evv hg5 e9 1)) dX0_undergo_121 ?_
    refine k_callV (As := [.int (C 5 19 e9 1)]) (rest := []) ⟨hx, hb, hml, hown, hts⟩ hK (c_X0_existingGang_v X l hd D (x := (C 5 19 e9 1)) (by assumption)) (cwV 1 hts gX0_undergo_X0_existingGang rfl rfl rfl (by decide +kernel) ⟨Nat.le_of_ble_eq_true rfl, Nat.le_of_ble_eq_true rfl⟩) (k_recv hK hW 0 0 hd.o (fun _ => rfl) rfl) hW rfl hl.1 rfl (Nat.le_of_ble_eq_true rfl) dX0_undergo_124 ⟨Nat.le_of_ble_eq_true rfl, Nat.le_of_ble_eq_true rfl⟩ hL (fun v9 H locs hp hL => ?_)
    obtain ⟨rfl, hW⟩ := hp
    refine lv_aload_n hx hb dX0_undergo_127 rfl (lv_at hl 1 rfl) ?_
    refine k_get (g := 5) (D := k_g C g D 5) (K := RX1) (T := TX1) (N := 4) (v := .int (k_g C g D 5 19 e9 2)) (w := .int (C 5 19 e9 2)) hx hb fX1 hown hK (k_ev hW) 19 e9 he9 (fun _ => rfl) rfl 2 (by decide) (hts (.fieldLink RX0 73 "Crossdockery$Event" "second" "I") (by decide +kernel)) rfl rfl (congrArg Value.int (k_evv hg5 e9 2)) dX0_undergo_128 ?_
    refine k_callV (As := [.int (C 5 19 e9 2)]) (rest := []) ⟨hx, hb, hml, hown, hts⟩ hK (c_X2_moveTo X l hd D ((C 5 19 e9 1).toNatClampNeg) (vp_in.lt (by assumption : vp_in (C 5 19 e9 1) ng)) (C 5 19 e9 2)) (cwV 1 hts gX0_undergo_X2_moveTo rfl rfl rfl (by decide +kernel) ⟨Nat.le_of_ble_eq_true rfl, Nat.le_of_ble_eq_true rfl⟩) (k_recv hK hW 6 ((C 5 19 e9 1).toNatClampNeg) (hd.ga (vp_in.lt (by assumption : vp_in (C 5 19 e9 1) ng))) (fun _ => rfl) rfl) hW rfl hl.1 rfl (Nat.le_of_ble_eq_true rfl) dX0_undergo_131 ⟨Nat.le_of_ble_eq_true rfl, Nat.le_of_ble_eq_true rfl⟩ hL (fun v9 H locs hp hL => ?_)
    obtain ⟨rfl, hW⟩ := hp
    refine k_more (cells' := 3 * k_cst (C 5 19 e9)) (slots' := 34 * k_cst (C 5 19 e9)) (by omega) (by omega) ?_
    exact k_iret hx hb hr hlocks (by rw [s_und_6 (σ := (D, nl, nt, ng)) hk]; exact ⟨rfl, kNext.stay hd h9 (cWF_X2_moveTo (ng := ng) hwf _ _) hW⟩) hL dX0_undergo_134
  ·
    replace hk : C 5 19 e9 0 = 7 := hk
    refine W.eq (g2 := F0 m 4 ls [.int 7]) (by rw [hk]; first | done | rfl) ?_
    refine lv_tableIn (off := 131) (tgt := 135) hx hb dX0_undergo_4 (by decide) (by decide) rfl (by decide) ?_
    refine lv_aload_n hx hb dX0_undergo_135 rfl (lv_at hl 0 rfl) ?_
    refine lv_aload_n hx hb dX0_undergo_136 rfl (lv_at hl 1 rfl) ?_
    refine k_get (g := 5) (D := k_g C g D 5) (K := RX1) (T := TX1) (N := 4) (v := .int (k_g C g D 5 19 e9 1)) (w := .int (C 5 19 e9 1)) hx hb fX1 hown hK (k_ev hW) 19 e9 he9 (fun _ => rfl) rfl 1 (by decide) (hts (.fieldLink RX0 66 "Crossdockery$Event" "first" "I") (by decide +kernel)) rfl rfl (congrArg Value.int (k_evv hg5 e9 1)) dX0_undergo_137 ?_
    refine W.eq (g2 := F0 m 140 ls [.int (nI (C 5 19 e9 1).toNatClampNeg), .ref (ad g 0 0)]) (by rw [← h1]) ?_
    refine k_callV (As := [.int (nI ((C 5 19 e9 1).toNatClampNeg))]) (rest := []) ⟨hx, hb, hml, hown, hts⟩ hK (c_X0_passMinutes X l hd D hwf (C 5 19 e9 1).toNatClampNeg h2) (cwV 1 hts gX0_undergo_X0_passMinutes rfl rfl rfl (by decide +kernel) ⟨Nat.le_of_ble_eq_true rfl, Nat.le_of_ble_eq_true rfl⟩) (k_recv hK hW 0 0 hd.o (fun _ => rfl) rfl) hW rfl hl.1 rfl (Nat.le_of_ble_eq_true rfl) dX0_undergo_140 ⟨Nat.le_of_ble_eq_true rfl, Nat.le_of_ble_eq_true rfl⟩ hL (fun v9 H locs hp hL => ?_)
    obtain ⟨rfl, hW, hc⟩ := hp
    refine k_more (cells' := 3 * k_cst (C 5 19 e9)) (slots' := 34 * k_cst (C 5 19 e9)) (by omega) (by omega) ?_
    exact k_iret hx hb hr hlocks (by rw [s_und_7 (σ := (D, nl, nt, ng)) hk]; exact ⟨rfl, kNext.stay hd h9 (hc) hW⟩) hL dX0_undergo_143
