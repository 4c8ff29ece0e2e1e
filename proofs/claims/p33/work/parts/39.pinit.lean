/-! a plan just made comes into the world, beside the dock -/
def k_DP (D : KD) (c : Int32) : KD := fun r i k => if r = 21 then (if k = 0 then c else if k = 5 then 6336 else 0) else if r = 22 then 0 else D r i k
theorem k_DP_o {D : KD} {c : Int32} {r : Nat} (h : r ≠ 21 ∧ r ≠ 22) : k_DP D c r = D r := by
  funext i k
  unfold k_DP
  rw [if_neg h.1, if_neg h.2]
theorem k_DP_22 {D : KD} {c : Int32} (i : Nat) : k_DP D c 22 i = fun _ => 0 := rfl
theorem k_DP_c {D : KD} {c : Int32} {i : Nat} : k_DP D c 21 i 0 = c := rfl
theorem k_min8 {a : Nat} (h : a ≤ 8) : (if (8 : Int32) < nI a then (8 : Int32) else nI a) = nI a := by
  rw [if_neg]
  intro q
  have := (nI_ltI (a := 8) (b := a) (by decide) (by omega)).mp q
  omega
def k_nP (n : Nat → Nat → Nat) (g : Nat) : Nat → Nat → Nat := fun g' r' => if g' = g ∧ r' = 21 then 1 else if g' = g ∧ r' = 22 then 4 else n g' r'
def k_aP (ad : Nat → Nat → Nat → Nat) (g q1 q2 q3 q4 a : Nat) : Nat → Nat → Nat → Nat := fun g' r' i' => if g' = g ∧ r' = 21 then a else if g' = g ∧ r' = 22 then (if i' = 0 then q1 else if i' = 1 then q2 else if i' = 2 then q3 else q4) else ad g' r' i'
theorem k_nP_o {n : Nat → Nat → Nat} {g g' r' : Nat} (h : r' ≠ 21 ∧ r' ≠ 22) : k_nP n g g' r' = n g' r' := by
  unfold k_nP
  rw [if_neg (fun z => h.1 z.2), if_neg (fun z => h.2 z.2)]
theorem k_nP_g {n : Nat → Nat → Nat} {g g' : Nat} (h : g' ≠ g) : k_nP n g g' = n g' := by
  funext r'
  unfold k_nP
  rw [if_neg (fun z => h z.1), if_neg (fun z => h z.1)]
theorem k_aP_o {ad : Nat → Nat → Nat → Nat} {g q1 q2 q3 q4 a g' r' : Nat} (h : r' ≠ 21 ∧ r' ≠ 22) : k_aP ad g q1 q2 q3 q4 a g' r' = ad g' r' := by
  funext i'
  unfold k_aP
  rw [if_neg (fun z => h.1 z.2), if_neg (fun z => h.2 z.2)]
theorem k_aP_g {ad : Nat → Nat → Nat → Nat} {g q1 q2 q3 q4 a g' : Nat} (h : g' ≠ g) : k_aP ad g q1 q2 q3 q4 a g' = ad g' := by
  funext r' i'
  unfold k_aP
  rw [if_neg (fun z => h z.1), if_neg (fun z => h z.1)]
theorem k_aP_22 {ad : Nat → Nat → Nat → Nat} {g q1 q2 q3 q4 a : Nat} (i : Nat) : k_aP ad g q1 q2 q3 q4 a g 22 i = if i = 0 then q1 else if i = 1 then q2 else if i = 2 then q3 else q4 := by
  unfold k_aP
  rw [if_neg (fun z => absurd z.2 (by decide)), if_pos ⟨rfl, rfl⟩]
theorem k_aP_21 {ad : Nat → Nat → Nat → Nat} {g q1 q2 q3 q4 a i : Nat} : k_aP ad g q1 q2 q3 q4 a g 21 i = a := if_pos ⟨rfl, rfl⟩
/-- places that a plan doesn't touch hold what they held -/
theorem k_eP {X : kX} {n : Nat → Nat → Nat} {ad L : Nat → Nat → Nat → Nat} {g q1 q2 q3 q4 a g' r' i' : Nat} (c : Nat → Int32) (hr : g' ≠ g ∨ (r' ≠ 21 ∧ r' ≠ 22)) (h17 : i' < 17 ∨ (r' ≠ 1 ∧ r' ≠ 2)) : k_e X (k_nP n g) (k_aP ad g q1 q2 q3 q4 a) L g' r' i' c = k_e X n ad L g' r' i' c := by
  have a0 : ∀ g9 r9, r9 ≠ 21 ∧ r9 ≠ 22 → k_aP ad g q1 q2 q3 q4 a g9 r9 = ad g9 r9 := fun _ _ h => k_aP_o h
  have a1 := a0 g' 1 (by decide)
  have a2 := a0 g' 2 (by decide)
  have a3 := a0 g' 3 (by decide)
  have a4 := a0 g' 4 (by decide)
  have a7 := a0 g' 7 (by decide)
  have a8 := a0 g' 8 (by decide)
  have a15 := a0 g' 15 (by decide)
  have a17 := a0 g' 17 (by decide)
  have a18 := a0 g' 18 (by decide)
  have a19 := a0 g' 19 (by decide)
  have a00 := a0 0 0 (by decide)
  have n19 : k_nP n g g' 19 = n g' 19 := k_nP_o (by decide)
  unfold k_e
  split
  · simp only [a1, a3]
  · have := h17.resolve_right (fun z => z.1 rfl)
    simp only [a2, k_nP_o (n := n) (g := g) (g' := g') (r' := 4 + i') (by omega)]
  · have := h17.resolve_right (fun z => z.2 rfl)
    simp only [a0 g' (4 + i') (by omega), k_nP_o (n := n) (g := g) (g' := g') (r' := 4 + i') (by omega)]
  · simp only [a4]
  · simp only [a7]
  · simp only [a4, a8]
  · rfl
  · rfl
  · rfl
  · simp only [a15]
  · rfl
  · simp only [a00, a17]
  · simp only [a18, n19]
  · simp only [a19, n19]
  · rfl
  · rcases hr with h | h
    · simp only [k_aP_g h]
    · exact absurd rfl h.1
  · rfl
  · rfl
def k_jP (r i : Nat) : Option Nat := if r = 21 ∧ i = 0 then some 4 else if r = 22 ∧ i = 0 then some 3 else if r = 22 ∧ i = 1 then some 2 else if r = 22 ∧ i = 2 then some 1 else if r = 22 ∧ i = 3 then some 0 else none
set_option maxHeartbeats 400000 in
theorem k_closeP {X : kX} {n : Nat → Nat → Nat} {ad L : Nat → Nat → Nat → Nat} {C : Nat → Nat → Nat → Nat → Int32} {fr : Nat → Option Cell} {H : Heap} {g nl nt ng a q1 q2 q3 q4 : Nat} {D : KD} {c : Int32} (hd : kDk n g nl nt ng) (h21 : n g 21 = 0) (h22 : n g 22 = 0)
    (h : k_N X n ad L (k_g C g D) fr [(q4, .inl (X.2.1 0, 64, .inl (fun _ => 0))), (q3, .inl (X.2.1 0, 8, .inl (fun _ => 0))), (q2, .inl (X.2.1 0, 8, .inl (fun _ => 0))), (q1, .inl (X.2.1 1, 8, .inl (fun _ => 0))), (a, .inr (10, [.int c, .ref q1, .ref q2, .ref q3, .ref q4, .int 6336]))] H) :
    k_W X (k_nP n g) (k_aP ad g q1 q2 q3 q4 a) L (k_g C g (k_DP D c)) fr H := by
  have hvo : ∀ g' r' i', (g' ≠ g ∨ (r' ≠ 21 ∧ r' ≠ 22)) → k_v (k_nP n g) g' r' i' → k_v n g' r' i' := by
    intro g' r' i' hr hv
    by_cases hg : g' = g
    · subst hg
      have h2 := hr.resolve_left (fun z => z rfl)
      unfold k_v at hv ⊢
      split at hv
      · simp only [k_nP_o (n := n) (g := g') (g' := g') (r' := 1) (by decide), k_nP_o (n := n) (g := g') (g' := g') (r' := 2) (by decide)] at hv; exact hv
      · have e1 := k_nP_o (n := n) (g := g') (g' := g') (r' := 1) (by decide)
        have e2 := k_nP_o (n := n) (g := g') (g' := g') (r' := 2) (by decide)
        rw [e1, e2] at hv
        have hi : i' < 3 := by rw [← hd.2.1]; exact hv.1
        rw [k_nP_o (by omega)] at hv
        exact hv
      · rw [k_nP_o (by decide)] at hv; exact hv
      · rw [k_nP_o (by decide)] at hv; exact hv
      · rw [k_nP_o (by decide), k_nP_o (by decide)] at hv; exact hv
      · rw [k_nP_o (by decide), k_nP_o (by decide), k_nP_o (by decide)] at hv; exact hv
      · rw [k_nP_o h2] at hv; exact hv
    · unfold k_v at hv ⊢; rw [k_nP_g hg] at hv; exact hv
  refine h.close (fun g' r' i' => if g' = g then k_jP r' i' else none) (fun g' r' i' hv => ?_) (fun g1 r1 i1 g2 r2 i2 k e1 e2 => ?_) ⟨fun g' i' hv => ?_, fun g' i' hv => ?_⟩
  · by_cases hq : g' = g ∧ (r' = 21 ∨ r' = 22)
    · obtain ⟨rfl, hr⟩ := hq
      rw [k_g_at]
      simp only [if_true]
      rcases hr with rfl | rfl
      · have hi : i' < k_nP n g' g' 21 := hv
        have e : k_nP n g' g' 21 = 1 := if_pos ⟨rfl, rfl⟩
        rw [e] at hi
        obtain rfl : i' = 0 := by omega
        refine Or.inr ⟨4, rfl, ?_⟩
        rw [k_aP_21]
        show some _ = some (_, (Sum.inr (10, [.int c, .ref (k_aP ad g' q1 q2 q3 q4 a g' 22 0), .ref (k_aP ad g' q1 q2 q3 q4 a g' 22 1), .ref (k_aP ad g' q1 q2 q3 q4 a g' 22 2), .ref (k_aP ad g' q1 q2 q3 q4 a g' 22 3), .int 6336]) : va_E))
        simp only [k_aP_22]
        rfl
      · have hi : i' < k_nP n g' g' 22 := hv
        have e : k_nP n g' g' 22 = 4 := by unfold k_nP; rw [if_neg (fun z => absurd z.2 (by decide)), if_pos ⟨rfl, rfl⟩]
        rw [e] at hi
        rcases (by omega : i' = 0 ∨ i' = 1 ∨ i' = 2 ∨ i' = 3) with rfl | rfl | rfl | rfl
        · refine Or.inr ⟨3, rfl, ?_⟩; rw [k_aP_22]; rfl
        · refine Or.inr ⟨2, rfl, ?_⟩; rw [k_aP_22]; rfl
        · refine Or.inr ⟨1, rfl, ?_⟩; rw [k_aP_22]; rfl
        · refine Or.inr ⟨0, rfl, ?_⟩; rw [k_aP_22]; rfl
    · have hr : g' ≠ g ∨ (r' ≠ 21 ∧ r' ≠ 22) := by
        by_cases hg : g' = g
        · exact Or.inr ⟨fun z => hq ⟨hg, Or.inl z⟩, fun z => hq ⟨hg, Or.inr z⟩⟩
        · exact Or.inl hg
      have hv0 := hvo g' r' i' hr hv
      refine Or.inl ⟨hv0, ?_, ?_, ?_⟩
      · show (if g' = g then k_jP r' i' else none) = none
        by_cases hg : g' = g
        · rw [if_pos hg]
          have h2 := hr.resolve_left (fun z => z hg)
          unfold k_jP
          rw [if_neg (fun z => h2.1 z.1), if_neg (fun z => h2.2 z.1), if_neg (fun z => h2.2 z.1), if_neg (fun z => h2.2 z.1), if_neg (fun z => h2.2 z.1)]
        · exact if_neg hg
      · rcases hr with h | h
        · rw [k_aP_g h]
        · rw [k_aP_o h]
      · by_cases hg : g' = g
        · subst hg
          have h2 := hr.resolve_left (fun z => z rfl)
          rw [k_eP _ (Or.inr h2) (by
            by_cases p1 : r' = 1
            · subst p1; have := hv0.1; rw [hd.2.1] at this; exact Or.inl (by omega)
            · by_cases p2 : r' = 2
              · subst p2; have := hv0.1; rw [hd.2.1] at this; exact Or.inl (by omega)
              · exact Or.inr ⟨p1, p2⟩)]
          rw [k_g_at, k_g_at, k_DP_o h2]
        · rw [k_g_ne _ _ hg, k_g_ne _ _ hg]
          exact congrFun (congrFun (congrFun (k_e_g (k_nP_g hg) (k_aP_g hg) (congrFun (k_aP_o (g' := 0) (r' := 0) (by decide)) 0) rfl) r') i') _
  · split at e1 <;> rename_i p1
    · split at e2 <;> rename_i p2
      · subst p1; subst p2; refine ⟨rfl, ?_⟩
        unfold k_jP at e1 e2
        (repeat' split at e1) <;> (repeat' split at e2) <;> first | (exact ⟨by omega, by omega⟩) | (cases e1; cases e2) | (cases e1) | (cases e2)
      · cases e2
    · cases e1
  · have hv0 := hvo g' 2 i' (Or.inr (by decide)) hv
    have := h.1.cap.1 g' i' hv0
    by_cases hg : g' = g
    · subst hg
      have h3 := hv0.1
      rw [hd.2.1] at h3
      rw [k_nP_o (by omega)]
      exact this
    · rw [k_nP_g hg]
      exact this
  · have hv0 := hvo g' 18 i' (Or.inr (by decide)) hv
    rw [k_nP_o (by decide)]
    exact h.1.cap.2 g' i' hv0
theorem k_closeP1 {X : kX} {n : Nat → Nat → Nat} {ad L : Nat → Nat → Nat → Nat} {C : Nat → Nat → Nat → Nat → Int32} {fr : Nat → Option Cell} {H : Heap} {g nl nt ng a q1 q2 q3 q4 : Nat} {D : KD} {c : Int32} (hd : kDk n g nl nt ng) (h21 : n g 21 = 0) (h22 : n g 22 = 0)
    (h : k_N X n ad L (k_g C g D) fr [(q4, .inl (X.2.1 0, 64, .inl (fun _ => 0))), (q3, .inl (X.2.1 0, 8, .inl (fun _ => 0))), (q2, .inl (X.2.1 0, 8, .inl (fun _ => 0))), (q1, .inl (X.2.1 1, 8, .inl (fun _ => 0))), (a, .inr (10, [.int c, .ref q1, .ref q2, .ref q3, .ref q4, .int 6336]))] H) :
    ∃ n1 ad1, (∀ g', g' ≠ g → n1 g' = n g' ∧ ad1 g' = ad g') ∧ (∀ r, r ≠ 21 ∧ r ≠ 22 → n1 g r = n g r ∧ ad1 g r = ad g r) ∧ ad1 g 21 0 = a ∧ kDk n1 g nl nt ng ∧ kPl n1 g ∧ k_W X n1 ad1 L (k_g C g (k_DP D c)) fr H := by
  refine ⟨k_nP n g, k_aP ad g q1 q2 q3 q4 a, fun g' hg => ⟨k_nP_g hg, k_aP_g hg⟩, fun r hr => ⟨k_nP_o hr, k_aP_o hr⟩, k_aP_21, ?_, ⟨if_pos ⟨rfl, rfl⟩, ?_⟩, k_closeP hd h21 h22 h⟩
  · obtain ⟨h0, h1, h3, h4, h5, h6, h7, h9, h10, h2⟩ := hd
    refine ⟨?_, ?_, ?_, ?_, ?_, ?_, h7, h9, h10, ?_⟩
    all_goals (rw [k_nP_o (by decide)]; assumption)
  · unfold k_nP; rw [if_neg (fun z => absurd z.2 (by decide)), if_pos ⟨rfl, rfl⟩]
theorem cWF_DP {D : KD} {nl nt : Nat} (h : cWF D nl nt) (c : Int32) : cWF (k_DP D c) nl nt := by
  refine ⟨fun t ht => ?_, fun d => ?_⟩
  · rw [k_DP_o (by decide)]; exact h.1 t ht
  · rw [k_DP_o (by decide)]; exact h.2 d
def j_X4_init_100 (D : KD) (nl : Nat) (nt : Nat) (ng : Nat) (k61 : Nat) (z61 : KD) : Int32 := (if (z61 4 k61 5) = 101 then 1 else 0)
def f_X4_init_61 (D : KD) (nl : Nat) (nt : Nat) (ng : Nat) (k61 : Nat) (z61 : KD) : KD := (k_d (k_d z61 22 0 k61 (j_X4_init_100 D nl nt ng k61 z61)) 22 1 k61 (z61 4 k61 4))
def l_X4_init_61 (D : KD) (nl : Nat) (nt : Nat) (ng : Nat) : KD := it (f_X4_init_61 D nl nt ng) nl (k_DP D (nI nl))
def f_X4_init_119 (D : KD) (nl : Nat) (nt : Nat) (ng : Nat) (k119 : Nat) (z119 : KD) : KD := (if (((if z119 4 ((z119 5 k119 0).toNatClampNeg) 0 < z119 4 ((z119 5 k119 1).toNatClampNeg) 0 then z119 4 ((z119 5 k119 1).toNatClampNeg) 0 else z119 4 ((z119 5 k119 0).toNatClampNeg) 0) * 8) + (if z119 4 ((z119 5 k119 1).toNatClampNeg) 0 < z119 4 ((z119 5 k119 0).toNatClampNeg) 0 then z119 4 ((z119 5 k119 1).toNatClampNeg) 0 else z119 4 ((z119 5 k119 0).toNatClampNeg) 0)) < 0 then z119 else (if (((if z119 4 ((z119 5 k119 0).toNatClampNeg) 0 < z119 4 ((z119 5 k119 1).toNatClampNeg) 0 then z119 4 ((z119 5 k119 1).toNatClampNeg) 0 else z119 4 ((z119 5 k119 0).toNatClampNeg) 0) * 8) + (if z119 4 ((z119 5 k119 1).toNatClampNeg) 0 < z119 4 ((z119 5 k119 0).toNatClampNeg) 0 then z119 4 ((z119 5 k119 1).toNatClampNeg) 0 else z119 4 ((z119 5 k119 0).toNatClampNeg) 0)) ≥ 64 then z119 else (k_d z119 22 3 ((((if z119 4 ((z119 5 k119 0).toNatClampNeg) 0 < z119 4 ((z119 5 k119 1).toNatClampNeg) 0 then z119 4 ((z119 5 k119 1).toNatClampNeg) 0 else z119 4 ((z119 5 k119 0).toNatClampNeg) 0) * 8) + (if z119 4 ((z119 5 k119 1).toNatClampNeg) 0 < z119 4 ((z119 5 k119 0).toNatClampNeg) 0 then z119 4 ((z119 5 k119 1).toNatClampNeg) 0 else z119 4 ((z119 5 k119 0).toNatClampNeg) 0)).toNatClampNeg) ((z119 22 3 ((((if z119 4 ((z119 5 k119 0).toNatClampNeg) 0 < z119 4 ((z119 5 k119 1).toNatClampNeg) 0 then z119 4 ((z119 5 k119 1).toNatClampNeg) 0 else z119 4 ((z119 5 k119 0).toNatClampNeg) 0) * 8) + (if z119 4 ((z119 5 k119 1).toNatClampNeg) 0 < z119 4 ((z119 5 k119 0).toNatClampNeg) 0 then z119 4 ((z119 5 k119 1).toNatClampNeg) 0 else z119 4 ((z119 5 k119 0).toNatClampNeg) 0)).toNatClampNeg)) + (z119 5 k119 2)))))
def l_X4_init_119 (D : KD) (nl : Nat) (nt : Nat) (ng : Nat) : KD := it (f_X4_init_119 D nl nt ng) nt (l_X4_init_61 D nl nt ng)
def s_X4_init (D : KD) (nl nt ng : Nat) : KD := (l_X4_init_119 D nl nt ng)
set_option maxHeartbeats 400000 in
set_option maxRecDepth 100000 in
theorem c_X4_init (X : kX) (l : Launch) {n : Nat → Nat → Nat} {ad L : Nat → Nat → Nat → Nat} {C : Nat → Nat → Nat → Nat → Int32} {fr : Nat → Option Cell} {g : Nat} {nl nt ng : Nat} (hd : kDk n g nl nt ng) (D : KD) (hwf : cWF D nl nt) (h21 : n g 21 = 0) (h22 : n g 22 = 0) (a : Nat) : k_M X l yX4_init wsX4_init ({ frames := 4, cells := 4, slots := 88, locals := 76 }) [.ref a, .ref (ad g 0 0)] (k_N X n ad L (k_g C g D) fr ((a, .inr (10, [.int 0, .null, .null, .null, .null, .int 0])) :: [])) (fun v H => v = none ∧ ∃ n1 ad1, (∀ g', g' ≠ g → n1 g' = n g' ∧ ad1 g' = ad g') ∧ (∀ r, r ≠ 21 ∧ r ≠ 22 → n1 g r = n g r ∧ ad1 g r = ad g r) ∧ ad1 g 21 0 = a ∧ kDk n1 g nl nt ng ∧ kPl n1 g ∧ k_W X n1 ad1 L (k_g C g (s_X4_init D nl nt ng)) fr H) 4 88 := by
  refine k_M.of (cc := cX4_init) (maxL := 6) (ret := none) (by decide) rfl (Nat.le_of_ble_eq_true rfl) ?_
  intro p e s m args below meth c ls hx hb hr hml hown hts hlocks hnm hK hW hl
  have hL : ∀ q ∈ ([] : List Loc), k_B X ≤ q.base := fun _ h => nomatch h
  have hl : lv_has ls 6 [(0, .ref a), (1, .ref (ad g 0 0))] := hl
  have fX4 : ∀ w ∈ u_ws RX4 TX4 6, w.before args s = true := fun w h => hts w ((by decide +kernel : ∀ w ∈ u_ws RX4 TX4 6, w ∈ wsX4_init) w h)
  have fX0 : ∀ w ∈ u_ws RX0 TX0 5, w.before args s = true := fun w h => hts w ((by decide +kernel : ∀ w ∈ u_ws RX0 TX0 5, w ∈ wsX4_init) w h)
  have fX3 : ∀ w ∈ u_ws RX3 TX3 15, w.before args s = true := fun w h => hts w ((by decide +kernel : ∀ w ∈ u_ws RX3 TX3 15, w ∈ wsX4_init) w h)
  have fX5 : ∀ w ∈ u_ws RX5 TX5 7, w.before args s = true := fun w h => hts w ((by decide +kernel : ∀ w ∈ u_ws RX5 TX5 7, w ∈ wsX4_init) w h)
  have hl8 := hd.l8
  have ht16 := hd.t16
  have hg4 := hd.g4
  refine lv_aload_n hx hb dX4_init_0 rfl (lv_at hl 0 rfl) ?_
  refine W.objInit hx hb hown (hts (.methodLink RX4 3 objectInit) (by decide +kernel)) (hts (.instanceMethod objectInit) (by decide +kernel)) (hts (.code objectInit ⟨#[0xb1]⟩ 1 none) (by decide +kernel)) rfl (by rw [hml]; first | exact hl.1 | exact hl.1.symm) rfl dX4_init_1 (Nat.le_of_ble_eq_true rfl) (Nat.le_of_ble_eq_true rfl) ?_
  refine W.eq (g2 := F0 m 4 ls []) rfl ?_
  refine lv_aload_n hx hb dX4_init_4 rfl (lv_at hl 0 rfl) ?_
  refine lv_bipush (v := 8) hx hb dX4_init_5 (by decide) ?_
  refine k_newa (atype := .boolean) (a0 := (8, .inl (fun _ => 0))) hx hb (hts (.arrayClass .boolean) (by decide +kernel)) 1 rfl (fun _ h => h) hK hW (vp_cell_i _ _ _) (by decide) (N' := 8) (by decide) (by decide +kernel) (Nat.le_of_ble_eq_true rfl) (Nat.le_of_ble_eq_true rfl) dX4_init_7 (fun q1 H hW => ?_)
  refine k_nputF (K := RX4) (T := TX4) (N := 6) (v := .ref q1) (ty := tyX4 1) hx hb fX4 tyX4 tyX4_ok nmX4 hown hK hW hL 1 rfl rfl 1 (by decide) (hts (.fieldLink RX4 9 "Crossdockery$Plan" "isOpen" "[Z") (by decide +kernel)) (fun x h => h) rfl (hnm.trans rfl) rfl (tyX4_ok 1 (by decide)) rfl rfl (Nat.le_of_ble_eq_true rfl) (ws' := (q1, .inl (X.2.1 1, 8, .inl (fun _ => 0))) :: (a, .inr (10, [.int 0, .ref q1, .null, .null, .null, .int 0])) :: []) rfl dX4_init_9 (fun H locs hW hL => ?_)
  refine lv_aload_n hx hb dX4_init_12 rfl (lv_at hl 0 rfl) ?_
  refine lv_bipush (v := 8) hx hb dX4_init_13 (by decide) ?_
  refine k_newa (atype := .int) (a0 := (8, .inl (fun _ => 0))) hx hb (hts (.arrayClass .int) (by decide +kernel)) 0 rfl (fun _ h => h) hK hW (vp_cell_i _ _ _) (by decide) (N' := 8) (by decide) (by decide +kernel) (Nat.le_of_ble_eq_true rfl) (Nat.le_of_ble_eq_true rfl) dX4_init_15 (fun q2 H hW => ?_)
  refine k_nputF (K := RX4) (T := TX4) (N := 6) (v := .ref q2) (ty := tyX4 2) hx hb fX4 tyX4 tyX4_ok nmX4 hown hK hW hL 2 rfl rfl 2 (by decide) (hts (.fieldLink RX4 15 "Crossdockery$Plan" "doors" "[I") (by decide +kernel)) (fun x h => h) rfl (hnm.trans rfl) rfl (tyX4_ok 2 (by decide)) rfl rfl (Nat.le_of_ble_eq_true rfl) (ws' := (q2, .inl (X.2.1 0, 8, .inl (fun _ => 0))) :: (q1, .inl (X.2.1 1, 8, .inl (fun _ => 0))) :: (a, .inr (10, [.int 0, .ref q1, .ref q2, .null, .null, .int 0])) :: []) rfl dX4_init_17 (fun H locs hW hL => ?_)
  refine lv_aload_n hx hb dX4_init_20 rfl (lv_at hl 0 rfl) ?_
  refine lv_bipush (v := 8) hx hb dX4_init_21 (by decide) ?_
  refine k_newa (atype := .int) (a0 := (8, .inl (fun _ => 0))) hx hb (hts (.arrayClass .int) (by decide +kernel)) 0 rfl (fun _ h => h) hK hW (vp_cell_i _ _ _) (by decide) (N' := 8) (by decide) (by decide +kernel) (Nat.le_of_ble_eq_true rfl) (Nat.le_of_ble_eq_true rfl) dX4_init_23 (fun q3 H hW => ?_)
  refine k_nputF (K := RX4) (T := TX4) (N := 6) (v := .ref q3) (ty := tyX4 3) hx hb fX4 tyX4 tyX4_ok nmX4 hown hK hW hL 3 rfl rfl 3 (by decide) (hts (.fieldLink RX4 19 "Crossdockery$Plan" "best" "[I") (by decide +kernel)) (fun x h => h) rfl (hnm.trans rfl) rfl (tyX4_ok 3 (by decide)) rfl rfl (Nat.le_of_ble_eq_true rfl) (ws' := (q3, .inl (X.2.1 0, 8, .inl (fun _ => 0))) :: (q2, .inl (X.2.1 0, 8, .inl (fun _ => 0))) :: (q1, .inl (X.2.1 1, 8, .inl (fun _ => 0))) :: (a, .inr (10, [.int 0, .ref q1, .ref q2, .ref q3, .null, .int 0])) :: []) rfl dX4_init_25 (fun H locs hW hL => ?_)
  refine lv_aload_n hx hb dX4_init_28 rfl (lv_at hl 0 rfl) ?_
  refine lv_bipush (v := 64) hx hb dX4_init_29 (by decide) ?_
  refine k_newa (atype := .int) (a0 := (64, .inl (fun _ => 0))) hx hb (hts (.arrayClass .int) (by decide +kernel)) 0 rfl (fun _ h => h) hK hW (vp_cell_i _ _ _) (by decide) (N' := 64) (by decide) (by decide +kernel) (Nat.le_of_ble_eq_true rfl) (Nat.le_of_ble_eq_true rfl) dX4_init_31 (fun q4 H hW => ?_)
  refine k_nputF (K := RX4) (T := TX4) (N := 6) (v := .ref q4) (ty := tyX4 4) hx hb fX4 tyX4 tyX4_ok nmX4 hown hK hW hL 4 rfl rfl 4 (by decide) (hts (.fieldLink RX4 22 "Crossdockery$Plan" "unitsBetween" "[I") (by decide +kernel)) (fun x h => h) rfl (hnm.trans rfl) rfl (tyX4_ok 4 (by decide)) rfl rfl (Nat.le_of_ble_eq_true rfl) (ws' := (q4, .inl (X.2.1 0, 64, .inl (fun _ => 0))) :: (q3, .inl (X.2.1 0, 8, .inl (fun _ => 0))) :: (q2, .inl (X.2.1 0, 8, .inl (fun _ => 0))) :: (q1, .inl (X.2.1 1, 8, .inl (fun _ => 0))) :: (a, .inr (10, [.int 0, .ref q1, .ref q2, .ref q3, .ref q4, .int 0])) :: []) rfl dX4_init_33 (fun H locs hW hL => ?_)
  refine lv_aload_n hx hb dX4_init_36 rfl (lv_at hl 0 rfl) ?_
  refine lv_sipush (v := 6336) hx hb dX4_init_37 (by decide) ?_
  refine k_nput (K := RX4) (T := TX4) (N := 6) (v := .int 6336) (ty := tyX4 5) hx hb fX4 tyX4 tyX4_ok nmX4 hown hK hW hL 4 rfl rfl 5 (by decide) (hts (.fieldLink RX4 25 "Crossdockery$Plan" "least" "I") (by decide +kernel)) (fun x h => h) rfl (tyX4_ok 5 (by decide)) rfl rfl (Nat.le_of_ble_eq_true rfl) (ws' := (q4, .inl (X.2.1 0, 64, .inl (fun _ => 0))) :: (q3, .inl (X.2.1 0, 8, .inl (fun _ => 0))) :: (q2, .inl (X.2.1 0, 8, .inl (fun _ => 0))) :: (q1, .inl (X.2.1 1, 8, .inl (fun _ => 0))) :: (a, .inr (10, [.int 0, .ref q1, .ref q2, .ref q3, .ref q4, .int 6336])) :: []) rfl dX4_init_40 (fun H locs hW hL => ?_)
  refine lv_aload_n hx hb dX4_init_43 rfl (lv_at hl 0 rfl) ?_
  refine lv_aload_n hx hb dX4_init_44 rfl (lv_at hl 1 rfl) ?_
  refine k_get (K := RX0) (T := TX0) (N := 5) (v := .ref (ad g 1 0)) (w := .ref (ad g 1 0)) hx hb fX0 hown hK hW.1 0 0 hd.o (fun _ => rfl) rfl 0 (by decide) (hts (.fieldLink RX4 29 "Crossdockery$Dock" "lorries" "Ljava/util/ArrayList;") (by decide +kernel)) rfl rfl rfl dX4_init_45 ?_
  obtain ⟨fr5, hF9, hb6⟩ := hW.freeze
  replace hW := hF9
  refine k_callV (As := []) (rest := [.ref a]) ⟨hx, hb, hml, hown, hts⟩ hK (c_size0 X l hd) (cwV 0 hts gX4_init_Jx4a65c_size_8abf5 rfl rfl rfl (by decide +kernel) ⟨Nat.le_of_ble_eq_true rfl, Nat.le_of_ble_eq_true rfl⟩) (k_recv hK hW 1 0 (hd.li (by decide)) (fun _ => rfl) rfl) hW rfl hl.1 rfl (Nat.le_of_ble_eq_true rfl) dX4_init_48 ⟨Nat.le_of_ble_eq_true rfl, Nat.le_of_ble_eq_true rfl⟩ hL (fun v9 H locs hp hL => ?_)
  obtain ⟨rfl, hW⟩ := hp
  replace hW := hb6 _ _ _ _ _ hW
  refine lv_bipush (v := 8) hx hb dX4_init_51 (by decide) ?_
  refine va_mmin hx hb (by rw [hml]; exact hl.1.symm) hown (hts (.methodLink RX4 41 Lib.Math.min.name) (by decide +kernel)) (hts (.static Lib.Math.min.name) (by decide +kernel)) (hts (.initialized "java/lang/Math") (by decide +kernel)) (hts (.code Lib.Math.min.name Lib.Math.min.code 2 (some .int)) (by decide +kernel)) (Nat.le_of_ble_eq_true rfl) (Nat.le_of_ble_eq_true rfl) (Nat.le_of_ble_eq_true rfl) (Nat.le_of_ble_eq_true rfl) dX4_init_53 ?_
  refine W.eq (g2 := F0 m 56 ls [.int (nI nl), .ref a]) (by rw [k_min8 hl8]; first | done | rfl) ?_
  refine k_nputF (K := RX4) (T := TX4) (N := 6) (v := .int (nI nl)) (ty := tyX4 0) hx hb fX4 tyX4 tyX4_ok nmX4 hown hK hW hL 4 rfl rfl 0 (by decide) (hts (.fieldLink RX4 47 "Crossdockery$Plan" "count" "I") (by decide +kernel)) (fun x h => h) rfl (hnm.trans rfl) rfl (tyX4_ok 0 (by decide)) rfl rfl (Nat.le_of_ble_eq_true rfl) (ws' := (q4, .inl (X.2.1 0, 64, .inl (fun _ => 0))) :: (q3, .inl (X.2.1 0, 8, .inl (fun _ => 0))) :: (q2, .inl (X.2.1 0, 8, .inl (fun _ => 0))) :: (q1, .inl (X.2.1 1, 8, .inl (fun _ => 0))) :: (a, .inr (10, [.int (nI nl), .ref q1, .ref q2, .ref q3, .ref q4, .int 6336])) :: []) rfl dX4_init_56 (fun H locs hW hL => ?_)
  obtain ⟨n1, ad1, ho, hr9, ha21, hd1, hp, hW7⟩ := k_closeP1 hd h21 h22 hW
  replace hW := hW7
  have h00 : ad1 g 0 = ad g 0 := (hr9 0 (by decide)).2
  rw [← ha21, ← h00] at hl
  have hwfP := cWF_DP hwf (nI nl)
  refine lv_iconst (v := 0) hx hb dX4_init_59 (by decide) ?_
  refine lv_istore_n (lv' := [(2, .int 0), (0, .ref (ad1 g 21 0)), (1, .ref (ad1 g 0 0))]) hx hb dX4_init_60 rfl hl (by decide) rfl (fun ls hl => ?_)
  refine k_for (nl) (fun k61 H locs ls => ∃ z61 : KD, z61 = it (f_X4_init_61 D nl nt ng) k61 (k_DP D (nI nl)) ∧ k_W X n1 ad1 L (k_g C g z61) fr H ∧ (∀ q ∈ locs, k_B X ≤ q.base) ∧ lv_has ls 6 [(2, .int (nI k61)), (0, .ref (ad1 g 21 0)), (1, .ref (ad1 g 0 0))] ∧ cWF z61 nl nt ∧ z61 21 0 0 = nI nl) 0 ⟨(k_DP D (nI nl)), rfl, hW, hL, lv_sub hl [0, 1, 2] rfl, hwfP, rfl⟩ (Nat.zero_le _) (fun k61 hk61 ih61 H locs ls hI => ?_)
  obtain ⟨z61, hz61, hW, hL, hl, hE61, hcnt⟩ := hI
  refine lv_iload_n hx hb dX4_init_61 rfl (lv_at hl 0 rfl) ?_
  refine lv_aload_n hx hb dX4_init_62 rfl (lv_at hl 1 rfl) ?_
  refine k_get (K := RX4) (T := TX4) (N := 6) (v := .int (z61 21 0 0)) (w := .int (z61 21 0 0)) hx hb fX4 hown hK hW 21 0 hp.o (fun _ => rfl) rfl 0 (by decide) (hts (.fieldLink RX4 47 "Crossdockery$Plan" "count" "I") (by decide +kernel)) rfl rfl rfl dX4_init_63 ?_
  refine W.eq (g2 := F0 m 66 ls [.int (nI nl), .int (nI k61)]) (by rw [hcnt]; first | done | rfl) ?_
  refine lv_icmp_ge (tgt := 117) hx hb dX4_init_66 (by decide) (fun c7 => ?_) (fun c7 => ?_)
  ·
    have hge61 := k_nI_ge (by omega) (by omega) c7
    obtain rfl : nl = k61 := by omega
    replace hz61 : z61 = (l_X4_init_61 D nl nt ng) := hz61
    subst hz61
    have hl : lv_has ls 6 [(2, .int (nI nl)), (0, .ref (ad1 g 21 0)), (1, .ref (ad1 g 0 0))] := hl
    refine lv_iconst (v := 0) hx hb dX4_init_117 (by decide) ?_
    refine lv_istore_n (lv' := [(2, .int 0), (0, .ref (ad1 g 21 0)), (1, .ref (ad1 g 0 0))]) hx hb dX4_init_118 rfl hl (by decide) rfl (fun ls hl => ?_)
    refine k_for (nt) (fun k119 H locs ls => ∃ z119 : KD, z119 = it (f_X4_init_119 D nl nt ng) k119 (l_X4_init_61 D nl nt ng) ∧ k_W X n1 ad1 L (k_g C g z119) fr H ∧ (∀ q ∈ locs, k_B X ≤ q.base) ∧ lv_has ls 6 [(2, .int (nI k119)), (0, .ref (ad1 g 21 0)), (1, .ref (ad1 g 0 0))] ∧ cWF z119 nl nt) 0 ⟨(l_X4_init_61 D nl nt ng), rfl, hW, hL, lv_sub hl [0, 1, 2] rfl, hE61⟩ (Nat.zero_le _) (fun k119 hk119 ih119 H locs ls hI => ?_)
    obtain ⟨z119, hz119, hW, hL, hl, hE119⟩ := hI
    refine lv_iload_n hx hb dX4_init_119 rfl (lv_at hl 0 rfl) ?_
    refine lv_aload_n hx hb dX4_init_120 rfl (lv_at hl 2 rfl) ?_
    refine k_get (K := RX0) (T := TX0) (N := 5) (v := .ref (ad1 g 1 1)) (w := .ref (ad1 g 1 1)) hx hb fX0 hown hK hW 0 0 hd1.o (fun _ => rfl) rfl 1 (by decide) (hts (.fieldLink RX4 63 "Crossdockery$Dock" "transfers" "Ljava/util/ArrayList;") (by decide +kernel)) rfl rfl rfl dX4_init_121 ?_
    refine k_callV (As := []) (rest := [.int (nI k119)]) ⟨hx, hb, hml, hown, hts⟩ hK (c_size1 X l hd1) (cwV 0 hts gX4_init_Jx4a65c_size_8abf5 rfl rfl rfl (by decide +kernel) ⟨Nat.le_of_ble_eq_true rfl, Nat.le_of_ble_eq_true rfl⟩) (k_recv hK hW 1 1 (hd1.li (by decide)) (fun _ => rfl) rfl) hW rfl hl.1 rfl (Nat.le_of_ble_eq_true rfl) dX4_init_124 ⟨Nat.le_of_ble_eq_true rfl, Nat.le_of_ble_eq_true rfl⟩ hL (fun v9 H locs hp hL => ?_)
    obtain ⟨rfl, hW⟩ := hp
    refine lv_icmp_ge (tgt := 221) hx hb dX4_init_127 (by decide) (fun c9 => ?_) (fun c9 => ?_)
    ·
      have hge119 := k_nI_ge (by omega) (by omega) c9
      obtain rfl : nt = k119 := by omega
      replace hz119 : z119 = (l_X4_init_119 D nl nt ng) := hz119
      subst hz119
      have hl : lv_has ls 6 [(2, .int (nI nt)), (0, .ref (ad1 g 21 0)), (1, .ref (ad1 g 0 0))] := hl
      have e9 : s_X4_init D nl nt ng = (l_X4_init_119 D nl nt ng) := by unfold s_X4_init; rfl
      exact k_vret hx hb hr hlocks ⟨rfl, n1, ad1, ho, hr9, ha21, hd1, hp, by rw [e9]; exact hW⟩ hL dX4_init_221
    ·
      have hlt119 : k119 < nt := k_nI_nge (by omega) (by omega) c9
      refine lv_aload_n hx hb dX4_init_130 rfl (lv_at hl 2 rfl) ?_
      refine k_get (K := RX0) (T := TX0) (N := 5) (v := .ref (ad1 g 1 1)) (w := .ref (ad1 g 1 1)) hx hb fX0 hown hK hW 0 0 hd1.o (fun _ => rfl) rfl 1 (by decide) (hts (.fieldLink RX4 63 "Crossdockery$Dock" "transfers" "Ljava/util/ArrayList;") (by decide +kernel)) rfl rfl rfl dX4_init_131 ?_
      refine lv_iload_n hx hb dX4_init_134 rfl (lv_at hl 0 rfl) ?_
      refine k_callV (As := [.int (nI k119)]) (rest := []) ⟨hx, hb, hml, hown, hts⟩ hK (c_get1 X l hd1 hW.cap (j := k119) (by omega)) (cwV 1 hts gX4_init_Jx4a65c_get_915e3 rfl rfl rfl (by decide +kernel) ⟨Nat.le_of_ble_eq_true rfl, Nat.le_of_ble_eq_true rfl⟩) (k_recv hK hW 1 1 (hd1.li (by decide)) (fun _ => rfl) rfl) hW rfl hl.1 rfl (Nat.le_of_ble_eq_true rfl) dX4_init_135 ⟨Nat.le_of_ble_eq_true rfl, Nat.le_of_ble_eq_true rfl⟩ hL (fun v9 H locs hp hL => ?_)
      obtain ⟨rfl, hW⟩ := hp
      refine k_cast' (K := RX5) (nm := RX5) hx hb hown (hts (.classLink RX4 66 RX5) (by decide +kernel)) hK (List.mem_of_getElem? (i := 5) rfl) (k_recv hK hW 5 k119 (hd1.tr (show k119 < nt by omega)) (fun _ => rfl) rfl) dX4_init_138 ?_
      refine lv_astore_n (lv' := [(3, .ref (ad1 g 5 k119)), (2, .int (nI k119)), (0, .ref (ad1 g 21 0)), (1, .ref (ad1 g 0 0))]) hx hb dX4_init_141 rfl hl (by decide) rfl (fun ls hl => ?_)
      refine lv_aload_n hx hb dX4_init_142 rfl (lv_at hl 0 rfl) ?_
      refine k_get (K := RX5) (T := TX5) (N := 7) (v := .ref (ad1 g 4 ((z119 5 k119 0).toNatClampNeg))) (w := .ref (ad1 g 4 ((z119 5 k119 0).toNatClampNeg))) hx hb fX5 hown hK hW 5 k119 (hd1.tr (show k119 < nt by omega)) (fun _ => rfl) rfl 0 (by decide) (hts (.fieldLink RX4 68 "Crossdockery$Transfer" "from" "LCrossdockery$Lorry;") (by decide +kernel)) rfl rfl rfl dX4_init_143 ?_
      refine k_get (K := RX3) (T := TX3) (N := 15) (v := .int (z119 4 ((z119 5 k119 0).toNatClampNeg) 0)) (w := .int (z119 4 ((z119 5 k119 0).toNatClampNeg) 0)) hx hb fX3 hown hK hW 4 ((z119 5 k119 0).toNatClampNeg) (hd1.lo (hE119.fr (show k119 < nt by omega))) (fun _ => rfl) rfl 0 (by decide) (hts (.fieldLink RX4 72 "Crossdockery$Lorry" "number" "I") (by decide +kernel)) rfl rfl rfl dX4_init_146 ?_
      refine lv_aload_n hx hb dX4_init_149 rfl (lv_at hl 0 rfl) ?_
      refine k_get (K := RX5) (T := TX5) (N := 7) (v := .ref (ad1 g 4 ((z119 5 k119 1).toNatClampNeg))) (w := .ref (ad1 g 4 ((z119 5 k119 1).toNatClampNeg))) hx hb fX5 hown hK hW 5 k119 (hd1.tr (show k119 < nt by omega)) (fun _ => rfl) rfl 1 (by decide) (hts (.fieldLink RX4 75 "Crossdockery$Transfer" "to" "LCrossdockery$Lorry;") (by decide +kernel)) rfl rfl rfl dX4_init_150 ?_
      refine k_get (K := RX3) (T := TX3) (N := 15) (v := .int (z119 4 ((z119 5 k119 1).toNatClampNeg) 0)) (w := .int (z119 4 ((z119 5 k119 1).toNatClampNeg) 0)) hx hb fX3 hown hK hW 4 ((z119 5 k119 1).toNatClampNeg) (hd1.lo (hE119.to (show k119 < nt by omega))) (fun _ => rfl) rfl 0 (by decide) (hts (.fieldLink RX4 72 "Crossdockery$Lorry" "number" "I") (by decide +kernel)) rfl rfl rfl dX4_init_153 ?_
      refine va_mmin hx hb (by rw [hml]; exact hl.1.symm) hown (hts (.methodLink RX4 41 Lib.Math.min.name) (by decide +kernel)) (hts (.static Lib.Math.min.name) (by decide +kernel)) (hts (.initialized "java/lang/Math") (by decide +kernel)) (hts (.code Lib.Math.min.name Lib.Math.min.code 2 (some .int)) (by decide +kernel)) (Nat.le_of_ble_eq_true rfl) (Nat.le_of_ble_eq_true rfl) (Nat.le_of_ble_eq_true rfl) (Nat.le_of_ble_eq_true rfl) dX4_init_156 ?_
      refine lv_istore (lv' := [(4, .int (if z119 4 ((z119 5 k119 1).toNatClampNeg) 0 < z119 4 ((z119 5 k119 0).toNatClampNeg) 0 then z119 4 ((z119 5 k119 1).toNatClampNeg) 0 else z119 4 ((z119 5 k119 0).toNatClampNeg) 0)), (3, .ref (ad1 g 5 k119)), (2, .int (nI k119)), (0, .ref (ad1 g 21 0)), (1, .ref (ad1 g 0 0))]) hx hb dX4_init_159 hl (by decide) rfl (fun ls hl => ?_)
      refine lv_aload_n hx hb dX4_init_161 rfl (lv_at hl 1 rfl) ?_
      refine k_get (K := RX5) (T := TX5) (N := 7) (v := .ref (ad1 g 4 ((z119 5 k119 0).toNatClampNeg))) (w := .ref (ad1 g 4 ((z119 5 k119 0).toNatClampNeg))) hx hb fX5 hown hK hW 5 k119 (hd1.tr (show k119 < nt by omega)) (fun _ => rfl) rfl 0 (by decide) (hts (.fieldLink RX4 68 "Crossdockery$Transfer" "from" "LCrossdockery$Lorry;") (by decide +kernel)) rfl rfl rfl dX4_init_162 ?_
      refine k_get (K := RX3) (T := TX3) (N := 15) (v := .int (z119 4 ((z119 5 k119 0).toNatClampNeg) 0)) (w := .int (z119 4 ((z119 5 k119 0).toNatClampNeg) 0)) hx hb fX3 hown hK hW 4 ((z119 5 k119 0).toNatClampNeg) (hd1.lo (hE119.fr (show k119 < nt by omega))) (fun _ => rfl) rfl 0 (by decide) (hts (.fieldLink RX4 72 "Crossdockery$Lorry" "number" "I") (by decide +kernel)) rfl rfl rfl dX4_init_165 ?_
      refine lv_aload_n hx hb dX4_init_168 rfl (lv_at hl 1 rfl) ?_
      refine k_get (K := RX5) (T := TX5) (N := 7) (v := .ref (ad1 g 4 ((z119 5 k119 1).toNatClampNeg))) (w := .ref (ad1 g 4 ((z119 5 k119 1).toNatClampNeg))) hx hb fX5 hown hK hW 5 k119 (hd1.tr (show k119 < nt by omega)) (fun _ => rfl) rfl 1 (by decide) (hts (.fieldLink RX4 75 "Crossdockery$Transfer" "to" "LCrossdockery$Lorry;") (by decide +kernel)) rfl rfl rfl dX4_init_169 ?_
      refine k_get (K := RX3) (T := TX3) (N := 15) (v := .int (z119 4 ((z119 5 k119 1).toNatClampNeg) 0)) (w := .int (z119 4 ((z119 5 k119 1).toNatClampNeg) 0)) hx hb fX3 hown hK hW 4 ((z119 5 k119 1).toNatClampNeg) (hd1.lo (hE119.to (show k119 < nt by omega))) (fun _ => rfl) rfl 0 (by decide) (hts (.fieldLink RX4 72 "Crossdockery$Lorry" "number" "I") (by decide +kernel)) rfl rfl rfl dX4_init_172 ?_
      refine va_mmax hx hb (by rw [hml]; exact hl.1.symm) hown (hts (.methodLink RX4 78 Lib.Math.max.name) (by decide +kernel)) (hts (.static Lib.Math.max.name) (by decide +kernel)) (hts (.initialized "java/lang/Math") (by decide +kernel)) (hts (.code Lib.Math.max.name Lib.Math.max.code 2 (some .int)) (by decide +kernel)) (Nat.le_of_ble_eq_true rfl) (Nat.le_of_ble_eq_true rfl) (Nat.le_of_ble_eq_true rfl) (Nat.le_of_ble_eq_true rfl) dX4_init_175 ?_
      refine lv_bipush (v := 8) hx hb dX4_init_178 (by decide) ?_
      refine lv_imul hx hb dX4_init_180 ?_
      refine lv_iload hx hb dX4_init_181 (lv_at hl 0 rfl) ?_
      refine lv_iadd hx hb dX4_init_183 ?_
      refine lv_istore (lv' := [(5, .int (((if z119 4 ((z119 5 k119 0).toNatClampNeg) 0 < z119 4 ((z119 5 k119 1).toNatClampNeg) 0 then z119 4 ((z119 5 k119 1).toNatClampNeg) 0 else z119 4 ((z119 5 k119 0).toNatClampNeg) 0) * 8) + (if z119 4 ((z119 5 k119 1).toNatClampNeg) 0 < z119 4 ((z119 5 k119 0).toNatClampNeg) 0 then z119 4 ((z119 5 k119 1).toNatClampNeg) 0 else z119 4 ((z119 5 k119 0).toNatClampNeg) 0))), (4, .int (if z119 4 ((z119 5 k119 1).toNatClampNeg) 0 < z119 4 ((z119 5 k119 0).toNatClampNeg) 0 then z119 4 ((z119 5 k119 1).toNatClampNeg) 0 else z119 4 ((z119 5 k119 0).toNatClampNeg) 0)), (3, .ref (ad1 g 5 k119)), (2, .int (nI k119)), (0, .ref (ad1 g 21 0)), (1, .ref (ad1 g 0 0))]) hx hb dX4_init_184 hl (by decide) rfl (fun ls hl => ?_)
      refine lv_iload hx hb dX4_init_186 (lv_at hl 0 rfl) ?_
      refine lv_if_lt (tgt := 215) hx hb dX4_init_188 (by decide) (fun c10 => ?_) (fun c10 => ?_)
      ·
        refine lv_iinc (v := (nI (k119 + 1))) (k := 3) (lv' := [(2, .int (nI (k119 + 1))), (5, .int (((if z119 4 ((z119 5 k119 0).toNatClampNeg) 0 < z119 4 ((z119 5 k119 1).toNatClampNeg) 0 then z119 4 ((z119 5 k119 1).toNatClampNeg) 0 else z119 4 ((z119 5 k119 0).toNatClampNeg) 0) * 8) + (if z119 4 ((z119 5 k119 1).toNatClampNeg) 0 < z119 4 ((z119 5 k119 0).toNatClampNeg) 0 then z119 4 ((z119 5 k119 1).toNatClampNeg) 0 else z119 4 ((z119 5 k119 0).toNatClampNeg) 0))), (4, .int (if z119 4 ((z119 5 k119 1).toNatClampNeg) 0 < z119 4 ((z119 5 k119 0).toNatClampNeg) 0 then z119 4 ((z119 5 k119 1).toNatClampNeg) 0 else z119 4 ((z119 5 k119 0).toNatClampNeg) 0)), (3, .ref (ad1 g 5 k119)), (0, .ref (ad1 g 21 0)), (1, .ref (ad1 g 0 0))]) hx hb dX4_init_215 hl rfl (nI_1 _) (by decide) rfl (fun ls hl => ?_)
        refine lv_goto (tgt := 119) hx hb dX4_init_218 (by decide) ?_
        have e9 : (f_X4_init_119 D nl nt ng) k119 z119 = z119 := by unfold f_X4_init_119; first | done | (simp only [if_pos c10]; done) | rfl
        exact ih119 _ _ _ hlt119 ⟨z119, by rw [it_s, ← hz119, e9], hW, hL, lv_sub hl [0, 4, 5] rfl, hE119⟩
      ·
        refine lv_iload hx hb dX4_init_191 (lv_at hl 0 rfl) ?_
        refine lv_aload_n hx hb dX4_init_193 rfl (lv_at hl 4 rfl) ?_
        refine k_get (K := RX4) (T := TX4) (N := 6) (v := .ref (ad1 g 22 3)) (w := .ref (ad1 g 22 3)) hx hb fX4 hown hK hW 21 0 hp.o (fun _ => rfl) rfl 4 (by decide) (hts (.fieldLink RX4 22 "Crossdockery$Plan" "unitsBetween" "[I") (by decide +kernel)) rfl rfl rfl dX4_init_194 ?_
        refine k_alen (t0 := 0) (v := 64) hx hb hK hW 22 3 (hp.a (i := 3) (by decide)) (fun _ => rfl) rfl rfl dX4_init_197 ?_
        refine lv_icmp_ge (tgt := 215) hx hb dX4_init_198 (by decide) (fun c11 => ?_) (fun c11 => ?_)
        ·
          refine lv_iinc (v := (nI (k119 + 1))) (k := 3) (lv' := [(2, .int (nI (k119 + 1))), (5, .int (((if z119 4 ((z119 5 k119 0).toNatClampNeg) 0 < z119 4 ((z119 5 k119 1).toNatClampNeg) 0 then z119 4 ((z119 5 k119 1).toNatClampNeg) 0 else z119 4 ((z119 5 k119 0).toNatClampNeg) 0) * 8) + (if z119 4 ((z119 5 k119 1).toNatClampNeg) 0 < z119 4 ((z119 5 k119 0).toNatClampNeg) 0 then z119 4 ((z119 5 k119 1).toNatClampNeg) 0 else z119 4 ((z119 5 k119 0).toNatClampNeg) 0))), (4, .int (if z119 4 ((z119 5 k119 1).toNatClampNeg) 0 < z119 4 ((z119 5 k119 0).toNatClampNeg) 0 then z119 4 ((z119 5 k119 1).toNatClampNeg) 0 else z119 4 ((z119 5 k119 0).toNatClampNeg) 0)), (3, .ref (ad1 g 5 k119)), (0, .ref (ad1 g 21 0)), (1, .ref (ad1 g 0 0))]) hx hb dX4_init_215 hl rfl (nI_1 _) (by decide) rfl (fun ls hl => ?_)
          refine lv_goto (tgt := 119) hx hb dX4_init_218 (by decide) ?_
          have e9 : (f_X4_init_119 D nl nt ng) k119 z119 = z119 := by unfold f_X4_init_119; first | done | (simp only [if_neg c10, if_pos c11]; done) | rfl
          exact ih119 _ _ _ hlt119 ⟨z119, by rw [it_s, ← hz119, e9], hW, hL, lv_sub hl [0, 4, 5] rfl, hE119⟩
        ·
          have hin_1 := vp_in_of_nge (N := 64) (by decide) c10 (show ¬ (((if z119 4 ((z119 5 k119 0).toNatClampNeg) 0 < z119 4 ((z119 5 k119 1).toNatClampNeg) 0 then z119 4 ((z119 5 k119 1).toNatClampNeg) 0 else z119 4 ((z119 5 k119 0).toNatClampNeg) 0) * 8) + (if z119 4 ((z119 5 k119 1).toNatClampNeg) 0 < z119 4 ((z119 5 k119 0).toNatClampNeg) 0 then z119 4 ((z119 5 k119 1).toNatClampNeg) 0 else z119 4 ((z119 5 k119 0).toNatClampNeg) 0)) ≥ nI 64 from c11)
          refine lv_aload_n hx hb dX4_init_201 rfl (lv_at hl 4 rfl) ?_
          refine k_get (K := RX4) (T := TX4) (N := 6) (v := .ref (ad1 g 22 3)) (w := .ref (ad1 g 22 3)) hx hb fX4 hown hK hW 21 0 hp.o (fun _ => rfl) rfl 4 (by decide) (hts (.fieldLink RX4 22 "Crossdockery$Plan" "unitsBetween" "[I") (by decide +kernel)) rfl rfl rfl dX4_init_202 ?_
          refine lv_iload hx hb dX4_init_205 (lv_at hl 0 rfl) ?_
          refine lv_dup2_11 hx hb dX4_init_207 rfl rfl ?_
          refine k_iald (z := 64) (k := ((((if z119 4 ((z119 5 k119 0).toNatClampNeg) 0 < z119 4 ((z119 5 k119 1).toNatClampNeg) 0 then z119 4 ((z119 5 k119 1).toNatClampNeg) 0 else z119 4 ((z119 5 k119 0).toNatClampNeg) 0) * 8) + (if z119 4 ((z119 5 k119 1).toNatClampNeg) 0 < z119 4 ((z119 5 k119 0).toNatClampNeg) 0 then z119 4 ((z119 5 k119 1).toNatClampNeg) 0 else z119 4 ((z119 5 k119 0).toNatClampNeg) 0)).toNatClampNeg)) hx hb hK hW 22 3 (hp.a (i := 3) (by decide)) (fun _ => rfl) rfl hin_1 (v := (z119 22 3 ((((if z119 4 ((z119 5 k119 0).toNatClampNeg) 0 < z119 4 ((z119 5 k119 1).toNatClampNeg) 0 then z119 4 ((z119 5 k119 1).toNatClampNeg) 0 else z119 4 ((z119 5 k119 0).toNatClampNeg) 0) * 8) + (if z119 4 ((z119 5 k119 1).toNatClampNeg) 0 < z119 4 ((z119 5 k119 0).toNatClampNeg) 0 then z119 4 ((z119 5 k119 1).toNatClampNeg) 0 else z119 4 ((z119 5 k119 0).toNatClampNeg) 0)).toNatClampNeg))) rfl dX4_init_208 ?_
          refine lv_aload_n hx hb dX4_init_209 rfl (lv_at hl 2 rfl) ?_
          refine k_get (K := RX5) (T := TX5) (N := 7) (v := .int (z119 5 k119 2)) (w := .int (z119 5 k119 2)) hx hb fX5 hown hK hW 5 k119 (hd1.tr (show k119 < nt by omega)) (fun _ => rfl) rfl 2 (by decide) (hts (.fieldLink RX4 81 "Crossdockery$Transfer" "units" "I") (by decide +kernel)) rfl rfl rfl dX4_init_210 ?_
          refine lv_iadd hx hb dX4_init_213 ?_
          refine k_iast (z := 64) (k := ((((if z119 4 ((z119 5 k119 0).toNatClampNeg) 0 < z119 4 ((z119 5 k119 1).toNatClampNeg) 0 then z119 4 ((z119 5 k119 1).toNatClampNeg) 0 else z119 4 ((z119 5 k119 0).toNatClampNeg) 0) * 8) + (if z119 4 ((z119 5 k119 1).toNatClampNeg) 0 < z119 4 ((z119 5 k119 0).toNatClampNeg) 0 then z119 4 ((z119 5 k119 1).toNatClampNeg) 0 else z119 4 ((z119 5 k119 0).toNatClampNeg) 0)).toNatClampNeg)) hx hb hK hW hL 22 3 (hp.a (i := 3) (by decide)) (fun _ => rfl) rfl hin_1 dX4_init_214 (fun H locs hW hL => ?_)
          refine lv_iinc (v := (nI (k119 + 1))) (k := 3) (lv' := [(2, .int (nI (k119 + 1))), (5, .int (((if z119 4 ((z119 5 k119 0).toNatClampNeg) 0 < z119 4 ((z119 5 k119 1).toNatClampNeg) 0 then z119 4 ((z119 5 k119 1).toNatClampNeg) 0 else z119 4 ((z119 5 k119 0).toNatClampNeg) 0) * 8) + (if z119 4 ((z119 5 k119 1).toNatClampNeg) 0 < z119 4 ((z119 5 k119 0).toNatClampNeg) 0 then z119 4 ((z119 5 k119 1).toNatClampNeg) 0 else z119 4 ((z119 5 k119 0).toNatClampNeg) 0))), (4, .int (if z119 4 ((z119 5 k119 1).toNatClampNeg) 0 < z119 4 ((z119 5 k119 0).toNatClampNeg) 0 then z119 4 ((z119 5 k119 1).toNatClampNeg) 0 else z119 4 ((z119 5 k119 0).toNatClampNeg) 0)), (3, .ref (ad1 g 5 k119)), (0, .ref (ad1 g 21 0)), (1, .ref (ad1 g 0 0))]) hx hb dX4_init_215 hl rfl (nI_1 _) (by decide) rfl (fun ls hl => ?_)
          refine lv_goto (tgt := 119) hx hb dX4_init_218 (by decide) ?_
          have e9 : (f_X4_init_119 D nl nt ng) k119 z119 = (k_d z119 22 3 ((((if z119 4 ((z119 5 k119 0).toNatClampNeg) 0 < z119 4 ((z119 5 k119 1).toNatClampNeg) 0 then z119 4 ((z119 5 k119 1).toNatClampNeg) 0 else z119 4 ((z119 5 k119 0).toNatClampNeg) 0) * 8) + (if z119 4 ((z119 5 k119 1).toNatClampNeg) 0 < z119 4 ((z119 5 k119 0).toNatClampNeg) 0 then z119 4 ((z119 5 k119 1).toNatClampNeg) 0 else z119 4 ((z119 5 k119 0).toNatClampNeg) 0)).toNatClampNeg) ((z119 22 3 ((((if z119 4 ((z119 5 k119 0).toNatClampNeg) 0 < z119 4 ((z119 5 k119 1).toNatClampNeg) 0 then z119 4 ((z119 5 k119 1).toNatClampNeg) 0 else z119 4 ((z119 5 k119 0).toNatClampNeg) 0) * 8) + (if z119 4 ((z119 5 k119 1).toNatClampNeg) 0 < z119 4 ((z119 5 k119 0).toNatClampNeg) 0 then z119 4 ((z119 5 k119 1).toNatClampNeg) 0 else z119 4 ((z119 5 k119 0).toNatClampNeg) 0)).toNatClampNeg)) + (z119 5 k119 2))) := by unfold f_X4_init_119; first | done | (simp only [if_neg c10, if_neg c11]; done) | rfl
          exact ih119 _ _ _ hlt119 ⟨(k_d z119 22 3 ((((if z119 4 ((z119 5 k119 0).toNatClampNeg) 0 < z119 4 ((z119 5 k119 1).toNatClampNeg) 0 then z119 4 ((z119 5 k119 1).toNatClampNeg) 0 else z119 4 ((z119 5 k119 0).toNatClampNeg) 0) * 8) + (if z119 4 ((z119 5 k119 1).toNatClampNeg) 0 < z119 4 ((z119 5 k119 0).toNatClampNeg) 0 then z119 4 ((z119 5 k119 1).toNatClampNeg) 0 else z119 4 ((z119 5 k119 0).toNatClampNeg) 0)).toNatClampNeg) ((z119 22 3 ((((if z119 4 ((z119 5 k119 0).toNatClampNeg) 0 < z119 4 ((z119 5 k119 1).toNatClampNeg) 0 then z119 4 ((z119 5 k119 1).toNatClampNeg) 0 else z119 4 ((z119 5 k119 0).toNatClampNeg) 0) * 8) + (if z119 4 ((z119 5 k119 1).toNatClampNeg) 0 < z119 4 ((z119 5 k119 0).toNatClampNeg) 0 then z119 4 ((z119 5 k119 1).toNatClampNeg) 0 else z119 4 ((z119 5 k119 0).toNatClampNeg) 0)).toNatClampNeg)) + (z119 5 k119 2))), by rw [it_s, ← hz119, e9], hW, hL, lv_sub hl [0, 4, 5] rfl, (hE119.put ⟨by decide, Or.inl (by decide)⟩)⟩
  ·
    have hlt61 : k61 < nl := k_nI_nge (by omega) (by omega) c7
    refine lv_aload_n hx hb dX4_init_69 rfl (lv_at hl 2 rfl) ?_
    refine k_get (K := RX0) (T := TX0) (N := 5) (v := .ref (ad1 g 1 0)) (w := .ref (ad1 g 1 0)) hx hb fX0 hown hK hW 0 0 hd1.o (fun _ => rfl) rfl 0 (by decide) (hts (.fieldLink RX4 29 "Crossdockery$Dock" "lorries" "Ljava/util/ArrayList;") (by decide +kernel)) rfl rfl rfl dX4_init_70 ?_
    refine lv_iload_n hx hb dX4_init_73 rfl (lv_at hl 0 rfl) ?_
    refine k_callV (As := [.int (nI k61)]) (rest := []) ⟨hx, hb, hml, hown, hts⟩ hK (c_get0 X l hd1 hW.cap (j := k61) (by omega)) (cwV 1 hts gX4_init_Jx4a65c_get_915e3 rfl rfl rfl (by decide +kernel) ⟨Nat.le_of_ble_eq_true rfl, Nat.le_of_ble_eq_true rfl⟩) (k_recv hK hW 1 0 (hd1.li (by decide)) (fun _ => rfl) rfl) hW rfl hl.1 rfl (Nat.le_of_ble_eq_true rfl) dX4_init_74 ⟨Nat.le_of_ble_eq_true rfl, Nat.le_of_ble_eq_true rfl⟩ hL (fun v9 H locs hp hL => ?_)
    obtain ⟨rfl, hW⟩ := hp
    refine k_cast' (K := RX3) (nm := RX3) hx hb hown (hts (.classLink RX4 54 RX3) (by decide +kernel)) hK (List.mem_of_getElem? (i := 4) rfl) (k_recv hK hW 4 k61 (hd1.lo (show k61 < nl by omega)) (fun _ => rfl) rfl) dX4_init_77 ?_
    refine lv_astore_n (lv' := [(3, .ref (ad1 g 4 k61)), (2, .int (nI k61)), (0, .ref (ad1 g 21 0)), (1, .ref (ad1 g 0 0))]) hx hb dX4_init_80 rfl hl (by decide) rfl (fun ls hl => ?_)
    refine lv_aload_n hx hb dX4_init_81 rfl (lv_at hl 2 rfl) ?_
    refine k_get (K := RX4) (T := TX4) (N := 6) (v := .ref (ad1 g 22 0)) (w := .ref (ad1 g 22 0)) hx hb fX4 hown hK hW 21 0 hp.o (fun _ => rfl) rfl 1 (by decide) (hts (.fieldLink RX4 9 "Crossdockery$Plan" "isOpen" "[Z") (by decide +kernel)) rfl rfl rfl dX4_init_82 ?_
    refine lv_iload_n hx hb dX4_init_85 rfl (lv_at hl 1 rfl) ?_
    refine lv_aload_n hx hb dX4_init_86 rfl (lv_at hl 0 rfl) ?_
    refine k_get (K := RX3) (T := TX3) (N := 15) (v := .int (z61 4 k61 5)) (w := .int (z61 4 k61 5)) hx hb fX3 hown hK hW 4 k61 (hd1.lo (show k61 < nl by omega)) (fun _ => rfl) rfl 5 (by decide) (hts (.fieldLink RX4 56 "Crossdockery$Lorry" "state" "C") (by decide +kernel)) rfl rfl rfl dX4_init_87 ?_
    refine lv_bipush (v := 101) hx hb dX4_init_90 (by decide) ?_
    refine k_join (pc' := 100) (fun H locs ls st => k_W X n1 ad1 L (k_g C g z61) fr H ∧ (∀ q ∈ locs, k_B X ≤ q.base) ∧ lv_has ls 6 [(3, .ref (ad1 g 4 k61)), (2, .int (nI k61)), (0, .ref (ad1 g 21 0)), (1, .ref (ad1 g 0 0))] ∧ st = [.int (j_X4_init_100 D nl nt ng k61 z61), .int (nI k61), .ref (ad1 g 22 0)]) (fun H locs ls st hJ => ?_) (fun join100 => ?_)
    ·
      obtain ⟨hW, hL, hl, rfl⟩ := hJ
      refine k_zast (z := 8) (k := k61) hx hb hK hW hL 22 0 (hp.a (i := 0) (by decide)) (fun _ => rfl) (k_01 (by unfold j_X4_init_100; (repeat' split); all_goals first | exact Or.inl rfl | exact Or.inr rfl)) (nI_clamp (by omega)) (vp_in_nI (by omega) (by omega)) dX4_init_100 (fun H locs hW hL => ?_)
      refine lv_aload_n hx hb dX4_init_101 rfl (lv_at hl 2 rfl) ?_
      refine k_get (K := RX4) (T := TX4) (N := 6) (v := .ref (ad1 g 22 1)) (w := .ref (ad1 g 22 1)) hx hb fX4 hown hK hW 21 0 hp.o (fun _ => rfl) rfl 2 (by decide) (hts (.fieldLink RX4 15 "Crossdockery$Plan" "doors" "[I") (by decide +kernel)) rfl rfl rfl dX4_init_102 ?_
      refine lv_iload_n hx hb dX4_init_105 rfl (lv_at hl 1 rfl) ?_
      refine lv_aload_n hx hb dX4_init_106 rfl (lv_at hl 0 rfl) ?_
      refine k_get (K := RX3) (T := TX3) (N := 15) (v := .int ((k_d z61 22 0 k61 (j_X4_init_100 D nl nt ng k61 z61)) 4 k61 4)) (w := .int (z61 4 k61 4)) hx hb fX3 hown hK hW 4 k61 (hd1.lo (show k61 < nl by omega)) (fun _ => rfl) rfl 4 (by decide) (hts (.fieldLink RX4 60 "Crossdockery$Lorry" "door" "I") (by decide +kernel)) rfl rfl (congrArg Value.int (k_dr rfl)) dX4_init_107 ?_
      refine k_iast (z := 8) (k := k61) hx hb hK hW hL 22 1 (hp.a (i := 1) (by decide)) (fun _ => rfl) (nI_clamp (by omega)) (vp_in_nI (by omega) (by omega)) dX4_init_110 (fun H locs hW hL => ?_)
      refine lv_iinc (v := (nI (k61 + 1))) (k := 1) (lv' := [(2, .int (nI (k61 + 1))), (3, .ref (ad1 g 4 k61)), (0, .ref (ad1 g 21 0)), (1, .ref (ad1 g 0 0))]) hx hb dX4_init_111 hl rfl (nI_1 _) (by decide) rfl (fun ls hl => ?_)
      refine lv_goto (tgt := 61) hx hb dX4_init_114 (by decide) ?_
      have e9 : (f_X4_init_61 D nl nt ng) k61 z61 = (k_d (k_d z61 22 0 k61 (j_X4_init_100 D nl nt ng k61 z61)) 22 1 k61 (z61 4 k61 4)) := by unfold f_X4_init_61; first | done | rfl
      exact ih61 _ _ _ hlt61 ⟨(k_d (k_d z61 22 0 k61 (j_X4_init_100 D nl nt ng k61 z61)) 22 1 k61 (z61 4 k61 4)), by rw [it_s, ← hz61, e9], hW, hL, lv_sub hl [0, 2, 3] rfl, ((hE61.put ⟨by decide, Or.inl (by decide)⟩).put ⟨by decide, Or.inl (by decide)⟩), by rw [k_dr rfl, k_dr rfl]; exact hcnt⟩
    ·
      refine lv_icmp_ne (tgt := 99) hx hb dX4_init_92 (by decide) (fun c8 => ?_) (fun c8 => ?_)
      ·
        refine lv_iconst (v := 0) hx hb dX4_init_99 (by decide) ?_
        have e9 : (j_X4_init_100 D nl nt ng k61 z61) = 0 := by unfold j_X4_init_100; first | done | (simp only [if_neg c8]; done) | rfl
        exact join100 _ _ _ _ (by rw [e9]; exact ⟨hW, hL, lv_sub hl [0, 1, 2, 3] rfl, rfl⟩)
      ·
        refine lv_iconst (v := 1) hx hb dX4_init_95 (by decide) ?_
        refine lv_goto (tgt := 100) hx hb dX4_init_96 (by decide) ?_
        have e9 : (j_X4_init_100 D nl nt ng k61 z61) = 1 := by unfold j_X4_init_100; first | done | (simp only [if_pos c8]; done) | rfl
        exact join100 _ _ _ _ (by rw [e9]; exact ⟨hW, hL, lv_sub hl [0, 1, 2, 3] rfl, rfl⟩)
