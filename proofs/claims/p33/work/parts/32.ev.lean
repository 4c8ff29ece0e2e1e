/-! the events: owner 5 -/
def kCx (n : Nat → Nat → Nat) (ne : Nat) : Prop := n 5 16 = 1 ∧ n 5 17 = 1 ∧ n 5 19 = ne ∧ n 5 2 = 0 ∧ n 5 1 = 0
theorem kCx.o {n : Nat → Nat → Nat} {ne : Nat} (h : kCx n ne) : k_v n 5 16 0 := by
  show 0 < n 5 16
  rw [h.1]; decide
theorem kCx.li {n : Nat → Nat → Nat} {ne : Nat} (h : kCx n ne) : k_v n 5 17 0 := by
  show 0 < n 5 17 ∧ n 5 2 ≠ 40
  rw [h.2.1, h.2.2.2.1]; decide
theorem kCx.ar {n : Nat → Nat → Nat} {ne : Nat} (h : kCx n ne) (h0 : 0 < ne) : k_v n 5 18 0 := by
  show 0 < n 5 17 ∧ 0 < n 5 19 ∧ n 5 2 ≠ 40
  rw [h.2.1, h.2.2.2.1, h.2.2.1]; exact ⟨by decide, h0, by decide⟩
theorem kCx.ev {n : Nat → Nat → Nat} {ne : Nat} (h : kCx n ne) {j : Nat} (hj : j < ne) : k_v n 5 19 j := by
  show j < n 5 19
  rw [h.2.2.1]; exact hj
theorem kCx.e {n : Nat → Nat → Nat} {ne : Nat} (h : kCx n ne) (X : kX) (ad L : Nat → Nat → Nat → Nat) : ∀ c : Nat → Int32, k_e X n ad L 5 17 0 c = .inr (3, [.int (c 0), .ref (if ne = 0 then X.2.2.2 else ad 5 18 0), .int (nI ne)]) := by
  intro c
  show (Sum.inr (3, [.int (c 0), .ref (if n 5 19 = 0 then X.2.2.2 else ad 5 18 0), .int (nI (n 5 19))]) : va_E) = _
  rw [h.2.2.1]
theorem kCx.en {n : Nat → Nat → Nat} {ne : Nat} (h : kCx n ne) (h0 : 0 < ne) (X : kX) (ad L : Nat → Nat → Nat → Nat) : ∀ c : Nat → Int32, k_e X n ad L 5 17 0 c = .inr (3, [.int (c 0), .ref (ad 5 18 0), .int (nI ne)]) := by
  intro c
  rw [h.e, if_neg (by omega)]
theorem kCx.f {n : Nat → Nat → Nat} {ne : Nat} (h : kCx n ne) (X : kX) (ad L : Nat → Nat → Nat → Nat) : ∀ c : Nat → Int32, k_e X n ad L 5 18 0 c = .inl (X.2.1 4, L 5 18 0, .inr (.inr (.inr (.inr (fun j => if j < ne then some (ad 5 19 j) else none))))) := by
  intro c
  show (Sum.inl (X.2.1 4, L 5 18 0, .inr (.inr (.inr (.inr (fun j => if j < n 5 19 then some (ad 5 19 j) else none))))) : va_E) = _
  rw [h.2.2.1]
def k_fe (kd fi se th : Int32) : Nat → Int32 := fun k => match k with
  | 0 => kd | 1 => fi | 2 => se | 3 => th | _ => 0
theorem k_outE0 {X : kX} {n : Nat → Nat → Nat} {ad L : Nat → Nat → Nat → Nat} {C : Nat → Nat → Nat → Nat → Int32} {fr : Nat → Option Cell} {ws : va_W} {H : Heap} (h : k_N X n ad L C fr ws H) (hc : kCx n 0) : k_N X (k_n1 n 5 40) ad L C fr ((ad 5 17 0, .inr (3, [.int (C 5 17 0 0), .ref X.2.2.2, .int 0])) :: ws) H := by
  have q := h.takeOut [(5, 17, 0)] (n' := k_n1 n 5 40) (fun g' r' i' hv => ⟨k_n1_v hc.2.2.2.1 hv, k_n1_e X n ad L 5 40 g' r' i'⟩) (fun p hp => by
    rw [List.mem_singleton.mp hp]
    refine ⟨hc.li, fun z => ?_⟩
    have z2 : k_n1 n 5 40 5 2 ≠ 40 := z.2
    exact z2 k_n1_2) (by simp) (k_n1_cap hc.2.2.2.1 h.1.cap)
  have e : k_pl X n ad L C (5, 17, 0) = (ad 5 17 0, .inr (3, [.int (C 5 17 0 0), .ref X.2.2.2, .int 0])) := by
    show (ad 5 17 0, k_e X n ad L 5 17 0 (C 5 17 0)) = _
    rw [hc.e, if_pos rfl]
    rfl
  have q2 : k_N X (k_n1 n 5 40) ad L C fr (k_pl X n ad L C (5, 17, 0) :: ws) H := q
  rw [e] at q2
  exact q2
theorem k_outE1 {X : kX} {n : Nat → Nat → Nat} {ad L : Nat → Nat → Nat → Nat} {C : Nat → Nat → Nat → Nat → Int32} {fr : Nat → Option Cell} {ws : va_W} {H : Heap} {ne : Nat} (h : k_N X n ad L C fr ws H) (hc : kCx n ne) (h0 : 0 < ne) : k_N X (k_n1 n 5 40) ad L C fr ((ad 5 17 0, .inr (3, [.int (C 5 17 0 0), .ref (ad 5 18 0), .int (nI ne)])) :: (ad 5 18 0, .inl (X.2.1 4, L 5 18 0, .inr (.inr (.inr (.inr (fun j => if j < ne then some (ad 5 19 j) else none)))))) :: ws) H := by
  have q := h.takeOut [(5, 17, 0), (5, 18, 0)] (n' := k_n1 n 5 40) (fun g' r' i' hv => ⟨k_n1_v hc.2.2.2.1 hv, k_n1_e X n ad L 5 40 g' r' i'⟩) (fun p hp => by
    rcases List.mem_cons.mp hp with w | w
    · rw [w]
      refine ⟨hc.li, fun z => ?_⟩
      have z2 : k_n1 n 5 40 5 2 ≠ 40 := z.2
      exact z2 k_n1_2
    · rw [List.mem_singleton.mp w]
      refine ⟨hc.ar h0, fun z => ?_⟩
      have z2 : k_n1 n 5 40 5 2 ≠ 40 := z.2.2
      exact z2 k_n1_2) (by simp) (k_n1_cap hc.2.2.2.1 h.1.cap)
  have e : k_pl X n ad L C (5, 17, 0) = (ad 5 17 0, .inr (3, [.int (C 5 17 0 0), .ref (ad 5 18 0), .int (nI ne)])) := by
    show (ad 5 17 0, k_e X n ad L 5 17 0 (C 5 17 0)) = _
    rw [hc.en h0]
  have e2 : k_pl X n ad L C (5, 18, 0) = (ad 5 18 0, .inl (X.2.1 4, L 5 18 0, .inr (.inr (.inr (.inr (fun j => if j < ne then some (ad 5 19 j) else none)))))) := by
    show (ad 5 18 0, k_e X n ad L 5 18 0 (C 5 18 0)) = _
    rw [hc.f]
  have q2 : k_N X (k_n1 n 5 40) ad L C fr (k_pl X n ad L C (5, 17, 0) :: k_pl X n ad L C (5, 18, 0) :: ws) H := q
  rw [e, e2] at q2
  exact q2
theorem k_capE {X : kX} {n : Nat → Nat → Nat} {ad L : Nat → Nat → Nat → Nat} {C : Nat → Nat → Nat → Nat → Int32} {fr : Nat → Option Cell} {H : Heap} {ne : Nat} (h : k_W X n ad L C fr H) (hc : kCx n ne) (h0 : 0 < ne) : ne ≤ L 5 18 0 ∧ L 5 18 0 ≤ 40000 ∧ 10 ≤ L 5 18 0 := by
  have := h.cap.2 5 0 (hc.ar h0)
  rw [hc.2.2.1] at this
  exact this
def k_aE (ad : Nat → Nat → Nat → Nat) (ne b o : Nat) : Nat → Nat → Nat → Nat := fun g' r' i' => if g' = 5 then (if r' = 18 ∧ i' = 0 then b else if r' = 19 ∧ i' = ne then o else ad g' r' i') else ad g' r' i'
theorem k_aE_g {ad : Nat → Nat → Nat → Nat} {ne b o g' : Nat} (h : g' ≠ 5) : k_aE ad ne b o g' = ad g' := by
  funext r' i'
  exact if_neg h
theorem k_aE_r {ad : Nat → Nat → Nat → Nat} {ne b o r' : Nat} (h : r' ≠ 18 ∧ r' ≠ 19) (g' i' : Nat) : k_aE ad ne b o g' r' i' = ad g' r' i' := by
  unfold k_aE
  by_cases hg : g' = 5
  · rw [if_pos hg, if_neg (fun z => h.1 z.1), if_neg (fun z => h.2 z.1)]
  · exact if_neg hg
theorem k_aE_b {ad : Nat → Nat → Nat → Nat} {ne b o : Nat} : k_aE ad ne b o 5 18 0 = b := by simp [k_aE]
theorem k_aE_o {ad : Nat → Nat → Nat → Nat} {ne b o : Nat} : k_aE ad ne b o 5 19 ne = o := by simp [k_aE]
theorem k_aE_j {ad : Nat → Nat → Nat → Nat} {ne b o j : Nat} (h : j ≠ ne) : k_aE ad ne b o 5 19 j = ad 5 19 j := by simp [k_aE, h]
def k_DE (D : KD) (ne : Nat) (mo : Int32) (w : Nat → Int32) : KD := fun r i => if r = 17 ∧ i = 0 then upd (D 17 0) 0 mo else if r = 19 ∧ i = ne then w else D r i
theorem k_DE_o {D : KD} {ne : Nat} {mo : Int32} {w : Nat → Int32} {r i : Nat} (h : ¬ (r = 17 ∧ i = 0) ∧ ¬ (r = 19 ∧ i = ne)) : k_DE D ne mo w r i = D r i := by
  unfold k_DE
  rw [if_neg h.1, if_neg h.2]
theorem k_DE_17 {D : KD} {ne : Nat} {mo : Int32} {w : Nat → Int32} : k_DE D ne mo w 17 0 = upd (D 17 0) 0 mo := if_pos ⟨rfl, rfl⟩
theorem k_DE_19 {D : KD} {ne : Nat} {mo : Int32} {w : Nat → Int32} : k_DE D ne mo w 19 ne = w := by simp [k_DE]
theorem k_e_farE {X : kX} {n n' : Nat → Nat → Nat} {ad ad' L L' : Nat → Nat → Nat → Nat} {r i : Nat} (c : Nat → Int32) (hr : r ≠ 17 ∧ r ≠ 18) (hn : ∀ s, s ≠ 19 → n' 5 s = n 5 s) (hi : r = 1 ∨ r = 2 → i < 14) (ha : ∀ s j, s ≠ 18 ∧ s ≠ 19 → ad' 5 s j = ad 5 s j) (h0 : ad' 0 0 0 = ad 0 0 0) (hL : ∀ s j, s ≠ 18 → L' 5 s j = L 5 s j) : k_e X n' ad' L' 5 r i c = k_e X n ad L 5 r i c := by
  obtain ⟨r1, r2⟩ := hr
  have a1 := fun j => ha 1 j (by decide)
  have a2 := fun j => ha 2 j (by decide)
  have a3 := fun j => ha 3 j (by decide)
  have a4 := fun j => ha 4 j (by decide)
  have a7 := fun j => ha 7 j (by decide)
  have a8 := fun j => ha 8 j (by decide)
  have a15 := fun j => ha 15 j (by decide)
  have a17 := fun j => ha 17 j (by decide)
  have a22 := fun j => ha 22 j (by decide)
  have l2 := fun j => hL 2 j (by decide)
  unfold k_e
  split
  · simp only [a1, a3]
  · have := hi (Or.inl rfl)
    simp only [a2, hn (4 + i) (by omega)]
  · have := hi (Or.inr rfl)
    have a4i := fun j => ha (4 + i) j (by omega)
    simp only [l2, a4i, hn (4 + i) (by omega)]
  · simp only [a4]
  · simp only [a7]
  · simp only [a4, a8]
  · rfl
  · rfl
  · rfl
  · simp only [a15]
  · rfl
  · simp only [h0, a17]
  · exact absurd rfl r1
  · exact absurd rfl r2
  · rfl
  · simp only [a22]
  · rfl
  · rfl
set_option maxHeartbeats 400000 in
theorem k_closeE {X : kX} {n : Nat → Nat → Nat} {ad L : Nat → Nat → Nat → Nat} {C : Nat → Nat → Nat → Nat → Int32} {fr : Nat → Option Cell} {H : Heap} {ne b o z : Nat} {f : Nat → Option Nat} {mo kd fi se th : Int32} (hc : kCx n ne)
    (h : k_N X (k_n1 n 5 40) ad L C fr [(ad 5 17 0, .inr (3, [.int mo, .ref b, .int (nI (ne + 1))])), (b, .inl (X.2.1 4, z, .inr (.inr (.inr (.inr f))))), (o, .inr (7, [.int kd, .int fi, .int se, .int th]))] H)
    (hf : ∀ j, f j = if j < ne + 1 then some (if j = ne then o else ad 5 19 j) else none) (hz : ne + 1 ≤ z ∧ z ≤ 40000 ∧ 10 ≤ z) :
    ∃ n' ad' L' E, (∀ g', g' ≠ 5 → n' g' = n g' ∧ ad' g' = ad g' ∧ L' g' = L g') ∧ ad' 5 16 0 = ad 5 16 0 ∧ ad' 5 19 ne = o ∧ kCx n' (ne + 1) ∧ (∀ j, j ≠ ne → E 19 j = C 5 19 j) ∧ E 19 ne = k_fe kd fi se th ∧ k_W X n' ad' L' (k_g C 5 E) fr H := by
  refine ⟨k_n2 n 5 19, k_aE ad ne b o, k_L2 L 5 18 0 z, k_DE (C 5) ne mo (k_fe kd fi se th), fun g' hg => ⟨k_n2_g hg, k_aE_g hg, k_L2_g hg⟩, k_aE_r (by decide) _ _, k_aE_o, ⟨?_, ?_, ?_, ?_, ?_⟩, fun j hj => k_DE_o ⟨by omega, fun z => hj z.2⟩, k_DE_19, ?_⟩
  · rw [k_n2_r (by decide)]; exact hc.1
  · rw [k_n2_r (by decide)]; exact hc.2.1
  · rw [k_n2_s, hc.2.2.1]
  · rw [k_n2_r (by decide)]; exact hc.2.2.2.1
  · rw [k_n2_r (by decide)]; exact hc.2.2.2.2
  have h000 : k_aE ad ne b o 0 0 0 = ad 0 0 0 := k_aE_r (by decide) 0 0
  refine h.close (fun g' r' i' => if g' = 5 then (if r' = 17 ∧ i' = 0 then some 0 else if r' = 18 ∧ i' = 0 then some 1 else if r' = 19 ∧ i' = ne then some 2 else none) else none) (fun g' r' i' hv => ?_) (fun g1 r1 i1 g2 r2 i2 k e1 e2 => ?_) ⟨fun g' i' hv => ?_, fun g' i' hv => ?_⟩
  · by_cases hg : g' = 5
    · subst hg
      rw [k_g_at]
      by_cases q1 : r' = 17
      · subst q1
        have hi0 : i' = 0 := by have := hv.1; rw [k_n2_r (by decide), hc.2.1] at this; omega
        subst hi0
        refine Or.inr ⟨0, by simp, ?_⟩
        rw [k_aE_r (by decide), k_DE_17]
        show some _ = some (_, (Sum.inr (3, [.int (upd _ 0 _ 0), .ref (if k_n2 n 5 19 5 19 = 0 then _ else k_aE ad ne b o 5 18 0), .int (nI (k_n2 n 5 19 5 19))]) : va_E))
        rw [k_n2_s, if_neg (Nat.succ_ne_zero _), k_aE_b, hc.2.2.1]
        rfl
      by_cases q2 : r' = 18
      · subst q2
        have hi0 : i' = 0 := by have := hv.1; rw [k_n2_r (by decide), hc.2.1] at this; omega
        subst hi0
        refine Or.inr ⟨1, by simp, ?_⟩
        rw [k_aE_b, k_DE_o ⟨by omega, by omega⟩]
        show some _ = some (_, (Sum.inl (_, k_L2 L 5 18 0 z 5 18 0, .inr (.inr (.inr (.inr (fun j => if j < k_n2 n 5 19 5 19 then some (k_aE ad ne b o 5 19 j) else none))))) : va_E))
        rw [k_L2_s, k_n2_s, hc.2.2.1]
        refine congrArg (fun F => some (b, (Sum.inl (X.2.1 4, z, .inr (.inr (.inr (.inr F)))) : va_E))) (funext fun j => ?_)
        rw [hf j]
        by_cases qj : j = ne
        · subst qj; rw [if_pos (Nat.lt_succ_self _), if_pos rfl, if_pos (Nat.lt_succ_self _), k_aE_o]
        · rw [if_neg qj, k_aE_j qj]
      by_cases q3 : r' = 19 ∧ i' = ne
      · obtain ⟨rfl, rfl⟩ := q3
        refine Or.inr ⟨2, by simp, ?_⟩
        rw [k_aE_o, k_DE_19]
        rfl
      have hold : k_v (k_n1 n 5 40) 5 r' i' := by
        unfold k_v at hv ⊢
        split at hv
        · rw [k_n2_r (by decide), hc.2.2.2.2] at hv; exact absurd hv.1 (Nat.not_lt_zero _)
        · rw [k_n2_r (by decide), hc.2.2.2.2] at hv; exact absurd hv.1 (Nat.not_lt_zero _)
        · rw [k_n1_r _ (by decide)]; rw [k_n2_r (by decide)] at hv; exact hv
        · rw [k_n1_r _ (by decide)]; rw [k_n2_r (by decide)] at hv; exact hv
        · exact absurd rfl q1
        · exact absurd rfl q2
        · rename_i r9 p1 p2 p3 p4 p5 p6
          rw [k_n1_r _ p2]
          by_cases q5 : r' = 19
          · subst q5; rw [k_n2_s, hc.2.2.1] at hv; rw [hc.2.2.1]; have : i' ≠ ne := fun z => q3 ⟨rfl, z⟩; omega
          · rw [k_n2_r q5] at hv; exact hv
      refine Or.inl ⟨hold, by simp only [if_true]; rw [if_neg (fun z => q1 z.1), if_neg (fun z => q2 z.1), if_neg q3], ?_, ?_⟩
      · unfold k_aE; rw [if_pos rfl, if_neg (fun z => q2 z.1), if_neg q3]
      · rw [k_n1_e, k_DE_o ⟨fun z => q1 z.1, q3⟩]
        refine k_e_farE _ ⟨q1, q2⟩ (fun s hs => k_n2_r hs _) (fun hr => ?_) (fun s j hs => k_aE_r hs _ _) h000 (fun s j hs => k_L2_o (by omega))
        exfalso
        rcases hr with rfl | rfl
        · have := hold.1; rw [k_n1_r _ (by decide), hc.2.2.2.2] at this; omega
        · have := hold.1; rw [k_n1_r _ (by decide), hc.2.2.2.2] at this; omega
    · refine Or.inl ⟨?_, if_neg hg, congrFun (congrFun (k_aE_g hg) r') i', ?_⟩
      · have hn : k_n2 n 5 19 g' = k_n1 n 5 40 g' := by rw [k_n2_g hg, k_n1_gg hg]
        unfold k_v at hv ⊢; rw [← hn]; exact hv
      · rw [k_g_ne _ _ hg]
        exact congrFun (congrFun (congrFun (k_e_g (by rw [k_n2_g hg, k_n1_gg hg]) (k_aE_g hg) h000 (k_L2_g hg)) r') i') _
  · split at e1 <;> rename_i p1
    · split at e2 <;> rename_i p2
      · subst p1; subst p2; refine ⟨rfl, ?_⟩
        (repeat' split at e1) <;> (repeat' split at e2) <;> first | (exact ⟨by omega, by omega⟩) | (cases e1; cases e2) | (cases e1) | (cases e2)
      · cases e2
    · cases e1
  · have hg : g' ≠ 5 := by
      rintro rfl
      have := hv.1
      rw [k_n2_r (by decide), hc.2.2.2.2] at this
      omega
    have hn : k_n2 n 5 19 g' = k_n1 n 5 40 g' := by rw [k_n2_g hg, k_n1_gg hg]
    rw [k_L2_o (by omega), hn]; refine h.1.cap.1 g' i' ?_
    unfold k_v at hv ⊢; rw [← hn]; exact hv
  · by_cases hg : g' = 5
    · subst hg
      have hi0 : i' = 0 := by have := hv.1; rw [k_n2_r (by decide), hc.2.1] at this; omega
      subst hi0
      rw [k_L2_s, k_n2_s, hc.2.2.1]
      exact hz
    · have hn : k_n2 n 5 19 g' = k_n1 n 5 40 g' := by rw [k_n2_g hg, k_n1_gg hg]
      rw [k_L2_o (by omega), hn]; refine h.1.cap.2 g' i' ?_
      unfold k_v at hv ⊢; rw [← hn]; exact hv
theorem k_g_comm {C : Nat → Nat → Nat → Nat → Int32} {a b : Nat} (h : a ≠ b) (D E : KD) : k_g (k_g C a D) b E = k_g (k_g C b E) a D := by
  funext g'
  unfold k_g
  by_cases h1 : g' = a
  · subst h1; rw [if_neg h, if_pos rfl, if_pos rfl]
  · rw [if_neg h1]
    by_cases h2 : g' = b
    · rw [if_pos h2, if_neg h1]
    · rw [if_neg h2, if_neg h1]
