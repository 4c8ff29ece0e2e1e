/-! a list of the dock that grew comes back into the world, with what was put into it -/
def k_n2 (n : Nat → Nat → Nat) (g r : Nat) : Nat → Nat → Nat := fun g' r' => if g' = g ∧ r' = r then n g r + 1 else n g' r'
def k_a2 (ad : Nat → Nat → Nat → Nat) (g q ro sr cnt b o sb : Nat) : Nat → Nat → Nat → Nat := fun g' r' i' => if g' = g then (if r' = 2 ∧ i' = q then b else if r' = ro ∧ i' = cnt then o else if r' = sr ∧ i' = cnt then sb else ad g' r' i') else ad g' r' i'
def k_L2 (L : Nat → Nat → Nat → Nat) (g r i z : Nat) : Nat → Nat → Nat → Nat := fun g' r' i' => if g' = g ∧ r' = r ∧ i' = i then z else L g' r' i'
def k_D2 (D : KD) (q ro sr cnt : Nat) (c c2 : Nat → Int32) : KD := fun r i => if r = 1 ∧ i = q then upd (D 1 q) 0 (D 1 q 0 + 1) else if r = ro ∧ i = cnt then c else if r = sr ∧ i = cnt then c2 else D r i
def k_fl (i : Nat) (br pl ra : Int32) : Nat → Int32 := fun k => match k with
  | 0 => nI i | 1 => br | 2 => pl | 3 => ra | 4 => -1 | 5 => 101 | 12 => -2 | 13 => -1 | _ => 0
def k_ft (x y un : Int32) : Nat → Int32 := fun k => match k with
  | 0 => x | 1 => y | 2 => un | _ => 0
def k_fg (sp fo tu : Int32) : Nat → Int32 := fun k => match k with
  | 0 => sp | 1 => fo | 2 => tu | 3 => -1 | _ => 0
theorem k_n2_o {n : Nat → Nat → Nat} {g r : Nat} {g' r' : Nat} (h : ¬ (g' = g ∧ r' = r)) : k_n2 n g r g' r' = n g' r' := if_neg h
theorem k_n2_r {n : Nat → Nat → Nat} {g r : Nat} {r' : Nat} (h : r' ≠ r) (g' : Nat) : k_n2 n g r g' r' = n g' r' := if_neg (fun z => h z.2)
theorem k_n2_s {n : Nat → Nat → Nat} {g r : Nat} : k_n2 n g r g r = n g r + 1 := if_pos ⟨rfl, rfl⟩
theorem k_n2_g {n : Nat → Nat → Nat} {g r : Nat} {g' : Nat} (h : g' ≠ g) : k_n2 n g r g' = n g' := by
  funext r'
  exact if_neg (fun z => h z.1)
theorem k_n1_gg {n : Nat → Nat → Nat} {g x : Nat} {g' : Nat} (h : g' ≠ g) : k_n1 n g x g' = n g' := by
  funext r'
  exact if_neg (fun z => h z.1)
theorem k_a2_g {ad : Nat → Nat → Nat → Nat} {g q ro sr cnt b o sb : Nat} {g' : Nat} (h : g' ≠ g) : k_a2 ad g q ro sr cnt b o sb g' = ad g' := by
  funext r' i'
  exact if_neg h
theorem k_a2_r {ad : Nat → Nat → Nat → Nat} {g q ro sr cnt b o sb : Nat} {r' : Nat} (h : r' ≠ 2 ∧ r' ≠ ro ∧ r' ≠ sr) (g' i' : Nat) : k_a2 ad g q ro sr cnt b o sb g' r' i' = ad g' r' i' := by
  unfold k_a2
  by_cases hg : g' = g
  · rw [if_pos hg, if_neg (fun z => h.1 z.1), if_neg (fun z => h.2.1 z.1), if_neg (fun z => h.2.2 z.1)]
  · exact if_neg hg
theorem k_a2_i {ad : Nat → Nat → Nat → Nat} {g q ro sr cnt b o sb : Nat} {r' i' : Nat} (h : r' ≠ 2 ∧ i' ≠ cnt) (g' : Nat) : k_a2 ad g q ro sr cnt b o sb g' r' i' = ad g' r' i' := by
  unfold k_a2
  by_cases hg : g' = g
  · rw [if_pos hg, if_neg (fun z => h.1 z.1), if_neg (fun z => h.2 z.2), if_neg (fun z => h.2 z.2)]
  · exact if_neg hg
theorem k_a2_q {ad : Nat → Nat → Nat → Nat} {g q ro sr cnt b o sb : Nat} {i' : Nat} (h : i' ≠ q) (hr : ro ≠ 2 ∧ sr ≠ 2) (g' : Nat) : k_a2 ad g q ro sr cnt b o sb g' 2 i' = ad g' 2 i' := by
  unfold k_a2
  by_cases hg : g' = g
  · rw [if_pos hg, if_neg (fun z => h z.2), if_neg (fun z => hr.1 z.1.symm), if_neg (fun z => hr.2 z.1.symm)]
  · exact if_neg hg
theorem k_a2_b {ad : Nat → Nat → Nat → Nat} {g q ro sr cnt b o sb : Nat} : k_a2 ad g q ro sr cnt b o sb g 2 q = b := by simp [k_a2]
theorem k_a2_ro {ad : Nat → Nat → Nat → Nat} {g q ro sr cnt b o sb : Nat} (h : ro ≠ 2) : k_a2 ad g q ro sr cnt b o sb g ro cnt = o := by simp [k_a2, h]
theorem k_a2_sr {ad : Nat → Nat → Nat → Nat} {g q ro sr cnt b o sb : Nat} (h : sr ≠ 2 ∧ sr ≠ ro) : k_a2 ad g q ro sr cnt b o sb g sr cnt = sb := by simp [k_a2, h]
theorem k_L2_o {L : Nat → Nat → Nat → Nat} {g r i z : Nat} {g' r' i' : Nat} (h : ¬ (g' = g ∧ r' = r ∧ i' = i)) : k_L2 L g r i z g' r' i' = L g' r' i' := if_neg h
theorem k_L2_s {L : Nat → Nat → Nat → Nat} {g r i z : Nat} : k_L2 L g r i z g r i = z := if_pos ⟨rfl, rfl, rfl⟩
theorem k_L2_g {L : Nat → Nat → Nat → Nat} {g r i z : Nat} {g' : Nat} (h : g' ≠ g) : k_L2 L g r i z g' = L g' := by
  funext r' i'
  exact if_neg (fun q => h q.1)
theorem k_D2_o {D : KD} {q ro sr cnt : Nat} {c c2 : Nat → Int32} {r i : Nat} (h : ¬ (r = 1 ∧ i = q) ∧ ¬ (r = ro ∧ i = cnt) ∧ ¬ (r = sr ∧ i = cnt)) : k_D2 D q ro sr cnt c c2 r i = D r i := by
  unfold k_D2
  rw [if_neg h.1, if_neg h.2.1, if_neg h.2.2]
theorem k_D2_1 {D : KD} {q ro sr cnt : Nat} {c c2 : Nat → Int32} : k_D2 D q ro sr cnt c c2 1 q = upd (D 1 q) 0 (D 1 q 0 + 1) := if_pos ⟨rfl, rfl⟩
theorem k_D2_ro {D : KD} {q ro sr cnt : Nat} {c c2 : Nat → Int32} (h : ro ≠ 1) : k_D2 D q ro sr cnt c c2 ro cnt = c := by simp [k_D2, h]
theorem k_D2_sr {D : KD} {q ro sr cnt : Nat} {c c2 : Nat → Int32} (h : sr ≠ 1 ∧ sr ≠ ro) : k_D2 D q ro sr cnt c c2 sr cnt = c2 := by simp [k_D2, h]
theorem k_e_far {X : kX} {n n' : Nat → Nat → Nat} {ad ad' L L' : Nat → Nat → Nat → Nat} {g r i : Nat} (c : Nat → Int32) (hr : r ≠ 1 ∧ r ≠ 2 ∧ r ≠ 3 ∧ r ≠ 4 ∧ r ≠ 5) (hn : n' g 19 = n g 19) (ha : ∀ s j, s ≠ 2 ∧ s ≠ 4 ∧ s ≠ 5 ∧ s ≠ 6 ∧ s ≠ 7 ∧ s ≠ 8 ∧ s ≠ 9 → ad' g s j = ad g s j) (h0 : ad' 0 0 0 = ad 0 0 0) (hL : ∀ i, L' g 18 i = L g 18 i) : k_e X n' ad' L' g r i c = k_e X n ad L g r i c := by
  have a1 := fun j => ha 1 j (by decide)
  have a3 := fun j => ha 3 j (by decide)
  have a15 := fun j => ha 15 j (by decide)
  have a17 := fun j => ha 17 j (by decide)
  have a18 := fun j => ha 18 j (by decide)
  have a19 := fun j => ha 19 j (by decide)
  have a22 := fun j => ha 22 j (by decide)
  obtain ⟨r1, r2, r3, r4, r5⟩ := hr
  unfold k_e
  split <;> first | rfl | (exact absurd rfl r1) | (exact absurd rfl r2) | (exact absurd rfl r3) | (exact absurd rfl r4) | (exact absurd rfl r5) | (simp only [a1, a3, a15, a17, a18, a19, a22, h0, hn, hL])
theorem k_v_r {n : Nat → Nat → Nat} {g r i : Nat} (hr : r ≠ 1 ∧ r ≠ 2 ∧ r ≠ 7 ∧ r ≠ 8 ∧ r ≠ 17 ∧ r ≠ 18) : k_v n g r i = (i < n g r) := by
  obtain ⟨r1, r2, r3, r4, r5, r6⟩ := hr
  unfold k_v
  split <;> first | rfl | (exact absurd rfl r1) | (exact absurd rfl r2) | (exact absurd rfl r3) | (exact absurd rfl r4) | (exact absurd rfl r5) | (exact absurd rfl r6)
set_option maxHeartbeats 400000 in
theorem k_close0 {X : kX} {n : Nat → Nat → Nat} {ad L : Nat → Nat → Nat → Nat} {C : Nat → Nat → Nat → Nat → Int32} {fr : Nat → Option Cell} {g : Nat} {D : KD} {H : Heap} {nl nt ng : Nat} (hd : kDk n g nl nt ng) (hwf : cWF D nl nt) {b o sb z : Nat} {f : Nat → Option Nat} {c : Nat → Int32}
    (h : k_N X (k_n1 n g 1) ad L (k_g C g D) fr [(ad g 1 0, .inr (3, [.int (D 1 0 0 + 1), .ref b, .int (nI (nl + 1))])), (b, .inl (X.2.1 4, z, .inr (.inr (.inr (.inr f))))), (o, k_e X (k_n2 n g 4) (k_a2 ad g 0 4 7 nl b o sb) (k_L2 L g 2 0 z) g 4 nl c), (sb, .inl (X.2.1 0, 9, .inl (fun _ => 0)))] H)
    (hf : ∀ j, f j = if j < nl + 1 then some (if j = nl then o else ad g 4 j) else none) (hz : nl + 1 ≤ z ∧ z ≤ 40000 ∧ 10 ≤ z) (h9 : n g 9 = 0) : k_W X (k_n2 n g 4) (k_a2 ad g 0 4 7 nl b o sb) (k_L2 L g 2 0 z) (k_g C g (k_D2 D 0 4 7 nl c (fun _ => 0))) fr H := by
  have hcn : n g 4 = nl := hd.nl
  have hno := hd.no
  have h000 : (k_a2 ad g 0 4 7 nl b o sb) 0 0 0 = ad 0 0 0 := k_a2_r (by decide) 0 0
  refine h.close (fun g' r' i' => if g' = g then (if r' = 1 ∧ i' = 0 then some 0 else if r' = 2 ∧ i' = 0 then some 1 else if r' = 4 ∧ i' = nl then some 2 else if r' = 7 ∧ i' = nl then some 3 else none) else none) (fun g' r' i' hv => ?_) (fun g1 r1 i1 g2 r2 i2 k e1 e2 => ?_) ⟨fun g' i' hv => ?_, fun g' i' hv => ?_⟩
  · by_cases hg : g' = g
    · subst hg
      rw [k_g_at, k_g_at]
      by_cases q1 : r' = 1
      · subst q1
        by_cases qi : i' = 0
        · subst qi
          refine Or.inr ⟨0, by simp, ?_⟩
          rw [k_a2_r (by decide), k_D2_1]
          show some _ = some (_, (Sum.inr (3, [.int (upd _ 0 _ 0), .ref (if (k_n2 n g' 4) g' 4 = 0 then _ else (k_a2 ad g' 0 4 7 nl b o sb) g' 2 0), .int (nI ((k_n2 n g' 4) g' 4))]) : va_E))
          rw [k_n2_s, if_neg (Nat.succ_ne_zero _), k_a2_b, hcn]
          rfl
        · refine Or.inl ⟨⟨by have := hv.1; rw [k_n2_r (by decide)] at this; rw [k_n1_r _ (by decide)]; exact this, by rw [k_n1_2]; omega⟩, by simp [qi], k_a2_r (by decide) _ _, ?_⟩
          have hi3 : i' < 3 := by have := hv.1; rw [k_n2_r (by decide)] at this; rw [← hd.2.1]; exact this
          rw [k_n1_e, k_D2_o ⟨fun z => qi z.2, by omega, by omega⟩]
          show (Sum.inr (3, [.int _, .ref (if (k_n2 n g' 4) g' (4 + i') = 0 then _ else (k_a2 ad g' 0 4 7 nl b o sb) g' 2 i'), .int (nI ((k_n2 n g' 4) g' (4 + i')))]) : va_E) = Sum.inr (3, [.int _, .ref (if n g' (4 + i') = 0 then _ else ad g' 2 i'), .int (nI (n g' (4 + i')))])
          rw [k_n2_r (by omega), k_a2_q qi (by decide)]
      by_cases q2 : r' = 2
      · subst q2
        by_cases qi : i' = 0
        · subst qi
          refine Or.inr ⟨1, by simp, ?_⟩
          rw [k_a2_b, k_D2_o ⟨by omega, by omega, by omega⟩]
          show some _ = some (_, (Sum.inl (_, (k_L2 L g' 2 0 z) g' 2 0, .inr (.inr (.inr (.inr (fun j => if j < (k_n2 n g' 4) g' 4 then some ((k_a2 ad g' 0 4 7 nl b o sb) g' 4 j) else none))))) : va_E))
          rw [k_L2_s, k_n2_s, hcn]
          refine congrArg (fun F => some (b, (Sum.inl (X.2.1 4, z, .inr (.inr (.inr (.inr F)))) : va_E))) (funext fun j => ?_)
          rw [hf j]
          by_cases qj : j = nl
          · subst qj; rw [if_pos (Nat.lt_succ_self _), if_pos rfl, if_pos (Nat.lt_succ_self _), k_a2_ro (by decide)]
          · rw [if_neg qj, k_a2_i ⟨by decide, qj⟩]
        · have hi3 : i' < 3 := by have := hv.1; rw [k_n2_r (by decide)] at this; rw [← hd.2.1]; exact this
          have hp : 0 < n g' (4 + i') := by have := hv.2.1; rw [k_n2_r (by omega)] at this; exact this
          refine Or.inl ⟨⟨by rw [k_n1_r _ (by decide), hd.2.1]; exact hi3, by rw [k_n1_r _ (by omega)]; exact hp, by rw [k_n1_2]; omega⟩, by simp [qi], k_a2_q qi (by decide) _, ?_⟩
          rw [k_n1_e, k_D2_o ⟨by omega, by omega, by omega⟩]
          show (Sum.inl (_, (k_L2 L g' 2 0 z) g' 2 i', .inr (.inr (.inr (.inr (fun j => if j < (k_n2 n g' 4) g' (4 + i') then some ((k_a2 ad g' 0 4 7 nl b o sb) g' (4 + i') j) else none))))) : va_E) = Sum.inl (_, L g' 2 i', .inr (.inr (.inr (.inr (fun j => if j < n g' (4 + i') then some (ad g' (4 + i') j) else none)))))
          rw [k_L2_o (fun z => qi z.2.2), k_n2_r (by omega)]
          refine congrArg (fun F => (Sum.inl (X.2.1 4, L g' 2 i', .inr (.inr (.inr (.inr F)))) : va_E)) (funext fun j => ?_)
          rw [k_a2_r (by omega)]
      by_cases q3 : r' = 4 ∧ i' = nl
      · obtain ⟨rfl, rfl⟩ := q3
        refine Or.inr ⟨2, by simp, ?_⟩
        rw [k_a2_ro (by decide), k_D2_ro (by decide)]
        rfl
      by_cases q4 : r' = 7 ∧ i' = nl
      · obtain ⟨rfl, rfl⟩ := q4
        refine Or.inr ⟨3, by simp, ?_⟩
        rw [k_a2_sr (by decide), k_D2_sr (by decide)]
        rfl
      have hold : k_v (k_n1 n g' 1) g' r' i' := by
        unfold k_v at hv ⊢
        split at hv
        · exact absurd rfl q1
        · exact absurd rfl q2
        · rw [k_n1_r _ (by decide)]; rw [k_n2_s] at hv; have : i' ≠ nl := fun z => q4 ⟨rfl, z⟩; omega
        · rw [k_n1_r _ (by decide)]; rw [k_n2_r (by decide)] at hv; exact hv
        · rw [k_n1_r _ (by decide), k_n1_2]; rw [k_n2_r (by decide)] at hv; exact ⟨hv.1, by omega⟩
        · rw [k_n1_r _ (by decide), k_n1_r _ (by decide), k_n1_2]; rw [k_n2_r (by decide), k_n2_r (by decide)] at hv; exact ⟨hv.1, hv.2.1, by omega⟩
        · rw [k_n1_r _ q2]
          by_cases q5 : r' = 4
          · subst q5; rw [k_n2_s] at hv; have : i' ≠ nl := fun z => q3 ⟨rfl, z⟩; omega
          · rw [k_n2_r q5] at hv; exact hv
      have hD : (k_D2 D 0 4 7 nl c (fun _ => 0)) r' i' = D r' i' := k_D2_o ⟨fun z => q1 z.1, q3, q4⟩
      have hJ : (if r' = 1 ∧ i' = 0 then some 0 else if r' = 2 ∧ i' = 0 then some 1 else if r' = 4 ∧ i' = nl then some 2 else if r' = 7 ∧ i' = nl then some 3 else none) = (none : Option Nat) := by
        rw [if_neg (fun z => q1 z.1), if_neg (fun z => q2 z.1), if_neg q3, if_neg q4]
      have hA : (k_a2 ad g' 0 4 7 nl b o sb) g' r' i' = ad g' r' i' := by
        unfold k_a2; rw [if_pos rfl, if_neg (fun z => q2 z.1), if_neg q3, if_neg q4]
      refine Or.inl ⟨hold, by simp only [if_true]; exact hJ, hA, ?_⟩
      rw [k_n1_e, hD]
      by_cases w3 : r' = 3
      · subst w3
        show (Sum.inl (_, 4, .inr (.inr (.inr (.inr (fun d => if D 3 i' d = -1 then none else some ((k_a2 ad g' 0 4 7 nl b o sb) g' 4 (D 3 i' d).toNatClampNeg)))))) : va_E) = Sum.inl (_, 4, .inr (.inr (.inr (.inr (fun d => if D 3 i' d = -1 then none else some (ad g' 4 (D 3 i' d).toNatClampNeg))))))
        refine congrArg (fun F => (Sum.inl (X.2.1 3, 4, .inr (.inr (.inr (.inr F)))) : va_E)) (funext fun d => ?_)
        have hi0 : i' = 0 := by
          have hv3 : i' < (k_n2 n g' 4) g' 3 := hv
          rw [k_n2_r (by decide), hd.2.2.1] at hv3; omega
        subst hi0
        by_cases qd : D 3 0 d = -1
        · rw [if_pos qd, if_pos qd]
        · rw [if_neg qd, if_neg qd]
          have := ((hwf.2 d).resolve_left qd).lt
          rw [k_a2_i ⟨by decide, by omega⟩]
      by_cases w4 : r' = 4
      · subst w4
        have e7 : (k_a2 ad g' 0 4 7 nl b o sb) g' 7 i' = ad g' 7 i' := k_a2_i ⟨by decide, fun z => q3 ⟨rfl, z⟩⟩ _
        simp only [k_e, e7]
      by_cases w5 : r' = 5
      · subst w5
        have hv5 : i' < nt := by
          have hv5 : i' < (k_n2 n g' 4) g' 5 := hv
          rw [k_n2_r (by decide), hd.nt] at hv5; exact hv5
        have f0 := hwf.fr hv5
        have f1 := hwf.to hv5
        have e0 : (k_a2 ad g' 0 4 7 nl b o sb) g' 4 (D 5 i' 0).toNatClampNeg = ad g' 4 (D 5 i' 0).toNatClampNeg := k_a2_i ⟨by decide, by omega⟩ _
        have e1 : (k_a2 ad g' 0 4 7 nl b o sb) g' 4 (D 5 i' 1).toNatClampNeg = ad g' 4 (D 5 i' 1).toNatClampNeg := k_a2_i ⟨by decide, by omega⟩ _
        have e8 : (k_a2 ad g' 0 4 7 nl b o sb) g' 8 i' = ad g' 8 i' := k_a2_r (by decide) _ _
        simp only [k_e, e0, e1, e8]
      exact k_e_far _ ⟨q1, q2, w3, w4, w5⟩ (k_n2_r (by decide) _) (fun s j hs => k_a2_r (by omega) _ _) h000 (fun i => k_L2_o (by omega))
    · refine Or.inl ⟨?_, if_neg hg, congrFun (congrFun (k_a2_g hg) r') i', ?_⟩
      · have hn : (k_n2 n g 4) g' = k_n1 n g 1 g' := by rw [k_n2_g hg, k_n1_gg hg]
        unfold k_v at hv ⊢; rw [← hn]; exact hv
      · rw [k_g_ne _ _ hg, k_g_ne _ _ hg]
        exact congrFun (congrFun (congrFun (k_e_g (by rw [k_n2_g hg, k_n1_gg hg]) (k_a2_g hg) h000 (k_L2_g hg)) r') i') _
  ·
    split at e1 <;> rename_i p1
    · split at e2 <;> rename_i p2
      · subst p1; subst p2; refine ⟨rfl, ?_⟩
        (repeat' split at e1) <;> (repeat' split at e2) <;> first | (exact ⟨by omega, by omega⟩) | (cases e1; cases e2) | (cases e1) | (cases e2)
      · cases e2
    · cases e1
  · by_cases hg : g' = g ∧ i' = 0
    · obtain ⟨rfl, rfl⟩ := hg
      rw [k_L2_s, show (4 + 0 : Nat) = 4 from rfl, k_n2_s, hcn]; exact hz
    · rw [k_L2_o (fun z => hg ⟨z.1, z.2.2⟩)]
      by_cases hg1 : g' = g
      · subst hg1
        have hi3 : i' < 3 := by have := hv.1; rw [k_n2_r (by decide)] at this; rw [← hd.2.1]; exact this
        have hp : 0 < n g' (4 + i') := by have := hv.2.1; rw [k_n2_r (by omega)] at this; exact this
        have hc := h.1.cap.1 g' i' ⟨by rw [k_n1_r _ (by decide), hd.2.1]; exact hi3, by rw [k_n1_r _ (by omega)]; exact hp, by rw [k_n1_2]; omega⟩
        rw [k_n1_r _ (by omega)] at hc; rw [k_n2_r (by omega)]; exact hc
      · have hn : (k_n2 n g 4) g' = k_n1 n g 1 g' := by rw [k_n2_g hg1, k_n1_gg hg1]
        rw [hn]; refine h.1.cap.1 g' i' ?_
        unfold k_v at hv ⊢; rw [← hn]; exact hv
  · rw [k_L2_o (by omega), k_n2_r (by decide)]
    have hc := h.1.cap.2 g' i' ⟨?_, ?_, ?_⟩
    · rw [k_n1_r _ (by decide)] at hc; exact hc
    · have := hv.1; rw [k_n2_r (by decide)] at this; rw [k_n1_r _ (by decide)]; exact this
    · have := hv.2.1; rw [k_n2_r (by decide)] at this; rw [k_n1_r _ (by decide)]; exact this
    · have := hv.2.2; rw [k_n2_r (by decide)] at this
      by_cases hg : g' = g
      · subst hg; rw [k_n1_2]; decide
      · rw [k_n1_g 2 hg]; exact this
set_option maxHeartbeats 400000 in
theorem k_close1 {X : kX} {n : Nat → Nat → Nat} {ad L : Nat → Nat → Nat → Nat} {C : Nat → Nat → Nat → Nat → Int32} {fr : Nat → Option Cell} {g : Nat} {D : KD} {H : Heap} {nl nt ng : Nat} (hd : kDk n g nl nt ng) (hwf : cWF D nl nt) {b o sb z : Nat} {f : Nat → Option Nat} {c : Nat → Int32}
    (h : k_N X (k_n1 n g 2) ad L (k_g C g D) fr [(ad g 1 1, .inr (3, [.int (D 1 1 0 + 1), .ref b, .int (nI (nt + 1))])), (b, .inl (X.2.1 4, z, .inr (.inr (.inr (.inr f))))), (o, k_e X (k_n2 n g 5) (k_a2 ad g 1 5 8 nt b o sb) (k_L2 L g 2 1 z) g 5 nt c), (sb, .inl (X.2.1 0, 4, .inl (fun _ => 0)))] H)
    (hf : ∀ j, f j = if j < nt + 1 then some (if j = nt then o else ad g 5 j) else none) (hz : nt + 1 ≤ z ∧ z ≤ 40000 ∧ 10 ≤ z) (h9 : n g 9 = 0) : k_W X (k_n2 n g 5) (k_a2 ad g 1 5 8 nt b o sb) (k_L2 L g 2 1 z) (k_g C g (k_D2 D 1 5 8 nt c (fun _ => 0))) fr H := by
  have hcn : n g 5 = nt := hd.nt
  have hno := hd.no
  have h000 : (k_a2 ad g 1 5 8 nt b o sb) 0 0 0 = ad 0 0 0 := k_a2_r (by decide) 0 0
  refine h.close (fun g' r' i' => if g' = g then (if r' = 1 ∧ i' = 1 then some 0 else if r' = 2 ∧ i' = 1 then some 1 else if r' = 5 ∧ i' = nt then some 2 else if r' = 8 ∧ i' = nt then some 3 else none) else none) (fun g' r' i' hv => ?_) (fun g1 r1 i1 g2 r2 i2 k e1 e2 => ?_) ⟨fun g' i' hv => ?_, fun g' i' hv => ?_⟩
  · by_cases hg : g' = g
    · subst hg
      rw [k_g_at, k_g_at]
      by_cases q1 : r' = 1
      · subst q1
        by_cases qi : i' = 1
        · subst qi
          refine Or.inr ⟨0, by simp, ?_⟩
          rw [k_a2_r (by decide), k_D2_1]
          show some _ = some (_, (Sum.inr (3, [.int (upd _ 0 _ 0), .ref (if (k_n2 n g' 5) g' 5 = 0 then _ else (k_a2 ad g' 1 5 8 nt b o sb) g' 2 1), .int (nI ((k_n2 n g' 5) g' 5))]) : va_E))
          rw [k_n2_s, if_neg (Nat.succ_ne_zero _), k_a2_b, hcn]
          rfl
        · refine Or.inl ⟨⟨by have := hv.1; rw [k_n2_r (by decide)] at this; rw [k_n1_r _ (by decide)]; exact this, by rw [k_n1_2]; omega⟩, by simp [qi], k_a2_r (by decide) _ _, ?_⟩
          have hi3 : i' < 3 := by have := hv.1; rw [k_n2_r (by decide)] at this; rw [← hd.2.1]; exact this
          rw [k_n1_e, k_D2_o ⟨fun z => qi z.2, by omega, by omega⟩]
          show (Sum.inr (3, [.int _, .ref (if (k_n2 n g' 5) g' (4 + i') = 0 then _ else (k_a2 ad g' 1 5 8 nt b o sb) g' 2 i'), .int (nI ((k_n2 n g' 5) g' (4 + i')))]) : va_E) = Sum.inr (3, [.int _, .ref (if n g' (4 + i') = 0 then _ else ad g' 2 i'), .int (nI (n g' (4 + i')))])
          rw [k_n2_r (by omega), k_a2_q qi (by decide)]
      by_cases q2 : r' = 2
      · subst q2
        by_cases qi : i' = 1
        · subst qi
          refine Or.inr ⟨1, by simp, ?_⟩
          rw [k_a2_b, k_D2_o ⟨by omega, by omega, by omega⟩]
          show some _ = some (_, (Sum.inl (_, (k_L2 L g' 2 1 z) g' 2 1, .inr (.inr (.inr (.inr (fun j => if j < (k_n2 n g' 5) g' 5 then some ((k_a2 ad g' 1 5 8 nt b o sb) g' 5 j) else none))))) : va_E))
          rw [k_L2_s, k_n2_s, hcn]
          refine congrArg (fun F => some (b, (Sum.inl (X.2.1 4, z, .inr (.inr (.inr (.inr F)))) : va_E))) (funext fun j => ?_)
          rw [hf j]
          by_cases qj : j = nt
          · subst qj; rw [if_pos (Nat.lt_succ_self _), if_pos rfl, if_pos (Nat.lt_succ_self _), k_a2_ro (by decide)]
          · rw [if_neg qj, k_a2_i ⟨by decide, qj⟩]
        · have hi3 : i' < 3 := by have := hv.1; rw [k_n2_r (by decide)] at this; rw [← hd.2.1]; exact this
          have hp : 0 < n g' (4 + i') := by have := hv.2.1; rw [k_n2_r (by omega)] at this; exact this
          refine Or.inl ⟨⟨by rw [k_n1_r _ (by decide), hd.2.1]; exact hi3, by rw [k_n1_r _ (by omega)]; exact hp, by rw [k_n1_2]; omega⟩, by simp [qi], k_a2_q qi (by decide) _, ?_⟩
          rw [k_n1_e, k_D2_o ⟨by omega, by omega, by omega⟩]
          show (Sum.inl (_, (k_L2 L g' 2 1 z) g' 2 i', .inr (.inr (.inr (.inr (fun j => if j < (k_n2 n g' 5) g' (4 + i') then some ((k_a2 ad g' 1 5 8 nt b o sb) g' (4 + i') j) else none))))) : va_E) = Sum.inl (_, L g' 2 i', .inr (.inr (.inr (.inr (fun j => if j < n g' (4 + i') then some (ad g' (4 + i') j) else none)))))
          rw [k_L2_o (fun z => qi z.2.2), k_n2_r (by omega)]
          refine congrArg (fun F => (Sum.inl (X.2.1 4, L g' 2 i', .inr (.inr (.inr (.inr F)))) : va_E)) (funext fun j => ?_)
          rw [k_a2_r (by omega)]
      by_cases q3 : r' = 5 ∧ i' = nt
      · obtain ⟨rfl, rfl⟩ := q3
        refine Or.inr ⟨2, by simp, ?_⟩
        rw [k_a2_ro (by decide), k_D2_ro (by decide)]
        rfl
      by_cases q4 : r' = 8 ∧ i' = nt
      · obtain ⟨rfl, rfl⟩ := q4
        refine Or.inr ⟨3, by simp, ?_⟩
        rw [k_a2_sr (by decide), k_D2_sr (by decide)]
        rfl
      have hold : k_v (k_n1 n g' 2) g' r' i' := by
        unfold k_v at hv ⊢
        split at hv
        · exact absurd rfl q1
        · exact absurd rfl q2
        · rw [k_n1_r _ (by decide)]; rw [k_n2_r (by decide)] at hv; exact hv
        · rw [k_n1_r _ (by decide)]; rw [k_n2_s] at hv; have : i' ≠ nt := fun z => q4 ⟨rfl, z⟩; omega
        · rw [k_n1_r _ (by decide), k_n1_2]; rw [k_n2_r (by decide)] at hv; exact ⟨hv.1, by omega⟩
        · rw [k_n1_r _ (by decide), k_n1_r _ (by decide), k_n1_2]; rw [k_n2_r (by decide), k_n2_r (by decide)] at hv; exact ⟨hv.1, hv.2.1, by omega⟩
        · rw [k_n1_r _ q2]
          by_cases q5 : r' = 5
          · subst q5; rw [k_n2_s] at hv; have : i' ≠ nt := fun z => q3 ⟨rfl, z⟩; omega
          · rw [k_n2_r q5] at hv; exact hv
      have hD : (k_D2 D 1 5 8 nt c (fun _ => 0)) r' i' = D r' i' := k_D2_o ⟨fun z => q1 z.1, q3, q4⟩
      have hJ : (if r' = 1 ∧ i' = 1 then some 0 else if r' = 2 ∧ i' = 1 then some 1 else if r' = 5 ∧ i' = nt then some 2 else if r' = 8 ∧ i' = nt then some 3 else none) = (none : Option Nat) := by
        rw [if_neg (fun z => q1 z.1), if_neg (fun z => q2 z.1), if_neg q3, if_neg q4]
      have hA : (k_a2 ad g' 1 5 8 nt b o sb) g' r' i' = ad g' r' i' := by
        unfold k_a2; rw [if_pos rfl, if_neg (fun z => q2 z.1), if_neg q3, if_neg q4]
      refine Or.inl ⟨hold, by simp only [if_true]; exact hJ, hA, ?_⟩
      rw [k_n1_e, hD]
      by_cases w3 : r' = 3
      · subst w3
        show (Sum.inl (_, 4, .inr (.inr (.inr (.inr (fun d => if D 3 i' d = -1 then none else some ((k_a2 ad g' 1 5 8 nt b o sb) g' 4 (D 3 i' d).toNatClampNeg)))))) : va_E) = Sum.inl (_, 4, .inr (.inr (.inr (.inr (fun d => if D 3 i' d = -1 then none else some (ad g' 4 (D 3 i' d).toNatClampNeg))))))
        refine congrArg (fun F => (Sum.inl (X.2.1 3, 4, .inr (.inr (.inr (.inr F)))) : va_E)) (funext fun d => ?_)
        have hi0 : i' = 0 := by
          have hv3 : i' < (k_n2 n g' 5) g' 3 := hv
          rw [k_n2_r (by decide), hd.2.2.1] at hv3; omega
        subst hi0
        by_cases qd : D 3 0 d = -1
        · rw [if_pos qd, if_pos qd]
        · rw [if_neg qd, if_neg qd, k_a2_r (by decide)]
      by_cases w4 : r' = 4
      · subst w4
        have e7 : (k_a2 ad g' 1 5 8 nt b o sb) g' 7 i' = ad g' 7 i' := k_a2_r (by decide) _ _
        simp only [k_e, e7]
      by_cases w5 : r' = 5
      · subst w5
        have hv5 : i' < nt := by
          have hv5 : i' < (k_n2 n g' 5) g' 5 := hv
          rw [k_n2_s] at hv5; have : i' ≠ nt := fun z => q3 ⟨rfl, z⟩; omega
        have f0 := hwf.fr hv5
        have f1 := hwf.to hv5
        have e0 : (k_a2 ad g' 1 5 8 nt b o sb) g' 4 (D 5 i' 0).toNatClampNeg = ad g' 4 (D 5 i' 0).toNatClampNeg := k_a2_r (by decide) _ _
        have e1 : (k_a2 ad g' 1 5 8 nt b o sb) g' 4 (D 5 i' 1).toNatClampNeg = ad g' 4 (D 5 i' 1).toNatClampNeg := k_a2_r (by decide) _ _
        have e8 : (k_a2 ad g' 1 5 8 nt b o sb) g' 8 i' = ad g' 8 i' := k_a2_i ⟨by decide, fun z => q3 ⟨rfl, z⟩⟩ _
        simp only [k_e, e0, e1, e8]
      exact k_e_far _ ⟨q1, q2, w3, w4, w5⟩ (k_n2_r (by decide) _) (fun s j hs => k_a2_r (by omega) _ _) h000 (fun i => k_L2_o (by omega))
    · refine Or.inl ⟨?_, if_neg hg, congrFun (congrFun (k_a2_g hg) r') i', ?_⟩
      · have hn : (k_n2 n g 5) g' = k_n1 n g 2 g' := by rw [k_n2_g hg, k_n1_gg hg]
        unfold k_v at hv ⊢; rw [← hn]; exact hv
      · rw [k_g_ne _ _ hg, k_g_ne _ _ hg]
        exact congrFun (congrFun (congrFun (k_e_g (by rw [k_n2_g hg, k_n1_gg hg]) (k_a2_g hg) h000 (k_L2_g hg)) r') i') _
  ·
    split at e1 <;> rename_i p1
    · split at e2 <;> rename_i p2
      · subst p1; subst p2; refine ⟨rfl, ?_⟩
        (repeat' split at e1) <;> (repeat' split at e2) <;> first | (exact ⟨by omega, by omega⟩) | (cases e1; cases e2) | (cases e1) | (cases e2)
      · cases e2
    · cases e1
  · by_cases hg : g' = g ∧ i' = 1
    · obtain ⟨rfl, rfl⟩ := hg
      rw [k_L2_s, show (4 + 1 : Nat) = 5 from rfl, k_n2_s, hcn]; exact hz
    · rw [k_L2_o (fun z => hg ⟨z.1, z.2.2⟩)]
      by_cases hg1 : g' = g
      · subst hg1
        have hi3 : i' < 3 := by have := hv.1; rw [k_n2_r (by decide)] at this; rw [← hd.2.1]; exact this
        have hp : 0 < n g' (4 + i') := by have := hv.2.1; rw [k_n2_r (by omega)] at this; exact this
        have hc := h.1.cap.1 g' i' ⟨by rw [k_n1_r _ (by decide), hd.2.1]; exact hi3, by rw [k_n1_r _ (by omega)]; exact hp, by rw [k_n1_2]; omega⟩
        rw [k_n1_r _ (by omega)] at hc; rw [k_n2_r (by omega)]; exact hc
      · have hn : (k_n2 n g 5) g' = k_n1 n g 2 g' := by rw [k_n2_g hg1, k_n1_gg hg1]
        rw [hn]; refine h.1.cap.1 g' i' ?_
        unfold k_v at hv ⊢; rw [← hn]; exact hv
  · rw [k_L2_o (by omega), k_n2_r (by decide)]
    have hc := h.1.cap.2 g' i' ⟨?_, ?_, ?_⟩
    · rw [k_n1_r _ (by decide)] at hc; exact hc
    · have := hv.1; rw [k_n2_r (by decide)] at this; rw [k_n1_r _ (by decide)]; exact this
    · have := hv.2.1; rw [k_n2_r (by decide)] at this; rw [k_n1_r _ (by decide)]; exact this
    · have := hv.2.2; rw [k_n2_r (by decide)] at this
      by_cases hg : g' = g
      · subst hg; rw [k_n1_2]; decide
      · rw [k_n1_g 2 hg]; exact this
set_option maxHeartbeats 400000 in
theorem k_close2 {X : kX} {n : Nat → Nat → Nat} {ad L : Nat → Nat → Nat → Nat} {C : Nat → Nat → Nat → Nat → Int32} {fr : Nat → Option Cell} {g : Nat} {D : KD} {H : Heap} {nl nt ng : Nat} (hd : kDk n g nl nt ng) (hwf : cWF D nl nt) {b o sb z : Nat} {f : Nat → Option Nat} {c : Nat → Int32}
    (h : k_N X (k_n1 n g 3) ad L (k_g C g D) fr [(ad g 1 2, .inr (3, [.int (D 1 2 0 + 1), .ref b, .int (nI (ng + 1))])), (b, .inl (X.2.1 4, z, .inr (.inr (.inr (.inr f))))), (o, k_e X (k_n2 n g 6) (k_a2 ad g 2 6 9 ng b o sb) (k_L2 L g 2 2 z) g 6 ng c)] H)
    (hf : ∀ j, f j = if j < ng + 1 then some (if j = ng then o else ad g 6 j) else none) (hz : ng + 1 ≤ z ∧ z ≤ 40000 ∧ 10 ≤ z) (h9 : n g 9 = 0) : k_W X (k_n2 n g 6) (k_a2 ad g 2 6 9 ng b o sb) (k_L2 L g 2 2 z) (k_g C g (k_D2 D 2 6 9 ng c (fun _ => 0))) fr H := by
  have hcn : n g 6 = ng := hd.ng
  have hno := hd.no
  have h000 : (k_a2 ad g 2 6 9 ng b o sb) 0 0 0 = ad 0 0 0 := k_a2_r (by decide) 0 0
  refine h.close (fun g' r' i' => if g' = g then (if r' = 1 ∧ i' = 2 then some 0 else if r' = 2 ∧ i' = 2 then some 1 else if r' = 6 ∧ i' = ng then some 2 else none) else none) (fun g' r' i' hv => ?_) (fun g1 r1 i1 g2 r2 i2 k e1 e2 => ?_) ⟨fun g' i' hv => ?_, fun g' i' hv => ?_⟩
  · by_cases hg : g' = g
    · subst hg
      rw [k_g_at, k_g_at]
      by_cases q1 : r' = 1
      · subst q1
        by_cases qi : i' = 2
        · subst qi
          refine Or.inr ⟨0, by simp, ?_⟩
          rw [k_a2_r (by decide), k_D2_1]
          show some _ = some (_, (Sum.inr (3, [.int (upd _ 0 _ 0), .ref (if (k_n2 n g' 6) g' 6 = 0 then _ else (k_a2 ad g' 2 6 9 ng b o sb) g' 2 2), .int (nI ((k_n2 n g' 6) g' 6))]) : va_E))
          rw [k_n2_s, if_neg (Nat.succ_ne_zero _), k_a2_b, hcn]
          rfl
        · refine Or.inl ⟨⟨by have := hv.1; rw [k_n2_r (by decide)] at this; rw [k_n1_r _ (by decide)]; exact this, by rw [k_n1_2]; omega⟩, by simp [qi], k_a2_r (by decide) _ _, ?_⟩
          have hi3 : i' < 3 := by have := hv.1; rw [k_n2_r (by decide)] at this; rw [← hd.2.1]; exact this
          rw [k_n1_e, k_D2_o ⟨fun z => qi z.2, by omega, by omega⟩]
          show (Sum.inr (3, [.int _, .ref (if (k_n2 n g' 6) g' (4 + i') = 0 then _ else (k_a2 ad g' 2 6 9 ng b o sb) g' 2 i'), .int (nI ((k_n2 n g' 6) g' (4 + i')))]) : va_E) = Sum.inr (3, [.int _, .ref (if n g' (4 + i') = 0 then _ else ad g' 2 i'), .int (nI (n g' (4 + i')))])
          rw [k_n2_r (by omega), k_a2_q qi (by decide)]
      by_cases q2 : r' = 2
      · subst q2
        by_cases qi : i' = 2
        · subst qi
          refine Or.inr ⟨1, by simp, ?_⟩
          rw [k_a2_b, k_D2_o ⟨by omega, by omega, by omega⟩]
          show some _ = some (_, (Sum.inl (_, (k_L2 L g' 2 2 z) g' 2 2, .inr (.inr (.inr (.inr (fun j => if j < (k_n2 n g' 6) g' 6 then some ((k_a2 ad g' 2 6 9 ng b o sb) g' 6 j) else none))))) : va_E))
          rw [k_L2_s, k_n2_s, hcn]
          refine congrArg (fun F => some (b, (Sum.inl (X.2.1 4, z, .inr (.inr (.inr (.inr F)))) : va_E))) (funext fun j => ?_)
          rw [hf j]
          by_cases qj : j = ng
          · subst qj; rw [if_pos (Nat.lt_succ_self _), if_pos rfl, if_pos (Nat.lt_succ_self _), k_a2_ro (by decide)]
          · rw [if_neg qj, k_a2_i ⟨by decide, qj⟩]
        · have hi3 : i' < 3 := by have := hv.1; rw [k_n2_r (by decide)] at this; rw [← hd.2.1]; exact this
          have hp : 0 < n g' (4 + i') := by have := hv.2.1; rw [k_n2_r (by omega)] at this; exact this
          refine Or.inl ⟨⟨by rw [k_n1_r _ (by decide), hd.2.1]; exact hi3, by rw [k_n1_r _ (by omega)]; exact hp, by rw [k_n1_2]; omega⟩, by simp [qi], k_a2_q qi (by decide) _, ?_⟩
          rw [k_n1_e, k_D2_o ⟨by omega, by omega, by omega⟩]
          show (Sum.inl (_, (k_L2 L g' 2 2 z) g' 2 i', .inr (.inr (.inr (.inr (fun j => if j < (k_n2 n g' 6) g' (4 + i') then some ((k_a2 ad g' 2 6 9 ng b o sb) g' (4 + i') j) else none))))) : va_E) = Sum.inl (_, L g' 2 i', .inr (.inr (.inr (.inr (fun j => if j < n g' (4 + i') then some (ad g' (4 + i') j) else none)))))
          rw [k_L2_o (fun z => qi z.2.2), k_n2_r (by omega)]
          refine congrArg (fun F => (Sum.inl (X.2.1 4, L g' 2 i', .inr (.inr (.inr (.inr F)))) : va_E)) (funext fun j => ?_)
          rw [k_a2_r (by omega)]
      by_cases q3 : r' = 6 ∧ i' = ng
      · obtain ⟨rfl, rfl⟩ := q3
        refine Or.inr ⟨2, by simp, ?_⟩
        rw [k_a2_ro (by decide), k_D2_ro (by decide)]
        rfl
      have q4 : ¬ (r' = 9 ∧ i' = ng) := by
        rintro ⟨rfl, rfl⟩
        have hv9 : _ < (k_n2 n g' 6) g' 9 := hv
        rw [k_n2_r (by decide), h9] at hv9
        omega
      have hold : k_v (k_n1 n g' 3) g' r' i' := by
        unfold k_v at hv ⊢
        split at hv
        · exact absurd rfl q1
        · exact absurd rfl q2
        · rw [k_n1_r _ (by decide)]; rw [k_n2_r (by decide)] at hv; exact hv
        · rw [k_n1_r _ (by decide)]; rw [k_n2_r (by decide)] at hv; exact hv
        · rw [k_n1_r _ (by decide), k_n1_2]; rw [k_n2_r (by decide)] at hv; exact ⟨hv.1, by omega⟩
        · rw [k_n1_r _ (by decide), k_n1_r _ (by decide), k_n1_2]; rw [k_n2_r (by decide), k_n2_r (by decide)] at hv; exact ⟨hv.1, hv.2.1, by omega⟩
        · rw [k_n1_r _ q2]
          by_cases q5 : r' = 6
          · subst q5; rw [k_n2_s] at hv; have : i' ≠ ng := fun z => q3 ⟨rfl, z⟩; omega
          · rw [k_n2_r q5] at hv; exact hv
      have hD : (k_D2 D 2 6 9 ng c (fun _ => 0)) r' i' = D r' i' := k_D2_o ⟨fun z => q1 z.1, q3, q4⟩
      have hJ : (if r' = 1 ∧ i' = 2 then some 0 else if r' = 2 ∧ i' = 2 then some 1 else if r' = 6 ∧ i' = ng then some 2 else none) = (none : Option Nat) := by
        rw [if_neg (fun z => q1 z.1), if_neg (fun z => q2 z.1), if_neg q3]
      have hA : (k_a2 ad g' 2 6 9 ng b o sb) g' r' i' = ad g' r' i' := by
        unfold k_a2; rw [if_pos rfl, if_neg (fun z => q2 z.1), if_neg q3, if_neg q4]
      refine Or.inl ⟨hold, by simp only [if_true]; exact hJ, hA, ?_⟩
      rw [k_n1_e, hD]
      by_cases w3 : r' = 3
      · subst w3
        show (Sum.inl (_, 4, .inr (.inr (.inr (.inr (fun d => if D 3 i' d = -1 then none else some ((k_a2 ad g' 2 6 9 ng b o sb) g' 4 (D 3 i' d).toNatClampNeg)))))) : va_E) = Sum.inl (_, 4, .inr (.inr (.inr (.inr (fun d => if D 3 i' d = -1 then none else some (ad g' 4 (D 3 i' d).toNatClampNeg))))))
        refine congrArg (fun F => (Sum.inl (X.2.1 3, 4, .inr (.inr (.inr (.inr F)))) : va_E)) (funext fun d => ?_)
        have hi0 : i' = 0 := by
          have hv3 : i' < (k_n2 n g' 6) g' 3 := hv
          rw [k_n2_r (by decide), hd.2.2.1] at hv3; omega
        subst hi0
        by_cases qd : D 3 0 d = -1
        · rw [if_pos qd, if_pos qd]
        · rw [if_neg qd, if_neg qd, k_a2_r (by decide)]
      by_cases w4 : r' = 4
      · subst w4
        have e7 : (k_a2 ad g' 2 6 9 ng b o sb) g' 7 i' = ad g' 7 i' := k_a2_r (by decide) _ _
        simp only [k_e, e7]
      by_cases w5 : r' = 5
      · subst w5
        have hv5 : i' < nt := by
          have hv5 : i' < (k_n2 n g' 6) g' 5 := hv
          rw [k_n2_r (by decide), hd.nt] at hv5; exact hv5
        have f0 := hwf.fr hv5
        have f1 := hwf.to hv5
        have e0 : (k_a2 ad g' 2 6 9 ng b o sb) g' 4 (D 5 i' 0).toNatClampNeg = ad g' 4 (D 5 i' 0).toNatClampNeg := k_a2_r (by decide) _ _
        have e1 : (k_a2 ad g' 2 6 9 ng b o sb) g' 4 (D 5 i' 1).toNatClampNeg = ad g' 4 (D 5 i' 1).toNatClampNeg := k_a2_r (by decide) _ _
        have e8 : (k_a2 ad g' 2 6 9 ng b o sb) g' 8 i' = ad g' 8 i' := k_a2_r (by decide) _ _
        simp only [k_e, e0, e1, e8]
      exact k_e_far _ ⟨q1, q2, w3, w4, w5⟩ (k_n2_r (by decide) _) (fun s j hs => k_a2_r (by omega) _ _) h000 (fun i => k_L2_o (by omega))
    · refine Or.inl ⟨?_, if_neg hg, congrFun (congrFun (k_a2_g hg) r') i', ?_⟩
      · have hn : (k_n2 n g 6) g' = k_n1 n g 3 g' := by rw [k_n2_g hg, k_n1_gg hg]
        unfold k_v at hv ⊢; rw [← hn]; exact hv
      · rw [k_g_ne _ _ hg, k_g_ne _ _ hg]
        exact congrFun (congrFun (congrFun (k_e_g (by rw [k_n2_g hg, k_n1_gg hg]) (k_a2_g hg) h000 (k_L2_g hg)) r') i') _
  ·
    split at e1 <;> rename_i p1
    · split at e2 <;> rename_i p2
      · subst p1; subst p2; refine ⟨rfl, ?_⟩
        (repeat' split at e1) <;> (repeat' split at e2) <;> first | (exact ⟨by omega, by omega⟩) | (cases e1; cases e2) | (cases e1) | (cases e2)
      · cases e2
    · cases e1
  · by_cases hg : g' = g ∧ i' = 2
    · obtain ⟨rfl, rfl⟩ := hg
      rw [k_L2_s, show (4 + 2 : Nat) = 6 from rfl, k_n2_s, hcn]; exact hz
    · rw [k_L2_o (fun z => hg ⟨z.1, z.2.2⟩)]
      by_cases hg1 : g' = g
      · subst hg1
        have hi3 : i' < 3 := by have := hv.1; rw [k_n2_r (by decide)] at this; rw [← hd.2.1]; exact this
        have hp : 0 < n g' (4 + i') := by have := hv.2.1; rw [k_n2_r (by omega)] at this; exact this
        have hc := h.1.cap.1 g' i' ⟨by rw [k_n1_r _ (by decide), hd.2.1]; exact hi3, by rw [k_n1_r _ (by omega)]; exact hp, by rw [k_n1_2]; omega⟩
        rw [k_n1_r _ (by omega)] at hc; rw [k_n2_r (by omega)]; exact hc
      · have hn : (k_n2 n g 6) g' = k_n1 n g 3 g' := by rw [k_n2_g hg1, k_n1_gg hg1]
        rw [hn]; refine h.1.cap.1 g' i' ?_
        unfold k_v at hv ⊢; rw [← hn]; exact hv
  · rw [k_L2_o (by omega), k_n2_r (by decide)]
    have hc := h.1.cap.2 g' i' ⟨?_, ?_, ?_⟩
    · rw [k_n1_r _ (by decide)] at hc; exact hc
    · have := hv.1; rw [k_n2_r (by decide)] at this; rw [k_n1_r _ (by decide)]; exact this
    · have := hv.2.1; rw [k_n2_r (by decide)] at this; rw [k_n1_r _ (by decide)]; exact this
    · have := hv.2.2; rw [k_n2_r (by decide)] at this
      by_cases hg : g' = g
      · subst hg; rw [k_n1_2]; decide
      · rw [k_n1_g 2 hg]; exact this
