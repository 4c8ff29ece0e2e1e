theorem k_fr.less {X : kX} {n n' : Nat → Nat → Nat} {ad : Nat → Nat → Nat → Nat} {fr : Nat → Option Cell} (hs : ∀ g r i, k_v n' g r i → k_v n g r i) {q : Nat} (h : k_fr X n ad fr q) : k_fr X n' ad fr q := ⟨h.1, h.2.1, fun g r i hv => h.2.2 g r i (hs g r i hv)⟩
theorem k_N.takeOut {X : kX} {n n' : Nat → Nat → Nat} {ad L : Nat → Nat → Nat → Nat} {C : Nat → Nat → Nat → Nat → Int32} {fr : Nat → Option Cell} {ws : va_W} {H : Heap} (h : k_N X n ad L C fr ws H) (P : List (Nat × Nat × Nat)) (hs : ∀ g r i, k_v n' g r i → k_v n g r i ∧ k_e X n' ad L g r i = k_e X n ad L g r i) (hP : ∀ p ∈ P, k_v n p.1 p.2.1 p.2.2 ∧ ¬ k_v n' p.1 p.2.1 p.2.2) (hn : P.Nodup) (hc : k_cap n' L) : k_N X n' ad L C fr (P.map (k_pl X n ad L C) ++ ws) H := by
  have h1 := h.1.takeOut P hs hP hn hc
  refine ⟨h1.1, va_P.app h1.2.1 h.2.1, va_D.app h1.2.2 (h.2.2.weaken (fun k q _ z => k_fr.less (fun g r i hv => (hs g r i hv).1) z)) (fun i j x y hx hy hxy => ?_)⟩
  rw [List.getElem?_map] at hx
  cases hp : P[i]? with
  | none => rw [hp] at hx; cases hx
  | some p =>
    rw [hp] at hx
    have e := Option.some.inj hx
    have hv := (hP p (List.mem_of_getElem? hp)).1
    have hq := (h.2.2.2 j y hy).2.2 _ _ _ hv
    rw [← hxy, ← e] at hq
    exact hq rfl
theorem k_N.sub {X : kX} {n : Nat → Nat → Nat} {ad L : Nat → Nat → Nat → Nat} {C : Nat → Nat → Nat → Nat → Int32} {fr : Nat → Option Cell} {ws ws' : va_W} {H : Heap} (h : k_N X n ad L C fr ws H) (is : List Nat) (hn : va_nd is = true) (hs : is.map (fun i => ws[i]?) = ws'.map some) : k_N X n ad L C fr ws' H := by
  refine ⟨h.1, fun k q hk => ?_, h.2.2.sub is hn hs⟩
  have h1 : (is.map (fun i => ws[i]?))[k]? = some (some q) := by rw [hs, List.getElem?_map, hk]; rfl
  rw [List.getElem?_map] at h1
  cases hi : is[k]? with
  | none => rw [hi] at h1; cases h1
  | some i => rw [hi] at h1; exact h.2.1 i q (Option.some.inj h1)
theorem k_outN0 {X : kX} {n : Nat → Nat → Nat} {ad L : Nat → Nat → Nat → Nat} {C : Nat → Nat → Nat → Nat → Int32} {fr : Nat → Option Cell} {ws : va_W} {H : Heap} {g nl nt ng : Nat} (h : k_N X n ad L C fr ws H) (hd : kDk n g nl nt ng) {i : Nat} (hi : i < 3) : k_N X (k_n1 n g (i + 1)) ad L C fr (k_pl X n ad L C (g, 1, i) :: ws) H := by
  refine h.takeOut [(g, 1, i)] (fun g' r' i' hv => ⟨k_n1_v hd.no hv, k_n1_e X n ad L g (i + 1) g' r' i'⟩) (fun p hp => ?_) (by simp) (k_n1_cap hd.no h.1.cap)
  rw [List.mem_singleton.mp hp]
  refine ⟨hd.li hi, fun z => ?_⟩
  have z2 : k_n1 n g (i + 1) g 2 ≠ i + 1 := z.2
  exact z2 k_n1_2
theorem k_outN1 {X : kX} {n : Nat → Nat → Nat} {ad L : Nat → Nat → Nat → Nat} {C : Nat → Nat → Nat → Nat → Int32} {fr : Nat → Option Cell} {ws : va_W} {H : Heap} {g nl nt ng : Nat} (h : k_N X n ad L C fr ws H) (hd : kDk n g nl nt ng) {i : Nat} (hi : i < 3) (hv : k_v n g 2 i) : k_N X (k_n1 n g (i + 1)) ad L C fr (k_pl X n ad L C (g, 1, i) :: k_pl X n ad L C (g, 2, i) :: ws) H := by
  refine h.takeOut [(g, 1, i), (g, 2, i)] (fun g' r' i' hv => ⟨k_n1_v hd.no hv, k_n1_e X n ad L g (i + 1) g' r' i'⟩) (fun p hp => ?_) (by simp) (k_n1_cap hd.no h.1.cap)
  rcases List.mem_cons.mp hp with q | q
  · rw [q]
    refine ⟨hd.li hi, fun z => ?_⟩
    have z2 : k_n1 n g (i + 1) g 2 ≠ i + 1 := z.2
    exact z2 k_n1_2
  · rw [List.mem_singleton.mp q]
    refine ⟨hv, fun z => ?_⟩
    have z2 : k_n1 n g (i + 1) g 2 ≠ i + 1 := z.2.2
    exact z2 k_n1_2
theorem k_self {X : kX} {n : Nat → Nat → Nat} {ad L : Nat → Nat → Nat → Nat} {C : Nat → Nat → Nat → Nat → Int32} {fr : Nat → Option Cell} {H : Heap} (h : k_W X n ad L C fr H) (g : Nat) : k_W X n ad L (k_g C g (C g)) fr H := by
  rw [k_g_self]
  exact h
/-- a place's contents depend on its owner's part alone, and on where owner 0's dock is -/
theorem k_e_g {X : kX} {n n' : Nat → Nat → Nat} {ad ad' L L' : Nat → Nat → Nat → Nat} {g : Nat} (hn : n g = n' g) (ha : ad g = ad' g) (h0 : ad 0 0 0 = ad' 0 0 0) (hL : L g = L' g) : k_e X n ad L g = k_e X n' ad' L' g := by
  funext r i c
  unfold k_e
  simp only [hn, ha, h0, hL]
