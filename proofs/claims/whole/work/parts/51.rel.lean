/-! THE RELATION: the class's contents D (of the dock) and the reference's E -/
/-- lorry, transfer, gang: the class's field and the reference's row -/
def q_tL : List (Nat × Nat) := [(1, 0), (2, 2), (3, 3), (4, 4), (5, 11), (6, 5), (7, 8), (8, 6), (9, 7)]
def q_tT : List (Nat × Nat) := [(0, 12), (1, 13), (2, 14), (3, 15), (4, 16), (5, 17)]
def q_tG : List (Nat × Nat) := [(0, 19), (1, 20), (2, 21), (3, 22)]
def q_C (D E : KD) (nl nt ng : Nat) : Prop :=
  (∀ l, l < nl → D 4 l 0 = nI l) ∧ (∀ l, l < nl → ∀ p ∈ q_tL, D 4 l p.1 = E 15 p.2 l) ∧ (∀ t, t < nt → ∀ p ∈ q_tT, D 5 t p.1 = E 15 p.2 t) ∧
  (∀ g, g < ng → ∀ p ∈ q_tG, D 6 g p.1 = E 15 p.2 g) ∧ (∀ t, t < nt → ∀ k, k < 4 → D 8 t k = E 15 18 (4 * t + k)) ∧ D 0 0 4 = E 14 0 4
def q_D (D E : KD) : Prop := ∀ d, d < 4 → D 3 0 d = E 15 23 d
/-- in a minute, of those who are in the yard or were at a door in it (as G tells): whether a unit was handled -/
def q_H (G D E : KD) (nl : Nat) : Prop := ∀ l, l < nl → (G 15 11 l = 121 ∨ G 15 11 l = 100 ∨ ∃ d, d < 4 ∧ G 15 25 d = nI l) → D 4 l 10 = E 15 1 l
/-- who has not been at a door has not been handled -/
def q_Y (D : KD) (nl : Nat) : Prop := ∀ l, l < nl → (D 4 l 5 = 101 ∨ D 4 l 5 = 121) → D 4 l 10 = 0
section
variable {D E : KD} {nl nt ng : Nat}
theorem k_dn {D : KD} {r i k r' i' k' : Nat} {x : Int32} (h : ¬ (r' = r ∧ i' = i ∧ k' = k)) : k_d D r i k x r' i' k' = D r' i' k' := if_neg h
theorem k_d_id (D : KD) (r i k : Nat) : k_d D r i k (D r i k) = D := by
  funext r' i' k'
  unfold k_d
  split
  · next h => rw [h.1, h.2.1, h.2.2]
  · rfl
theorem q_C.n (h : q_C D E nl nt ng) {l : Nat} (hl : l < nl) : D 4 l 0 = nI l := h.1 l hl
theorem q_C.l1 (h : q_C D E nl nt ng) {l : Nat} (hl : l < nl) : D 4 l 1 = E 15 0 l := h.2.1 l hl (1, 0) (by decide)
theorem q_C.l2 (h : q_C D E nl nt ng) {l : Nat} (hl : l < nl) : D 4 l 2 = E 15 2 l := h.2.1 l hl (2, 2) (by decide)
theorem q_C.l3 (h : q_C D E nl nt ng) {l : Nat} (hl : l < nl) : D 4 l 3 = E 15 3 l := h.2.1 l hl (3, 3) (by decide)
theorem q_C.l4 (h : q_C D E nl nt ng) {l : Nat} (hl : l < nl) : D 4 l 4 = E 15 4 l := h.2.1 l hl (4, 4) (by decide)
theorem q_C.l5 (h : q_C D E nl nt ng) {l : Nat} (hl : l < nl) : D 4 l 5 = E 15 11 l := h.2.1 l hl (5, 11) (by decide)
theorem q_C.l6 (h : q_C D E nl nt ng) {l : Nat} (hl : l < nl) : D 4 l 6 = E 15 5 l := h.2.1 l hl (6, 5) (by decide)
theorem q_C.l7 (h : q_C D E nl nt ng) {l : Nat} (hl : l < nl) : D 4 l 7 = E 15 8 l := h.2.1 l hl (7, 8) (by decide)
theorem q_C.l8 (h : q_C D E nl nt ng) {l : Nat} (hl : l < nl) : D 4 l 8 = E 15 6 l := h.2.1 l hl (8, 6) (by decide)
theorem q_C.l9 (h : q_C D E nl nt ng) {l : Nat} (hl : l < nl) : D 4 l 9 = E 15 7 l := h.2.1 l hl (9, 7) (by decide)
theorem q_C.t0 (h : q_C D E nl nt ng) {t : Nat} (ht : t < nt) : D 5 t 0 = E 15 12 t := h.2.2.1 t ht (0, 12) (by decide)
theorem q_C.t1 (h : q_C D E nl nt ng) {t : Nat} (ht : t < nt) : D 5 t 1 = E 15 13 t := h.2.2.1 t ht (1, 13) (by decide)
theorem q_C.t2 (h : q_C D E nl nt ng) {t : Nat} (ht : t < nt) : D 5 t 2 = E 15 14 t := h.2.2.1 t ht (2, 14) (by decide)
theorem q_C.t3 (h : q_C D E nl nt ng) {t : Nat} (ht : t < nt) : D 5 t 3 = E 15 15 t := h.2.2.1 t ht (3, 15) (by decide)
theorem q_C.t4 (h : q_C D E nl nt ng) {t : Nat} (ht : t < nt) : D 5 t 4 = E 15 16 t := h.2.2.1 t ht (4, 16) (by decide)
theorem q_C.t5 (h : q_C D E nl nt ng) {t : Nat} (ht : t < nt) : D 5 t 5 = E 15 17 t := h.2.2.1 t ht (5, 17) (by decide)
theorem q_C.g0 (h : q_C D E nl nt ng) {g : Nat} (hg : g < ng) : D 6 g 0 = E 15 19 g := h.2.2.2.1 g hg (0, 19) (by decide)
theorem q_C.g1 (h : q_C D E nl nt ng) {g : Nat} (hg : g < ng) : D 6 g 1 = E 15 20 g := h.2.2.2.1 g hg (1, 20) (by decide)
theorem q_C.g2 (h : q_C D E nl nt ng) {g : Nat} (hg : g < ng) : D 6 g 2 = E 15 21 g := h.2.2.2.1 g hg (2, 21) (by decide)
theorem q_C.g3 (h : q_C D E nl nt ng) {g : Nat} (hg : g < ng) : D 6 g 3 = E 15 22 g := h.2.2.2.1 g hg (3, 22) (by decide)
theorem q_C.s (h : q_C D E nl nt ng) {t k : Nat} (ht : t < nt) (hk : k < 4) : D 8 t k = E 15 18 (4 * t + k) := h.2.2.2.2.1 t ht k hk
theorem q_C.now (h : q_C D E nl nt ng) : D 0 0 4 = E 14 0 4 := h.2.2.2.2.2
theorem q_tLL : ∀ p ∈ q_tL, ∀ q ∈ q_tL, q.1 = p.1 ↔ q.2 = p.2 := by decide
theorem q_tTT : ∀ p ∈ q_tT, ∀ q ∈ q_tT, q.1 = p.1 ↔ q.2 = p.2 := by decide
theorem q_tGG : ∀ p ∈ q_tG, ∀ q ∈ q_tG, q.1 = p.1 ↔ q.2 = p.2 := by decide
theorem q_tLT : ∀ p ∈ q_tL, ∀ q ∈ q_tT, ¬ q.2 = p.2 := by decide
theorem q_tLG : ∀ p ∈ q_tL, ∀ q ∈ q_tG, ¬ q.2 = p.2 := by decide
theorem q_tTG : ∀ p ∈ q_tT, ∀ q ∈ q_tG, ¬ q.2 = p.2 := by decide
theorem q_tL0 : ∀ p ∈ q_tL, ¬ p.1 = 0 ∧ ¬ p.2 = 18 ∧ p.1 ≤ 9 ∧ p.2 ≤ 11 ∧ ¬ p.2 = 1 ∧ ¬ p.2 = 9 ∧ ¬ p.2 = 10 := by decide
theorem q_tT0 : ∀ p ∈ q_tT, ¬ p.2 = 18 ∧ 12 ≤ p.2 ∧ p.2 ≤ 17 := by decide
theorem q_tG0 : ∀ p ∈ q_tG, ¬ p.2 = 18 ∧ 19 ≤ p.2 ∧ p.2 ≤ 22 := by decide
theorem q_C.putL (h : q_C D E nl nt ng) (p : Nat × Nat) (hp : p ∈ q_tL) (l : Nat) {x y : Int32} (hxy : x = y) : q_C (k_d D 4 l p.1 x) (k_d E 15 p.2 l y) nl nt ng := by
  subst hxy
  obtain ⟨h1, h2, h3, h4, h5, h6⟩ := h
  refine ⟨fun l' hl' => ?_, fun l' hl' q hq => ?_, fun t ht q hq => ?_, fun t ht q hq => ?_, fun t ht k hk => ?_, ?_⟩
  · rw [k_dn (fun z => (q_tL0 p hp).1 z.2.2.symm)]; exact h1 l' hl'
  · by_cases hc : l' = l ∧ q.1 = p.1
    · have := (q_tLL p hp q hq).mp hc.2
      rw [hc.1, hc.2, this, k_ds, k_ds]
    · rw [k_dn (fun z => hc ⟨z.2.1, z.2.2⟩), k_dn (fun z => hc ⟨z.2.2, (q_tLL p hp q hq).mpr z.2.1⟩)]
      exact h2 l' hl' q hq
  · rw [k_dr rfl, k_dn (fun z => q_tLT p hp q hq z.2.1)]; exact h3 t ht q hq
  · rw [k_dr rfl, k_dn (fun z => q_tLG p hp q hq z.2.1)]; exact h4 t ht q hq
  · rw [k_dr rfl, k_dn (fun z => (q_tL0 p hp).2.1 z.2.1.symm)]; exact h5 t ht k hk
  · rw [k_dr rfl, k_dr rfl]; exact h6
theorem q_C.putT (h : q_C D E nl nt ng) (p : Nat × Nat) (hp : p ∈ q_tT) (l : Nat) {x y : Int32} (hxy : x = y) : q_C (k_d D 5 l p.1 x) (k_d E 15 p.2 l y) nl nt ng := by
  subst hxy
  obtain ⟨h1, h2, h3, h4, h5, h6⟩ := h
  refine ⟨fun l' hl' => ?_, fun l' hl' q hq => ?_, fun t ht q hq => ?_, fun t ht q hq => ?_, fun t ht k hk => ?_, ?_⟩
  · rw [k_dr rfl]; exact h1 l' hl'
  · rw [k_dr rfl, k_dn (fun z => q_tLT q hq p hp z.2.1.symm)]; exact h2 l' hl' q hq
  · by_cases hc : t = l ∧ q.1 = p.1
    · have := (q_tTT p hp q hq).mp hc.2
      rw [hc.1, hc.2, this, k_ds, k_ds]
    · rw [k_dn (fun z => hc ⟨z.2.1, z.2.2⟩), k_dn (fun z => hc ⟨z.2.2, (q_tTT p hp q hq).mpr z.2.1⟩)]
      exact h3 t ht q hq
  · rw [k_dr rfl, k_dn (fun z => q_tTG p hp q hq z.2.1)]; exact h4 t ht q hq
  · rw [k_dr rfl, k_dn (fun z => (q_tT0 p hp).1 z.2.1.symm)]; exact h5 t ht k hk
  · rw [k_dr rfl, k_dr rfl]; exact h6
theorem q_C.putG (h : q_C D E nl nt ng) (p : Nat × Nat) (hp : p ∈ q_tG) (l : Nat) {x y : Int32} (hxy : x = y) : q_C (k_d D 6 l p.1 x) (k_d E 15 p.2 l y) nl nt ng := by
  subst hxy
  obtain ⟨h1, h2, h3, h4, h5, h6⟩ := h
  refine ⟨fun l' hl' => ?_, fun l' hl' q hq => ?_, fun t ht q hq => ?_, fun t ht q hq => ?_, fun t ht k hk => ?_, ?_⟩
  · rw [k_dr rfl]; exact h1 l' hl'
  · rw [k_dr rfl, k_dn (fun z => q_tLG q hq p hp z.2.1.symm)]; exact h2 l' hl' q hq
  · rw [k_dr rfl, k_dn (fun z => q_tTG q hq p hp z.2.1.symm)]; exact h3 t ht q hq
  · by_cases hc : t = l ∧ q.1 = p.1
    · have := (q_tGG p hp q hq).mp hc.2
      rw [hc.1, hc.2, this, k_ds, k_ds]
    · rw [k_dn (fun z => hc ⟨z.2.1, z.2.2⟩), k_dn (fun z => hc ⟨z.2.2, (q_tGG p hp q hq).mpr z.2.1⟩)]
      exact h4 t ht q hq
  · rw [k_dr rfl, k_dn (fun z => (q_tG0 p hp).1 z.2.1.symm)]; exact h5 t ht k hk
  · rw [k_dr rfl, k_dr rfl]; exact h6
theorem q_C.putS (h : q_C D E nl nt ng) (t0 k0 : Nat) (hk0 : k0 < 4) {x y : Int32} (hxy : x = y) : q_C (k_d D 8 t0 k0 x) (k_d E 15 18 (4 * t0 + k0) y) nl nt ng := by
  subst hxy
  obtain ⟨h1, h2, h3, h4, h5, h6⟩ := h
  refine ⟨fun l' hl' => ?_, fun l' hl' q hq => ?_, fun t ht q hq => ?_, fun t ht q hq => ?_, fun t ht k hk => ?_, ?_⟩
  · rw [k_dr rfl]; exact h1 l' hl'
  · rw [k_dr rfl, k_dn (fun z => (q_tL0 q hq).2.1 z.2.1)]; exact h2 l' hl' q hq
  · rw [k_dr rfl, k_dn (fun z => (q_tT0 q hq).1 z.2.1)]; exact h3 t ht q hq
  · rw [k_dr rfl, k_dn (fun z => (q_tG0 q hq).1 z.2.1)]; exact h4 t ht q hq
  · by_cases hc : t = t0 ∧ k = k0
    · rw [hc.1, hc.2, k_ds, k_ds]
    · rw [k_dn (fun z => hc ⟨z.2.1, z.2.2⟩), k_dn (fun z => hc (by have := z.2.2; omega))]
      exact h5 t ht k hk
  · rw [k_dr rfl, k_dr rfl]; exact h6
/-- a write of the class that the relation doesn't see -/
theorem q_C.offD (h : q_C D E nl nt ng) {r i k : Nat} {x : Int32} (hr : r = 3 ∨ r = 7 ∨ (r = 4 ∧ 10 ≤ k)) : q_C (k_d D r i k x) E nl nt ng := by
  obtain ⟨h1, h2, h3, h4, h5, h6⟩ := h
  refine ⟨fun l' hl' => ?_, fun l' hl' q hq => ?_, fun t ht q hq => ?_, fun t ht q hq => ?_, fun t ht k hk => ?_, ?_⟩
  · rw [k_dn (by omega)]; exact h1 l' hl'
  · rw [k_dn (by have := q_tL0 q hq; omega)]; exact h2 l' hl' q hq
  · rw [k_dn (by omega)]; exact h3 t ht q hq
  · rw [k_dn (by omega)]; exact h4 t ht q hq
  · rw [k_dn (by omega)]; exact h5 t ht k hk
  · rw [k_dn (by omega)]; exact h6
/-- a write of the reference that the relation doesn't see -/
theorem q_C.offE (h : q_C D E nl nt ng) {r i k : Nat} {x : Int32} (hr : (r = 14 ∧ k ≠ 4) ∨ (r = 15 ∧ (i = 1 ∨ i = 9 ∨ i = 10 ∨ 23 ≤ i))) : q_C D (k_d E r i k x) nl nt ng := by
  obtain ⟨h1, h2, h3, h4, h5, h6⟩ := h
  refine ⟨h1, fun l' hl' q hq => ?_, fun t ht q hq => ?_, fun t ht q hq => ?_, fun t ht k hk => ?_, ?_⟩
  · rw [k_dn (by have := q_tL0 q hq; omega)]; exact h2 l' hl' q hq
  · rw [k_dn (by have := q_tT0 q hq; omega)]; exact h3 t ht q hq
  · rw [k_dn (by have := q_tG0 q hq; omega)]; exact h4 t ht q hq
  · rw [k_dn (by omega)]; exact h5 t ht k hk
  · rw [k_dn (by omega)]; exact h6
end
/-- a loop told from its front -/
def itR {α : Type} (F : Nat → α → α) : Nat → Nat → α → α
  | 0, _, z => z
  | f + 1, k, z => itR F f (k + 1) (F k z)
theorem itR_it {α : Type} (F : Nat → α → α) (f : Nat) : ∀ (k : Nat) (z : α), itR F f k (it F k z) = it F (k + f) z := by
  induction f with
  | zero => intro k z; rfl
  | succ f ih =>
    intro k z
    show itR F f (k + 1) (it F (k + 1) z) = _
    rw [ih (k + 1) z, show k + 1 + f = k + (f + 1) by omega]
theorem it_itR {α : Type} (F : Nat → α → α) (n : Nat) (z : α) : it F n z = itR F n 0 z := by
  have := itR_it F n 0 z
  rw [Nat.zero_add] at this
  rw [← this]
  rfl
theorem it_cong {α : Type} {F G : Nat → α → α} {n : Nat} (h : ∀ k, k < n → ∀ z, F k z = G k z) (a : α) : it F n a = it G n a := by
  induction n with
  | zero => rfl
  | succ n ih => rw [it_s, it_s, ih (fun k hk => h k (by omega)), h n (by omega)]
theorem it_sim {α β : Type} {F : Nat → α → α} {G : Nat → β → β} {a : α} {b : β} {n : Nat} (R : Nat → α → β → Prop) (h0 : R 0 a b) (hs : ∀ k, k < n → ∀ x y, R k x y → R (k + 1) (F k x) (G k y)) : R n (it F n a) (it G n b) := by
  induction n with
  | zero => exact h0
  | succ n ih => exact hs n (by omega) _ _ (ih (fun k hk => hs k (by omega)))
