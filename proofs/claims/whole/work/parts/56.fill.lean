/-! doors are filled, marks taken off, lorries leave -/
def q_fF (E y : KD) : Prop := y 14 = E 14 ∧ ∀ j, j ≠ 11 → j ≠ 23 → y 15 j = E 15 j
def q_fG (D x : KD) : Prop := x 7 = D 7 ∧ ∀ l k, k ≠ 5 → x 4 l k = D 4 l k
section
variable {D E : KD} {nl nt ng : Nat}
theorem q_fill (hw : mWF E nl nt ng) (hC : q_C D E nl nt ng) (hD : q_D D E) (D1 E1 : KD) :
    q_C (it (f_X0_fillDoors_2 D1 nl nt ng) 4 D) (it (f_X7_passes_2 E1 nl nt ng) 4 E) nl nt ng ∧ q_D (it (f_X0_fillDoors_2 D1 nl nt ng) 4 D) (it (f_X7_passes_2 E1 nl nt ng) 4 E) ∧ mWF (it (f_X7_passes_2 E1 nl nt ng) 4 E) nl nt ng ∧ q_fF E (it (f_X7_passes_2 E1 nl nt ng) 4 E) ∧ q_fG D (it (f_X0_fillDoors_2 D1 nl nt ng) 4 D) := by
  refine it_sim (fun _ x y => q_C x y nl nt ng ∧ q_D x y ∧ mWF y nl nt ng ∧ q_fF E y ∧ q_fG D x) ⟨hC, hD, hw, ⟨rfl, fun _ _ _ => rfl⟩, rfl, fun _ _ _ => rfl⟩ (fun k hk x y => ?_)
  rintro ⟨rC, rD, rw0, rF, rG⟩
  have h8 := rw0.l8
  unfold f_X0_fillDoors_2 f_X7_passes_2
  rw [rD k hk, q_que rC h8]
  by_cases h0 : y 15 23 k = -1
  · rw [if_pos h0, if_pos h0]
    by_cases h1 : s_X7_queued y nl nt ng (nI k) 0 = -1
    · rw [if_pos h1, if_pos h1, h1, ← h0, k_d_id]
      exact ⟨rC, rD, rw0, rF, rG⟩
    · rw [if_neg h1, if_neg h1]
      obtain ⟨l, hl, el, hs, hr, -⟩ := mQ_some h1
      rw [el, nI_clamp (by omega)]
      refine ⟨?_, fun d hd => ?_, rw0.fill1 hk h0 hl hs hr, ⟨?_, fun j h1 h2 => ?_⟩, ?_, fun l' k' hk' => ?_⟩
      · exact ((rC.offE (Or.inr ⟨rfl, by omega⟩)).putL (5, 11) (by decide) l rfl).offD (Or.inl rfl)
      · by_cases hdk : d = k
        · rw [hdk, k_ds, k_di rfl, k_ds]
        · rw [k_dn (by omega), k_dr rfl, k_di rfl, k_dn (by omega)]; exact rD d hd
      · rw [k_d_r _ (by omega), k_d_r _ (by omega)]; exact rF.1
      · rw [k_d_off _ _ (by omega), k_d_off _ _ (by omega)]; exact rF.2 j h1 h2
      · rw [k_d_r _ (by omega), k_d_r _ (by omega)]; exact rG.1
      · rw [k_dr rfl, k_dn (by omega)]; exact rG.2 l' k' hk'
  · rw [if_neg h0, if_neg h0]
    exact ⟨rC, rD, rw0, rF, rG⟩
theorem q_fil2 (E1 E : KD) : ∀ l, it (f_X7_passes_2 E1 nl nt ng) 4 E 15 11 l = 100 ∨ it (f_X7_passes_2 E1 nl nt ng) 4 E 15 11 l = E 15 11 l :=
  it_ind (f := f_X7_passes_2 E1 nl nt ng) (a := E) (n := 4) (P := fun z => ∀ l, z 15 11 l = 100 ∨ z 15 11 l = E 15 11 l) (fun l => Or.inr rfl) (fun k hk z hz l => by
    unfold f_X7_passes_2
    split
    · split
      · rw [k_di (by decide)]; exact hz l
      · by_cases c : l = (s_X7_queued z nl nt ng (nI k) 0).toNatClampNeg
        · rw [c, k_ds]; exact Or.inl rfl
        · rw [k_dn (by omega), k_di (by decide)]; exact hz l
    · exact hz l)
theorem q_rst (hC : q_C D E nl nt ng) (hU : q_U E nt) (E1 : KD) :
    q_C D (it (f_X7_passes_55 E1 nl nt ng) nl E) nl nt ng ∧ q_U (it (f_X7_passes_55 E1 nl nt ng) nl E) nt ∧ q_fB E (it (f_X7_passes_55 E1 nl nt ng) nl E) ∧ q_fT nt E (it (f_X7_passes_55 E1 nl nt ng) nl E) ∧ (∀ l, l < nl → it (f_X7_passes_55 E1 nl nt ng) nl E 15 1 l = 0) ∧ ∀ l, nl ≤ l → it (f_X7_passes_55 E1 nl nt ng) nl E 15 1 l = E 15 1 l := by
  refine it_indk (f := f_X7_passes_55 E1 nl nt ng) (a := E) (n := nl) (P := fun k y => q_C D y nl nt ng ∧ q_U y nt ∧ q_fB E y ∧ q_fT nt E y ∧ (∀ l, l < k → y 15 1 l = 0) ∧ ∀ l, nl ≤ l → y 15 1 l = E 15 1 l) ⟨hC, hU, q_fB.rfl9 E, q_fT.rfl9 nt E, fun l hl => absurd hl (by omega), fun _ _ => rfl⟩ (fun k hk y => ?_)
  rintro ⟨rC, rU, rB, rT, rZ, rN⟩
  unfold f_X7_passes_55
  refine ⟨rC.offE (Or.inr ⟨rfl, Or.inl rfl⟩), rU.cp (k_d_off _ _ (by omega)) (k_d_off _ _ (by omega)) (k_d_off _ _ (by omega)) (k_d_off _ _ (by omega)) (k_d_off _ _ (by omega)), rB.put (Or.inl rfl), rT.put (Or.inl (by omega)), fun l hl => ?_, fun l hl => ?_⟩
  · by_cases hlk : l = k
    · rw [hlk, k_ds]
    · rw [k_dn (by omega)]; exact rZ l (by omega)
  · rw [k_dn (by omega)]; exact rN l hl
end
/-! sums -/
def q_S (f : Nat → Nat) (n : Nat) : Nat := it (fun k s => s + f k) n 0
theorem q_S_0 (f : Nat → Nat) : q_S f 0 = 0 := rfl
theorem q_S_s (f : Nat → Nat) (n : Nat) : q_S f (n + 1) = q_S f n + f n := rfl
theorem q_S_cg {f g : Nat → Nat} {n : Nat} (h : ∀ k, k < n → f k = g k) : q_S f n = q_S g n := by
  induction n with
  | zero => rfl
  | succ n ih => rw [q_S_s, q_S_s, ih (fun k hk => h k (by omega)), h n (by omega)]
theorem q_S_z (n : Nat) : q_S (fun _ => 0) n = 0 := by
  induction n with
  | zero => rfl
  | succ n ih => rw [q_S_s, ih]
theorem q_S_p (f g : Nat → Nat) (n : Nat) : q_S (fun k => f k + g k) n = q_S f n + q_S g n := by
  induction n with
  | zero => rfl
  | succ n ih => rw [q_S_s, q_S_s, q_S_s, ih]; omega
theorem q_S_sw (f : Nat → Nat → Nat) (n m : Nat) : q_S (fun l => q_S (fun d => f d l) m) n = q_S (fun d => q_S (fun l => f d l) n) m := by
  induction n with
  | zero => exact (q_S_z m).symm
  | succ n ih =>
    rw [q_S_s, ih, ← q_S_p]
    rfl
noncomputable def q_b (p : Prop) : Nat := @ite Nat p (Classical.propDecidable p) 1 0
theorem q_b1 {p : Prop} (h : p) : q_b p = 1 := by unfold q_b; exact if_pos h
theorem q_b0 {p : Prop} (h : ¬ p) : q_b p = 0 := by unfold q_b; exact if_neg h
theorem q_b_cg {p q : Prop} (h : p ↔ q) : q_b p = q_b q := by rw [propext h]
theorem q_S_one (A : Nat → Prop) (m : Nat) (h : ∀ d d', d < m → d' < m → A d → A d' → d = d') : q_S (fun d => q_b (A d)) m = q_b (∃ d, d < m ∧ A d) := by
  induction m with
  | zero => rw [q_b0 (fun ⟨d, hd, _⟩ => absurd hd (by omega))]; rfl
  | succ m ih =>
    rw [q_S_s, ih (fun d d' h1 h2 => h d d' (by omega) (by omega))]
    by_cases hm : A m
    · rw [q_b1 hm, q_b0 (fun ⟨d, hd, ha⟩ => absurd (h d m (by omega) (by omega) ha hm) (by omega)), q_b1 ⟨m, by omega, hm⟩]
    · rw [q_b0 hm, Nat.add_zero]
      exact q_b_cg ⟨fun ⟨d, hd, ha⟩ => ⟨d, by omega, ha⟩, fun ⟨d, hd, ha⟩ => ⟨d, (by
        rcases Nat.lt_or_ge d m with q | q
        · exact q
        · have : d = m := by omega
          subst this
          exact absurd ha hm), ha⟩⟩
/-- as many l as d, where A tells which belong together -/
theorem q_S_bij (A : Nat → Nat → Prop) (n m : Nat) (h1 : ∀ l, l < n → ∀ d d', d < m → d' < m → A d l → A d' l → d = d') (h2 : ∀ d, d < m → ∀ l l', l < n → l' < n → A d l → A d l' → l = l') : q_S (fun l => q_b (∃ d, d < m ∧ A d l)) n = q_S (fun d => q_b (∃ l, l < n ∧ A d l)) m := by
  rw [← q_S_cg (fun l hl => q_S_one (fun d => A d l) m (h1 l hl)), ← q_S_cg (fun d hd => q_S_one (A d) n (h2 d hd))]
  exact q_S_sw (fun d l => q_b (A d l)) n m
/-- a choice by any proposition -/
noncomputable def q_i {α : Type} (p : Prop) (x y : α) : α := @ite α p (Classical.propDecidable p) x y
theorem q_i1 {α : Type} {p : Prop} {x y : α} (h : p) : q_i p x y = x := by unfold q_i; exact if_pos h
theorem q_i0 {α : Type} {p : Prop} {x y : α} (h : ¬ p) : q_i p x y = y := by unfold q_i; exact if_neg h
theorem q_i_cg {α : Type} {p q : Prop} {x y : α} (h : p ↔ q) : q_i p x y = q_i q x y := by rw [propext h]
