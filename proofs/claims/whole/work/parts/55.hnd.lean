/-! the units of all doors are handled -/
def q_fB (E z : KD) : Prop := z 14 = E 14 ∧ ∀ j, j ≠ 1 → j ≠ 25 → ¬ (15 ≤ j ∧ j ≤ 18) → z 15 j = E 15 j
def q_fH (D a : KD) : Prop := a 3 = D 3 ∧ a 7 = D 7 ∧ ∀ l k, k ≠ 10 → a 4 l k = D 4 l k
theorem k_d_r (D : KD) {r i k : Nat} {x : Int32} {r' : Nat} (h : r' ≠ r) : k_d D r i k x r' = D r' := by
  funext i' k'
  exact k_dn (fun z => h z.1)
section
variable {D E : KD} {nl nt ng : Nat}
theorem q_fB.rfl9 (E : KD) : q_fB E E := ⟨rfl, fun _ _ _ _ => rfl⟩
theorem q_fH.rfl9 (D : KD) : q_fH D D := ⟨rfl, rfl, fun _ _ _ => rfl⟩
theorem q_fA.B {z : KD} (h : q_fA E z) : q_fB E z := ⟨h.1, fun j h1 _ h2 => h.2 j h1 h2⟩
theorem q_fB.tr {z y : KD} (h : q_fB E z) (h2 : q_fB z y) : q_fB E y := ⟨h2.1.trans h.1, fun j a b c => (h2.2 j a b c).trans (h.2 j a b c)⟩
theorem q_fH.tr {z y : KD} (h : q_fH D z) (h2 : q_fH z y) : q_fH D y := ⟨h2.1.trans h.1, h2.2.1.trans h.2.1, fun l k a => (h2.2.2 l k a).trans (h.2.2 l k a)⟩
theorem q_fB.put {z : KD} (h : q_fB E z) {j i : Nat} {x : Int32} (hj : j = 1 ∨ j = 25 ∨ (15 ≤ j ∧ j ≤ 18)) : q_fB E (k_d z 15 j i x) := by
  refine ⟨?_, fun j' h0 h1 h2 => ?_⟩
  · rw [← h.1]; exact k_d_r z (by omega)
  · rw [← h.2 j' h0 h1 h2]
    exact k_d_off z x (fun q => by omega)
theorem q_fB.wf (h : mWF E nl nt ng) {z : KD} (f : q_fB E z) : mWF z nl nt ng := h.cp f.1 (f.2 4 (by omega) (by omega) (by omega)) (f.2 11 (by omega) (by omega) (by omega)) (f.2 12 (by omega) (by omega) (by omega)) (f.2 13 (by omega) (by omega) (by omega)) (f.2 23 (by omega) (by omega) (by omega))
theorem q_fB.K (h : q_K E nt) {z : KD} (f : q_fB E z) : q_K z nt := h.cp (f.2 0 (by omega) (by omega) (by omega)) (f.2 12 (by omega) (by omega) (by omega)) (f.2 13 (by omega) (by omega) (by omega))
theorem q_fB.G (h : q_G E ng) {z : KD} (f : q_fB E z) : q_G z ng := h.cp (f.2 19 (by omega) (by omega) (by omega)) (f.2 21 (by omega) (by omega) (by omega))
theorem q_hndG (F : Nat → KD × Int32 → KD × Int32) {i : Nat} (hi : i < nl) {m : Nat} (h36 : m ≤ 36) (hF0 : ∀ k z, z.2 = 0 → F k z = z)
    (hF : ∀ (a0 : KD) (z : KD × Int32), q_I D E nl nt ng a0 z.1 → ∀ k a, k < nt → z.2 = nI a → 0 < a → a ≤ 36 → ∃ b, b ≤ a ∧ q_I D E nl nt ng (q_stp a0 k i z.2).1 (F k z).1 ∧ z.2 - (q_stp a0 k i z.2).2 = nI (a - b) ∧ (F k z).2 = nI (a - b) ∧ (F k z).1 15 1 = (if b = 0 then z.1 15 1 else upd (z.1 15 1) i 1))
    (h1 : E 15 1 i = 0) (hC : q_C D E nl nt ng) (hU : q_U E nt) :
    q_C (s_X0_handleUnitsOf D nl nt ng i (nI m)) (it F nt (E, nI m)).1 nl nt ng ∧ (s_X0_handleUnitsOf D nl nt ng i (nI m) 4 i 10 = (it F nt (E, nI m)).1 15 1 i ∧ ∀ l, l ≠ i → s_X0_handleUnitsOf D nl nt ng i (nI m) 4 l 10 = D 4 l 10) ∧ q_U (it F nt (E, nI m)).1 nt ∧ q_fA E (it F nt (E, nI m)).1 ∧ q_fT nt E (it F nt (E, nI m)).1 ∧ q_fH D (s_X0_handleUnitsOf D nl nt ng i (nI m)) ∧ ∀ l, l ≠ i → (it F nt (E, nI m)).1 15 1 l = E 15 1 l := by
  obtain ⟨a', ⟨c1, c2, c3, c4, c5⟩, ho, e⟩ := q_hndR (D := D) (E := E) (ng := ng) F hi h36 hF0 hF nt 0 D (E, nI m) (by omega) ⟨hC, hU, q_fA.rfl9 E, q_fC.rfl9 D, q_fT.rfl9 nt E⟩ (fun _ _ => rfl) ⟨m, Nat.le_refl m, rfl, Or.inl ⟨rfl, h1⟩⟩
  rw [it_itR]
  have e' : s_X0_handleUnitsOf D nl nt ng i (nI m) = k_d a' 4 i 10 ((itR F nt 0 (E, nI m)).1 15 1 i) := e
  rw [e']
  refine ⟨c1.offD (Or.inr (Or.inr ⟨rfl, by omega⟩)), ⟨k_ds, fun l hli => ?_⟩, c2, c3, c5, ⟨?_, ?_, fun l k hk => ?_⟩, ho⟩
  · rw [k_dn (by omega), c4 4 (by omega) (by omega)]
  · rw [k_d_r _ (by omega)]; exact c4 3 (by omega) (by omega)
  · rw [k_d_r _ (by omega)]; exact c4 7 (by omega) (by omega)
  · rw [k_dn (by omega), c4 4 (by omega) (by omega)]
theorem q_unl0 (E1 : KD) (l pw : Int32) (k : Nat) (z : KD × Int32) (h : z.2 = 0) : f_X7_unload_5 E1 nl nt ng l pw k z = z := by
  unfold f_X7_unload_5
  rw [if_pos h]
  split <;> first | rfl | (split <;> rfl)
theorem q_lod0 (E1 : KD) (l pw : Int32) (k : Nat) (z : KD × Int32) (h : z.2 = 0) : f_X7_load_5 E1 nl nt ng l pw k z = z := by
  unfold f_X7_load_5
  rw [if_pos h]
  split <;> first | rfl | (split <;> rfl)
def q_R8 (D E : KD) (nl nt ng k : Nat) (x y : KD) : Prop := q_C x y nl nt ng ∧ ((∀ l, l < nl → (∃ d, d < k ∧ E 15 23 d = nI l) → x 4 l 10 = y 15 1 l) ∧ ∀ l, l < nl → (E 15 11 l = 101 ∨ E 15 11 l = 121) → x 4 l 10 = 0 ∧ y 15 1 l = 0) ∧ q_U y nt ∧ q_fB E y ∧ q_fT nt E y ∧ q_fH D x ∧ (∀ d, d < k → y 15 25 d = E 15 23 d) ∧ (∀ l, l < nl → ∀ d, k ≤ d → d < 4 → E 15 4 l = nI d → y 15 1 l = 0) ∧ (∀ l, nl ≤ l → y 15 1 l = E 15 1 l)
theorem q_hnd8 (hw : mWF E nl nt ng) (hK : q_K E nt) (hG : q_G E ng) (hm : q_m E) (hC : q_C D E nl nt ng) (hD : q_D D E) (hY : ∀ l, l < nl → (E 15 11 l = 101 ∨ E 15 11 l = 121) → D 4 l 10 = 0) (hz : ∀ l, l < nl → E 15 1 l = 0) (hU : q_U E nt) (D1 E1 : KD) :
    q_R8 D E nl nt ng 4 (it (f_X0_handleUnits_2 D1 nl nt ng) 4 D) (it (f_X7_passes_78 E1 nl nt ng) 4 E) := by
  refine it_sim (q_R8 D E nl nt ng) ⟨hC, ⟨fun l _ => fun ⟨d, h, _⟩ => absurd h (by omega), fun l hl q => ⟨hY l hl q, hz l hl⟩⟩, hU, q_fB.rfl9 E, q_fT.rfl9 nt E, q_fH.rfl9 D, fun d h => absurd h (by omega), fun l hl _ _ _ _ => hz l hl, fun _ _ => rfl⟩ (fun k hk x y => ?_)
  rintro ⟨rC, ⟨rA, rY⟩, rU, rB, rT, rF, rP, rZ, rN⟩
  have e23 : y 15 23 = E 15 23 := rB.2 23 (by omega) (by omega) (by omega)
  have ex : x 3 0 k = y 15 23 k := by rw [rF.1, e23]; exact hD k hk
  have h8 := hw.l8
  have y1C : ∀ v, q_C x (k_d y 15 25 k v) nl nt ng := fun v => rC.offE (Or.inr ⟨rfl, by omega⟩)
  have y1H : ∀ v l, (k_d y 15 25 k v) 15 1 l = y 15 1 l := fun v l => k_di rfl
  have y1U : ∀ v, q_U (k_d y 15 25 k v) nt := fun v => rU.cp (k_d_off _ _ (by omega)) (k_d_off _ _ (by omega)) (k_d_off _ _ (by omega)) (k_d_off _ _ (by omega)) (k_d_off _ _ (by omega))
  have y1B : ∀ v, q_fB E (k_d y 15 25 k v) := fun v => rB.put (Or.inr (Or.inl rfl))
  have y1T : ∀ v, q_fT nt E (k_d y 15 25 k v) := fun v => rT.put (Or.inr (Or.inl (by omega)))
  have y1P : ∀ d, d < k + 1 → (k_d y 15 25 k (y 15 23 k)) 15 25 d = E 15 23 d := fun d hd => by
    by_cases hdk : d = k
    · rw [hdk, k_ds, e23]
    · rw [k_dn (by omega)]; exact rP d (by omega)
  have y1Z : ∀ v, ∀ l, l < nl → ∀ d, k ≤ d → d < 4 → E 15 4 l = nI d → (k_d y 15 25 k v) 15 1 l = 0 := fun v l hl d h1 h2 h3 => by rw [k_di rfl]; exact rZ l hl d h1 h2 h3
  have y1N : ∀ v, ∀ l, nl ≤ l → (k_d y 15 25 k v) 15 1 l = E 15 1 l := fun v l hl => by rw [k_di rfl]; exact rN l hl
  unfold f_X0_handleUnits_2 f_X7_passes_78
  rw [ex]
  by_cases hc : y 15 23 k = -1
  · rw [if_pos hc, if_pos hc]
    refine ⟨y1C _, ⟨fun l hl => ?_, fun l hl q => ?_⟩, y1U _, y1B _, y1T _, rF, y1P, fun l hl d h1 h2 h3 => y1Z _ l hl d (by omega) h2 h3, y1N _⟩
    · rintro ⟨d, hd, ed⟩
      rw [y1H]
      by_cases hdk : d = k
      · rw [hdk, ← e23, hc] at ed
        exact absurd ed.symm (nI_nm1 (by omega))
      · exact rA l hl ⟨d, by omega, ed⟩
    · rw [y1H]; exact rY l hl q
  · rw [if_neg hc, if_neg hc]
    obtain ⟨v1, v2, v3⟩ := hw.ind hk (by rw [← e23]; exact hc)
    rw [← e23] at v1 v2 v3
    obtain ⟨i, hi, hx⟩ := vp_in_of v1 (by omega)
    rw [hx] at y1P v2 v3 ⊢
    rw [nI_clamp (by omega)] at v2 v3 ⊢
    have hw1 := (y1B (nI i)).wf hw
    have hK1 := (y1B (nI i)).K hK
    obtain ⟨m, hm36, hpm⟩ := q_powN (nl := nl) (nt := nt) ((y1B (nI i)).G hG) hw.g4 (nI k)
    rw [q_pow (y1C (nI i)) ((y1B (nI i)).G hG) (hm.cp (y1B (nI i)).1) (nI k), hpm]
    have h1i : (k_d y 15 25 k (nI i)) 15 1 i = 0 := y1Z _ i hi k (by omega) hk v3
    have fin : ∀ X' Y' : KD, q_C X' Y' nl nt ng ∧ (X' 4 i 10 = Y' 15 1 i ∧ ∀ l, l ≠ i → X' 4 l 10 = x 4 l 10) ∧ q_U Y' nt ∧ q_fA (k_d y 15 25 k (nI i)) Y' ∧ q_fT nt (k_d y 15 25 k (nI i)) Y' ∧ q_fH x X' ∧ (∀ l, l ≠ i → Y' 15 1 l = (k_d y 15 25 k (nI i)) 15 1 l) → q_R8 D E nl nt ng (k + 1) X' Y' := by
      rintro X' Y' ⟨s1, ⟨s2, s2o⟩, s3, s4, s5, s6, s7⟩
      refine ⟨s1, ⟨fun l hl => ?_, fun l hl q => ?_⟩, s3, (y1B _).tr s4.B, (y1T _).tr s5, rF.tr s6, fun d hd => ?_, fun l hl d h1 h2 h3 => ?_, fun l hl => ?_⟩
      · rintro ⟨d, hd, ed⟩
        by_cases hli : l = i
        · rw [hli]; exact s2
        · rw [s2o l hli, s7 l hli, y1H]
          refine rA l hl ⟨d, ?_, ed⟩
          have hdk : d ≠ k := fun z => by
            rw [z, ← e23, hx] at ed
            exact hli ((nI_eq (by omega) (by omega)).mp ed).symm
          omega
      · have hli : l ≠ i := fun z => by
          rw [z, v2] at q
          exact absurd q (by decide)
        rw [s2o l hli, s7 l hli, y1H]; exact rY l hl q
      · rw [s4.2 25 (by omega) (by omega)]; exact y1P d hd
      · have hli : l ≠ i := fun q => by
          rw [q, v3] at h3
          exact absurd ((nI_eq (by omega) (by omega)).mp h3) (by omega)
        rw [s7 l hli]; exact y1Z _ l hl d (by omega) h2 h3
      · rw [s7 l (by omega)]; exact y1N _ l hl
    have hE0 : (k_d y 15 25 k (nI i)) 15 0 i = y 15 0 i := k_di rfl
    have hE4 : (k_d y 15 25 k (nI i)) 15 4 i ≠ -1 := by
      rw [k_di rfl, rB.2 4 (by omega) (by omega) (by omega), v3]; exact nI_nm1 (by omega)
    by_cases hb : y 15 0 i = 0
    · rw [if_pos hb]
      exact fin _ _ (q_hndG (D := x) (E := k_d y 15 25 k (nI i)) (f_X7_load_5 (k_d y 15 25 k (nI i)) nl nt ng (nI i) (nI m)) hi hm36 (fun k z h => q_lod0 _ _ _ k z h) (fun a0 z hI k' a hk' ha h0 h36 => q_lod hw1 hK1 hi (hE0.trans hb) _ _ hI hk' ha h0 h36) h1i (y1C _) (y1U _))
    · rw [if_neg hb]
      exact fin _ _ (q_hndG (D := x) (E := k_d y 15 25 k (nI i)) (f_X7_unload_5 (k_d y 15 25 k (nI i)) nl nt ng (nI i) (nI m)) hi hm36 (fun k z h => q_unl0 _ _ _ k z h) (fun a0 z hI k' a hk' ha h0 h36 => q_unl hw1 hK1 hi (by rw [hE0]; exact hb) hE4 _ _ hI hk' ha h0 h36) h1i (y1C _) (y1U _))
end
