section
variable {nl : Nat} {o : Nat → Bool} {b : Nat → Int32} {B : Nat → Nat → Nat}
def q_Is (nl : Nat) (o : Nat → Bool) (b : Nat → Int32) (B : Nat → Nat → Nat) (z : KD) : Prop := (∀ l, l < nl → (z 22 0 l = 0 ↔ o l = false)) ∧ (∀ l i, l < nl → i < l → z 22 3 (l * 8 + i) = nI (B l i)) ∧ (∀ l, l < nl → o l = false → z 22 1 l = b l) ∧ ∃ L, L ≤ 6336 ∧ z 21 0 5 = nI L
def q_Ra (nl : Nat) (a : Int32 × (Nat → Int32)) (z : KD) : Prop := a.1 = z 21 0 5 ∧ ∀ l, l < nl → a.2 l = z 22 2 l
theorem q_wte {z : KD} {v : Nat → Int32} {lo : Nat} (hlo : lo < nl) (h3 : ∀ l i, l < nl → i < l → z 22 3 (l * 8 + i) = nI (B l i)) (hv : ∀ l, l ≤ lo → z 22 1 l = v l) (hin : ∀ l, v l = -1 ∨ vp_in (v l) 4) : s_X4_waysToEarlier z lo = nI (q_S (fun i => B lo i * q_dd (v lo) (v i)) lo) := by
  unfold s_X4_waysToEarlier l_X4_waysToEarlier_19
  exact it_indk (f := f_X4_waysToEarlier_19 z lo) (a := (0 : Int32)) (n := lo) (P := fun k w => w = nI (q_S (fun i => B lo i * q_dd (v lo) (v i)) k)) rfl (fun k hk w hw => by
    unfold f_X4_waysToEarlier_19
    rw [hw, h3 lo k hlo hk, hv lo (Nat.le_refl _), hv k (by omega), (q_ddE (hin lo) (hin k)).1, pk_mul, nI_add]
    rfl)
theorem q_keep (z : KD) (wy : Int32) : (s_X4_keep z wy 21 0 5 = wy) ∧ (∀ l, l < 8 → s_X4_keep z wy 22 2 l = z 22 1 l) ∧ (∀ i, i ≠ 2 → s_X4_keep z wy 22 i = z 22 i) ∧ ∀ r, r ≠ 21 → r ≠ 22 → s_X4_keep z wy r = z r := by
  have key := it_indk (f := f_X4_keep_7 z wy) (a := k_d z 21 0 5 wy) (n := 8) (P := fun k y => y 21 0 5 = wy ∧ (∀ l, l < k → y 22 2 l = z 22 1 l) ∧ (∀ i, i ≠ 2 → y 22 i = z 22 i) ∧ ∀ r, r ≠ 21 → r ≠ 22 → y r = z r) ⟨k_ds, fun l hl => absurd hl (by omega), fun i hi => by rw [k_d_r _ (by decide)], fun r h1 h2 => k_d_r _ h1⟩ (fun k hk y => by
    rintro ⟨y1, y2, y3, y4⟩
    unfold f_X4_keep_7
    refine ⟨(k_dr rfl).trans y1, fun l hl => ?_, fun i hi => ?_, fun r h1 h2 => ?_⟩
    · by_cases hlk : l = k
      · rw [hlk, k_ds, y3 1 (by omega)]
      · rw [k_dn (by omega)]; exact y2 l (by omega)
    · rw [k_d_off _ _ (by omega)]; exact y3 i hi
    · rw [k_d_r _ h2]; exact y4 r h1 h2)
  exact key
theorem q_srch (h8 : nl ≤ 8) (hb : ∀ l, b l = -1 ∨ vp_in (b l) 4) (hB : ∀ v : Nat → Int32, (∀ l, v l = -1 ∨ vp_in (v l) 4) → q_wy B v nl ≤ 6000) (k : Nat) :
    ∀ (lo c f : Nat) (z : KD) (a : Int32 × (Nat → Int32)) (wy : Int32), lo + k = nl → k < f → q_Is nl o b B z → (∀ l, l < lo → z 22 1 l = q_P o b lo c l) → wy = nI (q_wy B (q_P o b lo c) lo) → q_Ra nl a z →
      q_Ra nl (itR (fun c a => q_stC (nI (q_wy B (q_P o b nl c) nl)) (q_P o b nl c) a) (q_Mx o lo k) (c * q_Mx o lo k) a) (s_search nl f z lo wy) ∧ q_Is nl o b B (s_search nl f z lo wy) ∧ ∀ l, l < lo → s_search nl f z lo wy 22 1 l = z 22 1 l := by
  have bd : ∀ lo c j, lo ≤ nl → q_wy B (q_P o b j c) lo ≤ 6000 := fun lo c j hl => by
    have h1 := q_wy_le B (q_P o b j c) lo (nl - lo)
    rw [show lo + (nl - lo) = nl by omega] at h1
    exact Nat.le_trans h1 (hB _ (fun l => q_P_in hb j c l))
  induction k with
  | zero =>
    intro lo c f z a wy hlo hf hI hp hwy hR
    obtain ⟨f, rfl⟩ : ∃ f', f = f' + 1 := ⟨f - 1, by omega⟩
    have e : lo = nl := by omega
    subst e
    obtain ⟨i1, i2, i3, L, iL, i4⟩ := hI
    obtain ⟨r1, r2⟩ := hR
    rw [s_search_s]
    show q_Ra lo (q_stC (nI (q_wy B (q_P o b lo (c * 1)) lo)) (q_P o b lo (c * 1)) a) _ ∧ _
    rw [Nat.mul_one, ← hwy]
    unfold q_stC
    rw [r1]
    by_cases c1 : wy < z 21 0 5
    · rw [if_pos c1, if_pos c1, if_pos (Nat.le_refl _)]
      obtain ⟨k1, k2, k3, k4⟩ := q_keep z wy
      refine ⟨⟨k1.symm, fun l hl => ?_⟩, ⟨fun l hl => ?_, fun l i hl hi => ?_, fun l hl ho => ?_, q_wy B (q_P o b lo c) lo, ?_, ?_⟩, fun l hl => ?_⟩
      · rw [k2 l (by omega)]; exact (hp l hl).symm
      · rw [k3 0 (by omega)]; exact i1 l hl
      · rw [k3 3 (by omega)]; exact i2 l i hl hi
      · rw [k3 1 (by omega)]; exact i3 l hl ho
      · have := bd lo c lo (Nat.le_refl _); omega
      · rw [k1]; exact hwy
      · rw [k3 1 (by omega)]
    · rw [if_neg c1, if_neg c1]
      exact ⟨⟨r1, r2⟩, ⟨i1, i2, i3, L, iL, i4⟩, fun _ _ => rfl⟩
  | succ k ih =>
    intro lo c f z a wy hlo hf hI hp hwy hR
    obtain ⟨f, rfl⟩ : ∃ f', f = f' + 1 := ⟨f - 1, by omega⟩
    have hI' := hI
    obtain ⟨i1, i2, i3, L, iL, i4⟩ := hI'
    have b0 := bd lo c lo (by omega)
    rw [s_search_s]
    by_cases c1 : wy < z 21 0 5
    · rw [if_pos c1, if_neg (by omega)]
      have hop : (s_X4_isOpenAt z (nI lo) = 0) ↔ o lo = false := by
        unfold s_X4_isOpenAt
        rw [if_neg (nI_pos (by omega)), if_neg (show ¬ nI lo ≥ 8 from fun q => absurd ((nI_leI (a := 8) (b := lo) (by omega) (by omega)).mp q) (by omega)), nI_clamp (by omega), ← i1 lo (by omega)]
        by_cases q : z 22 0 lo = 0
        · rw [if_pos q]; exact ⟨fun _ => q, fun _ => rfl⟩
        · rw [if_neg q]; exact ⟨fun h => absurd h (by decide), fun h => absurd h q⟩
      by_cases c2 : o lo = false
      · rw [if_pos (hop.mpr c2), q_Mx_s, if_neg (by rw [c2]; decide)]
        have hpre : ∀ l, l < lo + 1 → z 22 1 l = q_P o b (lo + 1) c l := fun l hl => by
          rw [q_P_s]
          by_cases hll : l = lo
          · rw [if_pos hll, hll, if_neg (by rw [c2]; decide)]; exact i3 lo (by omega) c2
          · rw [if_neg hll, if_neg (by rw [c2]; decide)]; exact hp l (by omega)
        have hw2 : wy + s_X4_waysToEarlier z lo = nI (q_wy B (q_P o b (lo + 1) c) (lo + 1)) := by
          rw [q_wte (by omega) i2 (v := q_P o b (lo + 1) c) (fun l hl => hpre l (by omega)) (fun l => q_P_in hb _ _ l), hwy, nI_add, q_wy_s]
          rw [q_wy_cg (B := B) (v := q_P o b lo c) (w := q_P o b (lo + 1) c) (fun l hl => by rw [← hp l hl, hpre l (by omega)])]
        obtain ⟨t1, t2, t3⟩ := ih (lo + 1) c f z a _ (by omega) (by omega) hI hpre hw2 hR
        exact ⟨t1, t2, fun l hl => t3 l (by omega)⟩
      · have c2' : o lo = true := by
          cases h : o lo
          · exact absurd h c2
          · rfl
        rw [if_neg (mt hop.mp c2), q_Mx_s, if_pos c2']
        have main := it_indk (f := f_search nl f lo wy) (a := z) (n := 4) (P := fun j y => q_Ra nl (itR (fun c a => q_stC (nI (q_wy B (q_P o b nl c) nl)) (q_P o b nl c) a) (j * q_Mx o (lo + 1) k) (c * 4 * q_Mx o (lo + 1) k) a) y ∧ q_Is nl o b B y ∧ ∀ l, l < lo → y 22 1 l = z 22 1 l) ⟨by rw [Nat.zero_mul]; exact hR, hI, fun _ _ => rfl⟩ (fun j hj y => by
          rintro ⟨y1, y2, y3⟩
          obtain ⟨u1, u2, u3, L', uL, u4⟩ := y2
          have g25 : ∀ i, i ≠ 1 → k_d y 22 1 lo (nI j) 22 i = y 22 i := fun i hi => k_d_off _ _ (by omega)
          have g21 : k_d y 22 1 lo (nI j) 21 = y 21 := k_d_r _ (by decide)
          have hpre : ∀ l, l < lo + 1 → k_d y 22 1 lo (nI j) 22 1 l = q_P o b (lo + 1) (c * 4 + j) l := fun l hl => by
            rw [q_P_s]
            by_cases hll : l = lo
            · rw [if_pos hll, hll, if_pos c2', k_ds, show (c * 4 + j) % 4 = j by omega]
            · rw [if_neg hll, if_pos c2', k_dn (by omega), y3 l (by omega), show (c * 4 + j) / 4 = c by omega]; exact hp l (by omega)
          have hI2 : q_Is nl o b B (k_d y 22 1 lo (nI j)) := by
            refine ⟨fun l hl => ?_, fun l i hl hi => ?_, fun l hl ho => ?_, L', uL, ?_⟩
            · rw [g25 0 (by omega)]; exact u1 l hl
            · rw [g25 3 (by omega)]; exact u2 l i hl hi
            · rw [k_dn (fun q => by rw [q.2.2, c2'] at ho; exact absurd ho (by decide))]; exact u3 l hl ho
            · rw [g21]; exact u4
          have hw2 : wy + s_X4_waysToEarlier (k_d y 22 1 lo (nI j)) lo = nI (q_wy B (q_P o b (lo + 1) (c * 4 + j)) (lo + 1)) := by
            rw [q_wte (by omega) hI2.2.1 (v := q_P o b (lo + 1) (c * 4 + j)) (fun l hl => hpre l (by omega)) (fun l => q_P_in hb _ _ l), hwy, nI_add, q_wy_s]
            rw [q_wy_cg (B := B) (v := q_P o b lo c) (w := q_P o b (lo + 1) (c * 4 + j)) (fun l hl => by rw [← hpre l (by omega), k_dn (by omega), y3 l hl]; exact (hp l hl).symm)]
          obtain ⟨t1, t2, t3⟩ := ih (lo + 1) (c * 4 + j) f (k_d y 22 1 lo (nI j)) _ _ (by omega) (by omega) hI2 hpre hw2 ⟨y1.1.trans (by rw [g21]), fun l hl => (y1.2 l hl).trans (by rw [g25 2 (by omega)])⟩
          refine ⟨?_, t2, fun l hl => ?_⟩
          · rw [show (j + 1) * q_Mx o (lo + 1) k = j * q_Mx o (lo + 1) k + q_Mx o (lo + 1) k from Nat.succ_mul _ _, itR_add, ← Nat.add_mul]
            exact t1
          · exact (t3 l (by omega)).trans (by rw [k_dn (by omega)]; exact y3 l hl))
        obtain ⟨m1, m2, m3⟩ := main
        refine ⟨?_, m2, m3⟩
        rw [← Nat.mul_assoc c 4]
        exact m1
    · rw [if_neg c1]
      refine ⟨?_, hI, fun _ _ => rfl⟩
      have hno : itR (fun c a => q_stC (nI (q_wy B (q_P o b nl c) nl)) (q_P o b nl c) a) (q_Mx o lo (k + 1)) (c * q_Mx o lo (k + 1)) a = a := by
        refine q_stC_no (W := fun c => nI (q_wy B (q_P o b nl c) nl)) (V := fun c => q_P o b nl c) _ _ a (fun j hj => ?_)
        show ¬ nI (q_wy B (q_P o b nl (c * q_Mx o lo (k + 1) + j)) nl) < a.1
        have e1 : q_wy B (q_P o b nl (c * q_Mx o lo (k + 1) + j)) lo = q_wy B (q_P o b lo c) lo := q_wy_cg (fun l hl => by
          have := q_P_pre o b (k + 1) lo c j hj l hl
          rw [hlo] at this
          exact this)
        have e2 := q_wy_le B (q_P o b nl (c * q_Mx o lo (k + 1) + j)) lo (k + 1)
        rw [hlo, e1] at e2
        have e3 := bd nl (c * q_Mx o lo (k + 1) + j) nl (Nat.le_refl _)
        rw [hR.1, i4, nI_ltI (by omega) (by omega)]
        rw [hwy, i4, nI_ltI (by omega) (by omega)] at c1
        omega
      rw [hno]
      exact hR
end
