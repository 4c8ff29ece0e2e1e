/-! a lorry's units are handled: unload, load -/
def q_fA (E z : KD) : Prop := z 14 = E 14 ∧ ∀ j, j ≠ 1 → ¬ (15 ≤ j ∧ j ≤ 18) → z 15 j = E 15 j
def q_fC (D a : KD) : Prop := ∀ r, r ≠ 5 → r ≠ 8 → a r = D r
section
variable {D E : KD} {nl nt ng : Nat}
theorem q_far {x y : Int32} (hx : vp_in x 4) (hy : y = -1 ∨ vp_in y 4) : ∃ e, e < 4 ∧ s_X6_difference x y = nI e ∧ (if (if y = -1 then 0 else x - y) ≥ 0 then (if y = -1 then 0 else x - y) else -(if y = -1 then 0 else x - y)) = nI e := by
  have key : ∀ p, p < 4 → ∀ q, q < 4 → s_X6_difference (nI p) (nI q) = nI (if p ≤ q then q - p else p - q) ∧ (if (nI p - nI q) ≥ 0 then (nI p - nI q) else -(nI p - nI q)) = nI (if p ≤ q then q - p else p - q) := by decide +kernel
  obtain ⟨p, hp, rfl⟩ := vp_in_of hx (by omega)
  rcases hy with rfl | hy
  · refine ⟨0, by omega, ?_, ?_⟩
    · unfold s_X6_difference
      rw [if_neg (nI_nm1 (by omega)), if_pos rfl]; first | done | rfl
    · rw [if_pos rfl, if_pos (by decide)]; first | done | rfl
  · obtain ⟨q, hq, rfl⟩ := vp_in_of hy (by omega)
    obtain ⟨k1, k2⟩ := key p hp q hq
    refine ⟨if p ≤ q then q - p else p - q, by split <;> omega, k1, ?_⟩
    rw [if_neg (nI_nm1 (by omega))]
    exact k2
theorem mWF.cp {E z : KD} (h : mWF E nl nt ng) (h14 : z 14 = E 14) (h4 : z 15 4 = E 15 4) (h11 : z 15 11 = E 15 11) (h12 : z 15 12 = E 15 12) (h13 : z 15 13 = E 15 13) (h23 : z 15 23 = E 15 23) : mWF z nl nt ng := by
  unfold mWF at h ⊢
  rw [h14, h4, h11, h12, h13, h23]
  exact h
theorem q_K.cp {E z : KD} (h : q_K E nt) (h0 : z 15 0 = E 15 0) (h12 : z 15 12 = E 15 12) (h13 : z 15 13 = E 15 13) : q_K z nt := by
  unfold q_K at h ⊢
  rw [h0, h12, h13]
  exact h
theorem q_G.cp {E z : KD} (h : q_G E ng) (h19 : z 15 19 = E 15 19) (h21 : z 15 21 = E 15 21) : q_G z ng := by
  unfold q_G at h ⊢
  rw [h19, h21]
  exact h
theorem q_m.cp {E z : KD} (h : q_m E) (h14 : z 14 = E 14) : q_m z := by
  unfold q_m at h ⊢
  rw [h14]
  exact h
theorem q_U.cp {E z : KD} (h : q_U E nt) (h14 : z 15 14 = E 15 14) (h15 : z 15 15 = E 15 15) (h16 : z 15 16 = E 15 16) (h17 : z 15 17 = E 15 17) (h18 : z 15 18 = E 15 18) : q_U z nt := by
  unfold q_U q_T1 at h ⊢
  rw [h14, h15, h16, h17, h18]
  exact h
theorem q_fA.rfl9 (E : KD) : q_fA E E := ⟨rfl, fun _ _ _ => rfl⟩
theorem q_fA.put {E z : KD} (h : q_fA E z) {j i : Nat} {x : Int32} (hj : j = 1 ∨ (15 ≤ j ∧ j ≤ 18)) : q_fA E (k_d z 15 j i x) := by
  refine ⟨?_, fun j' h1 h2 => ?_⟩
  · rw [← h.1]; funext i' k'; exact k_dr rfl
  · rw [← h.2 j' h1 h2]
    exact k_d_off z x (fun q => by omega)
theorem q_fC.rfl9 (D : KD) : q_fC D D := fun _ _ _ => rfl
theorem q_fC.put {D a : KD} (h : q_fC D a) {r i k : Nat} {x : Int32} (hr : r = 5 ∨ r = 8) : q_fC D (k_d a r i k x) := by
  intro r' h1 h2
  rw [← h r' h1 h2]
  funext i' k'
  exact k_dn (by omega)
theorem q_fA.wf (h : mWF E nl nt ng) {z : KD} (f : q_fA E z) : mWF z nl nt ng := h.cp f.1 (f.2 4 (by omega) (by omega)) (f.2 11 (by omega) (by omega)) (f.2 12 (by omega) (by omega)) (f.2 13 (by omega) (by omega)) (f.2 23 (by omega) (by omega))
theorem q_fA.K (h : q_K E nt) {z : KD} (f : q_fA E z) : q_K z nt := h.cp (f.2 0 (by omega) (by omega)) (f.2 12 (by omega) (by omega)) (f.2 13 (by omega) (by omega))
/-- the units of one transfer change, those of the others stay -/
theorem q_U.one {z z' : KD} (hu : q_U z nt) {t : Nat} (h14 : z' 15 14 = z 15 14) (ho : ∀ t', t' ≠ t → z' 15 15 t' = z 15 15 t' ∧ z' 15 16 t' = z 15 16 t' ∧ z' 15 17 t' = z 15 17 t' ∧ ∀ k, k < 4 → z' 15 18 (4 * t' + k) = z 15 18 (4 * t' + k)) (hm : ∃ U r c s, q_T1 z' t U r c s) : q_U z' nt := by
  intro t' ht'
  by_cases hc : t' = t
  · rw [hc]; exact hm
  · obtain ⟨U, r, c, s, u1, u2, u3, e1, e2, e3, e4, e5⟩ := hu t' ht'
    obtain ⟨o1, o2, o3, o4⟩ := ho t' hc
    refine ⟨U, r, c, s, u1, u2, u3, ?_, ?_, ?_, ?_, fun k hk => ?_⟩
    · rw [h14]; exact e1
    · rw [o1]; exact e2
    · rw [o2]; exact e3
    · rw [o3]; exact e4
    · rw [o4 k hk]; exact e5 k hk
/-- beyond the transfers nothing is written -/
def q_fT (nt : Nat) (E z : KD) : Prop := (∀ j, 15 ≤ j → j ≤ 17 → ∀ i, nt ≤ i → z 15 j i = E 15 j i) ∧ ∀ i, 4 * nt ≤ i → z 15 18 i = E 15 18 i
theorem q_fT.rfl9 (nt : Nat) (E : KD) : q_fT nt E E := ⟨fun _ _ _ _ _ => rfl, fun _ _ => rfl⟩
theorem q_fT.put {nt : Nat} {E z : KD} (h : q_fT nt E z) {j i : Nat} {x : Int32} (hj : j < 15 ∨ 18 < j ∨ (j < 18 ∧ i < nt) ∨ (j = 18 ∧ i < 4 * nt)) : q_fT nt E (k_d z 15 j i x) := by
  refine ⟨fun j' h1 h2 i' h3 => ?_, fun i' h3 => ?_⟩
  · rw [← h.1 j' h1 h2 i' h3]; exact k_dn (by omega)
  · rw [← h.2 i' h3]; exact k_dn (by omega)
theorem q_fT.put14 {nt : Nat} {E z : KD} (h : q_fT nt E z) {j i : Nat} {x : Int32} : q_fT nt E (k_d z 14 j i x) := ⟨fun j' h1 h2 i' h3 => (k_dr rfl).trans (h.1 j' h1 h2 i' h3), fun i' h3 => (k_dr rfl).trans (h.2 i' h3)⟩
theorem q_fT.tr {nt : Nat} {E z y : KD} (h : q_fT nt E z) (h2 : q_fT nt z y) : q_fT nt E y := ⟨fun j' a b i' c => (h2.1 j' a b i' c).trans (h.1 j' a b i' c), fun i' c => (h2.2 i' c).trans (h.2 i' c)⟩
/-- what one step keeps -/
def q_I (D E : KD) (nl nt ng : Nat) (a z : KD) : Prop := q_C a z nl nt ng ∧ q_U z nt ∧ q_fA E z ∧ q_fC D a ∧ q_fT nt E z
def q_stp (a0 : KD) (k i : Nat) (a1 : Int32) : KD × Int32 := if s_X5_isOf a0 k i = 0 then (a0, 0) else if a0 4 i 1 = 0 then s_X5_load a0 k a1 else s_X5_unload a0 k a1
theorem q_ltI {a b : Nat} (ha : a < 2 ^ 31) (hb : b < 2 ^ 31) : (nI a < nI b) = (a < b) := propext (nI_ltI ha hb)
theorem q_leI {a b : Nat} (ha : a < 2 ^ 31) (hb : b < 2 ^ 31) : (nI a ≤ nI b) = (a ≤ b) := propext (nI_leI ha hb)
theorem q_eqI {a b : Nat} (ha : a < 2 ^ 31) (hb : b < 2 ^ 31) : (nI a = nI b) = (a = b) := propext (nI_eq ha hb)
theorem q_iflt {α : Type} {x y : α} {a b : Nat} (ha : a < 2 ^ 31) (hb : b < 2 ^ 31) : (if nI a < nI b then x else y) = if a < b then x else y := by
  by_cases h : a < b
  · rw [if_pos h, if_pos ((nI_ltI ha hb).mpr h)]
  · rw [if_neg h, if_neg (mt (nI_ltI ha hb).mp h)]
theorem q_ifge {α : Type} {x y : α} {a b : Nat} (ha : a < 2 ^ 31) (hb : b < 2 ^ 31) : (if nI a ≥ nI b then x else y) = if b ≤ a then x else y := by
  by_cases h : b ≤ a
  · rw [if_pos h, if_pos ((nI_leI hb ha).mpr h)]
  · rw [if_neg h, if_neg (mt (nI_leI hb ha).mp h)]
theorem q_unl (hw0 : mWF E nl nt ng) (hK0 : q_K E nt) {i : Nat} (hi : i < nl) (hb : E 15 0 i ≠ 0) (hd : E 15 4 i ≠ -1) (E1 : KD) (pw : Int32) {a0 : KD} {z : KD × Int32} (hI : q_I D E nl nt ng a0 z.1) {k a : Nat} (hk : k < nt) (ha : z.2 = nI a) (h0 : 0 < a) (h36 : a ≤ 36) :
    ∃ b, b ≤ a ∧ q_I D E nl nt ng (q_stp a0 k i z.2).1 (f_X7_unload_5 E1 nl nt ng (nI i) pw k z).1 ∧ z.2 - (q_stp a0 k i z.2).2 = nI (a - b) ∧ (f_X7_unload_5 E1 nl nt ng (nI i) pw k z).2 = nI (a - b) ∧ (f_X7_unload_5 E1 nl nt ng (nI i) pw k z).1 15 1 = (if b = 0 then z.1 15 1 else upd (z.1 15 1) i 1) := by
  obtain ⟨hC, hU, hA, hF, hT⟩ := hI
  have hw := hA.wf hw0
  have hK := hA.K hK0
  have h8 := hw.l8
  have h16 := hw.t16
  have er0 : z.1 15 0 = E 15 0 := hA.2 0 (by omega) (by omega)
  have er4 : z.1 15 4 = E 15 4 := hA.2 4 (by omega) (by omega)
  have hb' : z.1 15 0 i ≠ 0 := by rw [er0]; exact hb
  have hd' : z.1 15 4 i ≠ -1 := by rw [er4]; exact hd
  obtain ⟨k1, k2⟩ := hK k hk
  have b1 := q_inI (i := i) (hw.frl hk) (by omega) (by omega)
  have hbr : ¬ a0 4 i 1 = 0 := by rw [hC.l1 hi]; exact hb'
  have c2 : ¬ (z.1 15 13 k).toNatClampNeg = i := fun q => hb' (by rw [← q]; exact k2)
  by_cases c1 : (z.1 15 12 k).toNatClampNeg = i
  · have e1 := b1.mpr c1
    have hof : ¬ s_X5_isOf a0 k i = 0 := by
      unfold s_X5_isOf
      rw [hC.t0 hk, if_pos c1]; decide
    have es : q_stp a0 k i z.2 = s_X5_unload a0 k z.2 := by unfold q_stp; rw [if_neg hof, if_neg hbr]
    obtain ⟨U, r, c, s, u1, u2, u3, v1, v2, v3, v4, v5⟩ := hU k hk
    obtain ⟨e, he, f1, f2⟩ := q_far (hw.dr hi hd') (hw.drn (hw.tol hk))
    have f1' : s_X6_difference (a0 4 (a0 5 k 0).toNatClampNeg 4) (a0 4 (a0 5 k 1).toNatClampNeg 4) = nI e := by
      rw [hC.t0 hk, hC.t1 hk, c1, hC.l4 hi, hC.l4 (hw.tol hk).lt]; exact f1
    have f2' : j_X7_unload_163 E1 nl nt ng (nI i) pw k z = nI e := by
      unfold j_X7_unload_163 j_X7_unload_128
      rw [nI_clamp (by omega)]; exact f2
    have eu : s_X5_unload a0 k z.2 = (k_d (k_d a0 5 k 3 (a0 5 k 3 + nI (min (U - (r + c + (s 0 + s 1 + s 2 + s 3))) a))) 8 k e (a0 8 k e + nI (min (U - (r + c + (s 0 + s 1 + s 2 + s 3))) a)), nI (min (U - (r + c + (s 0 + s 1 + s 2 + s 3))) a)) := by
      unfold s_X5_unload
      rw [f1', if_neg (nI_pos (by omega)), if_pos (show nI e < 4 from (nI_ltI (b := 4) (by omega) (by omega)).mpr he), nI_clamp (by omega)]
      have em : (if a0 5 k 2 - a0 5 k 3 < z.2 then a0 5 k 2 - a0 5 k 3 else z.2) = nI (min (U - (r + c + (s 0 + s 1 + s 2 + s 3))) a) := by
        rw [hC.t2 hk, hC.t3 hk, v1, v2, ha, pk_sub u3, q_iflt (by omega) (by omega)]
        split <;> congr 1 <;> omega
      rw [em]
    rw [es, eu]
    by_cases cu : r + c + (s 0 + s 1 + s 2 + s 3) = U
    · have e0 : min (U - (r + c + (s 0 + s 1 + s 2 + s 3))) a = 0 := by omega
      have er : f_X7_unload_5 E1 nl nt ng (nI i) pw k z = (z.1, z.2) := by
        unfold f_X7_unload_5
        rw [if_pos e1, if_pos (by rw [v1, v2, cu])]
      rw [er, e0]
      refine ⟨0, by omega, ?_, ?_, ?_, ?_⟩
      · have q1 : a0 5 k 3 + nI 0 = a0 5 k 3 := Int32.add_zero _
        have q2 : a0 8 k e + nI 0 = a0 8 k e := Int32.add_zero _
        dsimp only
        rw [q1, q2, k_d_id, k_d_id]
        exact ⟨hC, hU, hA, hF, hT⟩
      · rw [ha]; exact pk_sub (by omega)
      · exact ha
      · rw [if_pos rfl]
    · have hb0 : 1 ≤ min (U - (r + c + (s 0 + s 1 + s 2 + s 3))) a := by omega
      have em : j_X7_unload_87 E1 nl nt ng (nI i) pw k z = nI (min (U - (r + c + (s 0 + s 1 + s 2 + s 3))) a) := by
        unfold j_X7_unload_87
        rw [v1, v2, ha, pk_sub u3, q_ifge (by omega) (by omega)]
        split <;> congr 1 <;> omega
      have ei : ((4 : Int32) * nI k + nI e).toNatClampNeg = 4 * k + e := by
        rw [show (4 : Int32) = nI 4 from rfl, pk_mul, nI_add, nI_clamp (by omega)]
      have er : f_X7_unload_5 E1 nl nt ng (nI i) pw k z = (k_d (k_d (k_d z.1 15 15 k (z.1 15 15 k + nI (min (U - (r + c + (s 0 + s 1 + s 2 + s 3))) a))) 15 18 (4 * k + e) (z.1 15 18 (4 * k + e) + nI (min (U - (r + c + (s 0 + s 1 + s 2 + s 3))) a))) 15 1 i 1, z.2 - nI (min (U - (r + c + (s 0 + s 1 + s 2 + s 3))) a)) := by
        unfold f_X7_unload_5
        rw [if_pos e1, if_neg (by rw [v1, v2, q_eqI (by omega) (by omega)]; exact cu), if_neg (by rw [ha]; exact nI_ne0 h0 (by omega)), em, f2', ei, nI_clamp (by omega)]
      rw [er]
      generalize hbb : min (U - (r + c + (s 0 + s 1 + s 2 + s 3))) a = b at *
      dsimp only
      refine ⟨b, by omega, ⟨?_, ?_, ?_, ?_, ?_⟩, ?_, ?_, ?_⟩
      · exact ((hC.putT (3, 15) (by decide) k (by rw [hC.t3 hk])).putS k e he (by rw [hC.s hk he])).offE (Or.inr ⟨rfl, Or.inl rfl⟩)
      · refine hU.one (t := k) ?_ (fun t' ht' => ⟨?_, ?_, ?_, fun k' hk' => ?_⟩) ⟨U, r, c, fun j => if j = e then s j + b else s j, u1, u2, ?_, ?_, ?_, ?_, ?_, fun k' hk' => ?_⟩
        · rw [k_d_off _ _ (by omega), k_d_off _ _ (by omega), k_d_off _ _ (by omega)]
        · rw [k_di rfl, k_di rfl, k_dn (by omega)]
        · rw [k_di rfl, k_di rfl, k_di rfl]
        · rw [k_di rfl, k_di rfl, k_di rfl]
        · rw [k_di rfl, k_dn (by omega), k_di rfl]
        · rcases (by omega : e = 0 ∨ e = 1 ∨ e = 2 ∨ e = 3) with rfl | rfl | rfl | rfl <;> simp <;> omega
        · rw [k_di rfl, k_di rfl, k_di rfl]; exact v1
        · rw [k_di rfl, k_di rfl, k_ds, v2, nI_add]
          congr 1
          rcases (by omega : e = 0 ∨ e = 1 ∨ e = 2 ∨ e = 3) with rfl | rfl | rfl | rfl <;> simp <;> omega
        · rw [k_di rfl, k_di rfl, k_di rfl]; exact v3
        · rw [k_di rfl, k_di rfl, k_di rfl]; exact v4
        · rw [k_di rfl]
          by_cases hke : k' = e
          · subst hke
            rw [k_ds, v5 k' hk', nI_add]
            simp
          · rw [k_dn (by omega), k_di rfl, v5 k' hk']
            simp [hke]
      · exact ((hA.put (Or.inr (by omega))).put (Or.inr (by omega))).put (Or.inl rfl)
      · exact (hF.put (Or.inl rfl)).put (Or.inr rfl)
      · exact ((hT.put (by omega)).put (by omega)).put (by omega)
      · rw [ha]; exact pk_sub (by omega)
      · rw [ha]; exact pk_sub (by omega)
      · rw [if_neg (by omega), k_d_row]
        congr 1
  · have hof : s_X5_isOf a0 k i = 0 := by
      unfold s_X5_isOf
      rw [hC.t0 hk, hC.t1 hk, if_neg c1, if_neg c2]
    have es : q_stp a0 k i z.2 = (a0, 0) := by unfold q_stp; rw [if_pos hof]
    have er : f_X7_unload_5 E1 nl nt ng (nI i) pw k z = (z.1, z.2) := by
      unfold f_X7_unload_5
      rw [if_neg (mt b1.mp c1)]
    rw [es, er]
    refine ⟨0, by omega, ⟨hC, hU, hA, hF, hT⟩, ?_, ?_, ?_⟩
    · rw [ha]; exact pk_sub (b := 0) (by omega)
    · exact ha
    · rw [if_pos rfl]
end
