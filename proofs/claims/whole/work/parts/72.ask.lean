/-! questions: what both answer -/
def q_qst {α : Type} (D E : KD) (nl nt ng : Nat) (code : Int32) (ans : α) (r : KD × α) : Prop := r.1 14 0 0 = code ∧ q_V D r.1 nl nt ng ∧ (code = 0 → r.2 = ans)
section
variable {D E : KD} {nl nt ng : Nat}
theorem q_askL (h : q_V D E nl nt ng) (lo : Int32) {ans v w : Int32} (hv : vp_in lo nl → v = ans) : q_qst D E nl nt ng (if lo < 0 ∨ nl ≤ lo.toNatClampNeg then 1 else 0) ans (if j_X7_noLorry_20 E lo = 0 then (k_d E 14 0 0 (j_X7_noLorry_20 E lo), v) else (k_d E 14 0 0 (j_X7_noLorry_20 E lo), w)) := by
  rw [q_noL h.wf]
  by_cases c : lo < 0 ∨ nl ≤ lo.toNatClampNeg
  · simp only [if_pos c]
    rw [if_neg (by decide : ¬ (1 : Int32) = 0)]
    exact ⟨(k_ds : k_d E 14 0 0 1 14 0 0 = 1), h.thr 1, fun q => absurd q (by decide)⟩
  · simp only [if_neg c, if_true]
    exact ⟨(k_ds : k_d E 14 0 0 0 14 0 0 = 0), h.thr 0, fun _ => hv (q_inOf c)⟩
theorem q_askT (h : q_V D E nl nt ng) (t : Int32) {ans v w : Int32} (hv : vp_in t nt → v = ans) : q_qst D E nl nt ng (if t < 0 ∨ nt ≤ t.toNatClampNeg then 1 else 0) ans (if j_X7_noTransfer_20 E t = 0 then (k_d E 14 0 0 (j_X7_noTransfer_20 E t), v) else (k_d E 14 0 0 (j_X7_noTransfer_20 E t), w)) := by
  rw [q_noT h.wf]
  by_cases c : t < 0 ∨ nt ≤ t.toNatClampNeg
  · simp only [if_pos c]
    rw [if_neg (by decide : ¬ (1 : Int32) = 0)]
    exact ⟨(k_ds : k_d E 14 0 0 1 14 0 0 = 1), h.thr 1, fun q => absurd q (by decide)⟩
  · simp only [if_neg c, if_true]
    exact ⟨(k_ds : k_d E 14 0 0 0 14 0 0 = 0), h.thr 0, fun _ => hv (q_inOf c)⟩
theorem q_aState (h : q_V D E nl nt ng) (lo : Int32) : q_qst D E nl nt ng (s_x_stateOf D nl nt ng lo) (D 4 lo.toNatClampNeg 5) (s_X7_stateOf E nl nt ng lo) := q_askL h lo (fun q => (h.C.l5 q.lt).symm)
theorem q_aWaited (h : q_V D E nl nt ng) (lo : Int32) : q_qst D E nl nt ng (s_x_waited D nl nt ng lo) (D 4 lo.toNatClampNeg 8) (s_X7_waited E nl nt ng lo) := q_askL h lo (fun q => (h.C.l8 q.lt).symm)
theorem q_aOwn (h : q_V D E nl nt ng) (lo : Int32) : q_qst D E nl nt ng (s_x_ownMinutes D nl nt ng lo) (D 4 lo.toNatClampNeg 9) (s_X7_ownMinutes E nl nt ng lo) := q_askL h lo (fun q => (h.C.l9 q.lt).symm)
theorem q_aUnloaded (h : q_V D E nl nt ng) (t : Int32) : q_qst D E nl nt ng (s_x_unloaded D nl nt ng t) (D 5 t.toNatClampNeg 3) (s_X7_unloaded E nl nt ng t) := q_askT h t (fun q => (h.C.t3 q.lt).symm)
theorem q_aReady (h : q_V D E nl nt ng) (t : Int32) : q_qst D E nl nt ng (s_x_ready D nl nt ng t) (D 5 t.toNatClampNeg 4) (s_X7_ready E nl nt ng t) := q_askT h t (fun q => (h.C.t4 q.lt).symm)
theorem q_aLoaded (h : q_V D E nl nt ng) (t : Int32) : q_qst D E nl nt ng (s_x_loaded D nl nt ng t) (D 5 t.toNatClampNeg 5) (s_X7_loaded E nl nt ng t) := q_askT h t (fun q => (h.C.t5 q.lt).symm)
theorem q_aNow (h : q_V D E nl nt ng) : D 0 0 4 = s_X7_now E := h.C.now
theorem q_aLeftAt (h : q_V D E nl nt ng) (lo : Int32) : q_qst D E nl nt ng (s_x_leftAt D nl nt ng lo) (D 4 lo.toNatClampNeg 7) (s_X7_leftAt E nl nt ng lo) := by
  unfold s_x_leftAt s_X7_leftAt
  rw [q_noL h.wf]
  by_cases c : lo < 0 ∨ nl ≤ lo.toNatClampNeg
  · simp only [if_pos c]
    rw [if_neg (by decide : ¬ (1 : Int32) = 0)]
    exact ⟨(k_ds : k_d E 14 0 0 1 14 0 0 = 1), h.thr 1, fun q => absurd q (by decide)⟩
  · have hl := (q_inOf c).lt
    simp only [if_neg c, if_true]
    rw [h.C.l5 hl]
    by_cases c2 : E 15 11 lo.toNatClampNeg = 108
    · rw [if_pos c2, if_pos c2]
      exact ⟨(k_ds : k_d E 14 0 0 0 14 0 0 = 0), h.thr 0, fun _ => (h.C.l7 hl).symm⟩
    · rw [if_neg c2, if_neg c2]
      exact ⟨(k_ds : k_d (k_d E 14 0 0 0) 14 0 0 2 14 0 0 = 2), (h.thr 0).thr 2, fun q => absurd q (by decide)⟩
theorem q_aDebtor (h : q_V D E nl nt ng) (lo : Int32) : q_qst D E nl nt ng (s_x_debtor D nl nt ng lo) (D 4 lo.toNatClampNeg 12) (s_X7_debtor E nl nt ng lo) := by
  unfold s_x_debtor s_X7_debtor
  rw [q_noL h.wf]
  by_cases c : lo < 0 ∨ nl ≤ lo.toNatClampNeg
  · simp only [if_pos c]
    rw [if_neg (by decide : ¬ (1 : Int32) = 0)]
    exact ⟨(k_ds : k_d E 14 0 0 1 14 0 0 = 1), h.thr 1, fun q => absurd q (by decide)⟩
  · have hl := (q_inOf c).lt
    simp only [if_neg c, if_true]
    have bad : q_qst D E nl nt ng 2 (D 4 lo.toNatClampNeg 12) (k_d (k_d E 14 0 0 0) 14 0 0 2, (0 : Int32)) := ⟨(k_ds : k_d (k_d E 14 0 0 0) 14 0 0 2 14 0 0 = 2), (h.thr 0).thr 2, fun q => absurd q (by decide)⟩
    rcases h.2.2.2.2.2.2.2.2.2.1.1 _ hl with ⟨j1, ⟨j2, j3⟩, j4⟩ | ⟨j1, j2⟩
    · rw [j1, if_neg (by decide : ¬ (1 : Int32) = 0), if_neg j2, if_pos j3]
      exact ⟨(k_ds : k_d E 14 0 0 0 14 0 0 = 0), h.thr 0, fun _ => j4.symm⟩
    · rw [j1, if_pos rfl]
      by_cases c2 : E 14 0 4 = 0
      · rw [if_pos c2]; exact bad
      · rw [if_neg c2, if_neg (fun q => j2 ⟨c2, q⟩)]; exact bad
theorem q_reqD (d : Int32) : s_x_requireDoor d = 0 ∨ s_x_requireDoor d = 1 := by
  unfold s_x_requireDoor
  split
  · exact Or.inr rfl
  · exact Or.inl rfl
theorem q_aPower (h : q_V D E nl nt ng) (d : Int32) : q_qst D E nl nt ng (s_x_power D nl nt ng d) (s_X0_powerAt D nl nt ng d) (s_X7_power E nl nt ng d) := by
  unfold s_x_power s_X7_power
  rw [q_noD]
  rcases q_reqD d with e | e
  · rw [e, if_pos rfl, if_pos rfl]
    refine ⟨(k_ds : k_d E 14 0 0 0 14 0 0 = 0), h.thr 0, fun _ => ?_⟩
    have hV := h.thr 0
    exact (q_pow hV.C hV.2.2.2.2.2.1 hV.2.2.2.2.2.2.1 d).symm
  · rw [e, if_neg (by decide), if_neg (by decide)]
    exact ⟨(k_ds : k_d E 14 0 0 1 14 0 0 = 1), h.thr 1, fun q => absurd q (by decide)⟩
theorem q_aLorryAt (h : q_V D E nl nt ng) (d : Int32) : q_qst D E nl nt ng (s_x_lorryAt D nl nt ng d) (D 4 (s_X0_standingAt D d).toNatClampNeg 0) (s_X7_lorryAt E nl nt ng d) := by
  have h8 := h.wf.l8
  unfold s_x_lorryAt s_X7_lorryAt
  rw [q_noD]
  rcases q_reqD d with e | e
  · rw [if_pos e, if_pos e]
    obtain ⟨k, hk, rfl⟩ := vp_in_of (q_doorIn e) (by omega)
    have es : s_X0_standingAt D (nI k) = E 15 23 k := by
      unfold s_X0_standingAt
      rw [if_neg (nI_pos (by omega)), if_neg (show ¬ nI k ≥ 4 from fun q => absurd ((nI_leI (a := 4) (b := k) (by omega) (by omega)).mp q) (by omega)), nI_clamp (by omega), h.d k hk]
      split
      · next q => exact q.symm
      · rfl
    rw [es, nI_clamp (by omega)]
    by_cases c : E 15 23 k = -1
    · rw [if_pos c, if_pos c]
      exact ⟨(k_ds : k_d (k_d E 14 0 0 (s_x_requireDoor (nI k))) 14 0 0 2 14 0 0 = 2), (h.thr _).thr 2, fun q => absurd q (by decide)⟩
    · rw [if_neg c, if_neg c]
      have hv := (h.wf.ind hk c).1
      refine ⟨(k_ds : k_d E 14 0 0 (s_x_requireDoor (nI k)) 14 0 0 = s_x_requireDoor (nI k)).trans e, h.thr _, fun _ => ?_⟩
      show E 15 23 k = D 4 (E 15 23 k).toNatClampNeg 0
      rw [h.C.n hv.lt]
      exact hv.eq (by omega)
  · rw [if_neg (by rw [e]; decide), if_neg (by rw [e]; decide), e]
    exact ⟨(k_ds : k_d E 14 0 0 1 14 0 0 = 1), h.thr 1, fun q => absurd q (by decide)⟩
end
