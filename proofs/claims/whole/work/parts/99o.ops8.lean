section ref
variable {S : gS} {d : gD} {m : Nat} {s : Nat → Nat → Nat}
def obOk (s : Nat → Nat → Nat) (v : Int32) : Bool := cIn 8 (nI (s 3 0)) v || (decide (41 ≤ v) && decide (v ≤ 46))
theorem r_object_n (h : RI S d m s) (b : BI s) {v : Int32} {x : Int64} (hv : obOk s v = false ∨ s 18 0 = 32) : f_R_object S d m v x = some (-1, wI d m 0 0) := by
  have h2 := ri_w0 (v := 0) h
  have hO := b.objects
  simp only [f_R_object, f_R_object_J20, kd_t h.rs.1, lt_t, r_isClass h2, r_isBox, bd_t, b2_eq0, ri_18 h2, l32_e _ (show s 18 0 < 2 ^ 31 by omega)]
  unfold obOk at hv
  cases q1 : cIn 8 (nI (s 3 0)) v with
  | true =>
    rw [q1, Bool.true_or] at hv
    rw [if_neg (by decide), if_pos (by rcases hv with e | e; cases e; exact e)]
  | false =>
    rw [q1, Bool.false_or] at hv
    rw [if_pos rfl]
    by_cases q2 : (decide (41 ≤ v) && decide (v ≤ 46)) = false
    · rw [if_pos q2]
    · rw [if_neg q2, if_pos (by rcases hv with e | e; exact absurd e q2; exact e)]
def sOb (s : Nat → Nat → Nat) (t : Nat) : Nat → Nat → Nat := up2 (up2 s 19 (s 18 0) t) 18 0 (s 18 0 + 1)
def obV (v : Int32) (x : Int64) : Int64 := if (decide (41 ≤ v) && decide (v ≤ 46)) = false then x else fitV (v - 40) x
theorem r_object_y (h : RI S d m s) (b : BI s) {t : Nat} {x : Int64} (ht : obOk s (nI t) = true) (h32 : s 18 0 ≠ 32) : ∃ e, f_R_object S d m (nI t) x = some (nI (s 18 0), e) ∧ RI S e m (sOb s t) ∧ (∀ a j, dL e a j = if a = m + 16 ∧ j = s 18 0 then obV (nI t) x else dL d a j) ∧ ∀ a j, ¬ (m ≤ a ∧ a ≤ m + 35) → dI e a j = dI d a j := by
  have h2 := ri_w0 (v := 0) h
  have hO := b.objects
  have h19 := rw_19 h2 (s 18 0) t
  have hL := rx_L (a := m + 16) (p := s 18 0) (v := obV (nI t) x) h19
  have h18 := rw_18 hL (s 18 0 + 1)
  have e1 : up2 s 19 (s 18 0) t 18 0 = s 18 0 := if_neg (by omega)
  have g1 := ri_18 h19
  have g2 := ri_18 hL
  have g3 := ri_18 h18
  rw [e1] at g1 g2
  rw [up2_eq] at g3
  have t68 : f_R_object_J68 S m (wI (wI d m 0 0) (m + 15) (s 18 0) (nI t)) (some (m + 16)) (nI (s 18 0)) (obV (nI t) x) = some (nI (s 18 0), wI (wL (wI (wI d m 0 0) (m + 15) (s 18 0) (nI t)) (m + 16) (s 18 0) (obV (nI t) x)) m 18 (nI (s 18 0 + 1))) := by
    simp (disch := omega) only [f_R_object_J68, nn_t, lt_t, kd_t h2.rs.1, kd_t (rs_K20 h2.rs), rs_N20 h2.rs, gi_n, nI_clamp, g2, nI_1, g3, l1_s]
    rw [show s 18 0 + 1 - 1 = s 18 0 by omega]
  have t20 : f_R_object_J20 S m (wI d m 0 0) (nI t) x = some (nI (s 18 0), wI (wL (wI (wI d m 0 0) (m + 15) (s 18 0) (nI t)) (m + 16) (s 18 0) (obV (nI t) x)) m 18 (nI (s 18 0 + 1))) := by
    simp (disch := omega) only [f_R_object_J20, kd_t h2.rs.1, lt_t, ri_18 h2, l32_e, rs_P19 h2.rs, nn_t, kd_t (rs_K19 h2.rs), rs_N19 h2.rs, gi_n, nI_clamp, g1, rs_P20 h2.rs, r_isBox, bd_t, b2_eq0, r_fitted]
    rw [if_neg h32]
    unfold obV at t68 ⊢
    by_cases q : (decide (41 ≤ nI t) && decide (nI t ≤ 46)) = false
    · rw [if_pos q] at t68
      rw [if_pos q, if_pos q]
      exact t68
    · rw [if_neg q] at t68
      rw [if_neg q, if_neg q]
      exact t68
  refine ⟨_, ?_, h18, fun a j => ?_, fun a j n => ?_⟩
  · simp only [f_R_object, kd_t h.rs.1, lt_t, r_isClass h2, r_isBox, bd_t, b2_eq0]
    unfold obOk at ht
    cases q1 : cIn 8 (nI (s 3 0)) (nI t) with
    | true => rw [if_neg (by decide)]; exact t20
    | false =>
      rw [q1, Bool.false_or] at ht
      rw [if_pos rfl, if_neg (by rw [ht]; decide)]
      exact t20
  · rw [dL_wI, dL_wL]
    rfl
  · rw [dI_wI, if_neg (by omega), dI_wL, dI_wI, if_neg (by omega), dI_wI, if_neg (by omega)]
end ref
