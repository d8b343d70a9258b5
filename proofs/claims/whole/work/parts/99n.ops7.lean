def fitV (p : Int32) (v : Int64) : Int64 := if p = 1 then (if lg_cmp v 0 = 0 then 0 else 1) else if p = 2 then Int32.toInt64 ((Int32.toInt8 (Int64.toInt32 v)).toInt32) else if p = 3 then Int32.toInt64 ((Int32.toUInt32 (Int64.toInt32 v) % 65536).toInt32) else if p = 4 then Int32.toInt64 ((Int32.toInt16 (Int64.toInt32 v)).toInt32) else if p = 5 then Int32.toInt64 (Int64.toInt32 v) else v
section ref
variable {S : gS} {d : gD} {m : Nat} {s : Nat → Nat → Nat}
theorem r_fitted (p : Int32) (v : Int64) : f_R_fitted S d p v = some (fitV p v) := by
  unfold f_R_fitted fitV
  repeat' split
  all_goals rfl
theorem r_value_n (h : RI S d m s) {v1 v2 : Int32} (hv : v1 < 0 ∨ nI (s 18 0) ≤ v1 ∨ v2 < 0 ∨ 1 < v2) : f_R_value S d m v1 v2 = some (-1, wI d m 0 0) := by
  have h2 := ri_w0 (v := 0) h
  simp only [f_R_value, kd_t h.rs.1, lt_t, ri_18 h2]
  by_cases q1 : v1 < 0
  · rw [if_pos q1]
  · rw [if_neg q1]
    by_cases q2 : nI (s 18 0) ≤ v1
    · rw [if_pos q2]
    · rw [if_neg q2]
      by_cases q3 : v2 < 0
      · rw [if_pos q3]
      · rw [if_neg q3, if_neg]
        rcases hv with e | e | e | e
        · exact absurd e q1
        · exact absurd e q2
        · exact absurd e q3
        · exact Int32.not_le.mpr e
theorem r_value_0 (h : RI S d m s) (b : BI s) {j : Nat} (hj : j < s 18 0) : f_R_value S d m (nI j) 0 = some (Int32.toInt64 (nI (s 19 j)), wI d m 0 0) := by
  have h2 := ri_w0 (v := 0) h
  have hO := b.objects
  simp (maxSteps := 1000000) (disch := omega) only [f_R_value, kd_t h2.rs.1, rs_P19 h2.rs, kd_t (rs_K19 h2.rs), rs_N19 h2.rs, ri_19 h2, rs_P20 h2.rs, kd_t (rs_K20 h2.rs), rs_N20 h2.rs, ri_18 h2, l0_e, l0_le, l0_ge, l0_lt, l0_gt, l1_m, l1_a, l1_b, l1_s, l1_e, l1_le, l1_ge, l1_lt, l1_gt, lt_t, nn_t, bd_t, bdD_t, bdP_t, nI_clamp, gi_n, nI_add, nI_1, pk_mul, b2_eq0, b2_01, nb_t, if_true, if_false, ni_le, ni_eq, ni_lt]
  rw [if_neg (by omega), if_neg (by omega), if_neg (by decide), if_pos (by decide)]
theorem r_value_1 (h : RI S d m s) (b : BI s) {j : Nat} (hj : j < s 18 0) : f_R_value S d m (nI j) 1 = some (dL d (m + 16) j, wI d m 0 0) := by
  have h2 := ri_w0 (v := 0) h
  have hO := b.objects
  simp (maxSteps := 1000000) (disch := omega) only [f_R_value, kd_t h2.rs.1, rs_P19 h2.rs, kd_t (rs_K19 h2.rs), rs_N19 h2.rs, ri_19 h2, rs_P20 h2.rs, kd_t (rs_K20 h2.rs), rs_N20 h2.rs, ri_18 h2, l0_e, l0_le, l0_ge, l0_lt, l0_gt, l1_m, l1_a, l1_b, l1_s, l1_e, l1_le, l1_ge, l1_lt, l1_gt, lt_t, nn_t, bd_t, bdD_t, bdP_t, nI_clamp, gi_n, nI_add, nI_1, pk_mul, b2_eq0, b2_01, nb_t, if_true, if_false, ni_le, ni_eq, ni_lt]
  rw [if_neg (by omega), if_neg (by omega), if_neg (by decide), if_pos (by decide), if_neg (by decide)]
  rfl
theorem r_outcome (h : RI S d m s) : f_R_outcome S d m = some (dL d m 43, wI d m 0 0) := by
  simp only [f_R_outcome, kd_t h.rs.1, lt_t]
  rfl
end ref
