section ref
variable {S : gS} {d : gD} {m : Nat} {s : Nat → Nat → Nat}
theorem r_about_n (h : RI S d m s) {v1 v2 : Int32} (hv : cIn 0 (nI (s 21 0)) v1 = false ∨ (v2 ≠ 0 ∧ v2 ≠ 1 ∧ v2 ≠ 2 ∧ v2 ≠ 3 ∧ v2 ≠ 4)) : f_R_about S d m v1 v2 = some (-1, wI d m 0 0) := by
  have h2 := ri_w0 (v := 0) h
  simp only [f_R_about, kd_t h.rs.1, lt_t, r_isStand h2, bd_t, b2_eq0]
  by_cases q1 : cIn 0 (nI (s 21 0)) v1 = false
  · rw [if_pos q1]
  · rcases hv with e | ⟨e0, e1, e2, e3, e4⟩
    · exact absurd e q1
    · rw [if_neg q1, if_neg e0, if_neg e1, if_neg e4, if_neg e2, if_neg e3]
theorem c0_of (b : BI s) {c : Nat} (hc : c < s 21 0) : cIn 0 (nI (s 21 0)) (nI c) = true := by
  have hS := b.stands
  rw [show (0 : Int32) = nI 0 from rfl, cIn_nI (by omega) (by omega) (by omega), decide_eq_true (by omega), decide_eq_true hc]; rfl
theorem r_about_0 (h : RI S d m s) (b : BI s) {c : Nat} (hc : c < s 21 0) : f_R_about S d m (nI c) 0 = some (nI (s 24 c), wI d m 0 0) ∧ f_R_about S d m (nI c) 1 = some (nI (s 25 c), wI d m 0 0) ∧ f_R_about S d m (nI c) 4 = some (nI (s 22 c), wI d m 0 0) := by
  have h2 := ri_w0 (v := 0) h
  have hS := b.stands
  have c0 := c0_of b hc
  refine ⟨?_, ?_, ?_⟩
  · simp (maxSteps := 1000000) (disch := omega) only [f_R_about, kd_t h2.rs.1, rs_P22 h2.rs, kd_t (rs_K22 h2.rs), rs_N22 h2.rs, ri_22 h2, rs_P24 h2.rs, kd_t (rs_K24 h2.rs), rs_N24 h2.rs, ri_24 h2, rs_P25 h2.rs, kd_t (rs_K25 h2.rs), rs_N25 h2.rs, ri_25 h2, l0_e, l0_le, l0_ge, l0_lt, l0_gt, l1_m, l1_a, l1_b, l1_s, l1_e, l1_le, l1_ge, l1_lt, l1_gt, l2_m, l2_a, l2_b, l2_s, l2_e, l2_le, l2_ge, l2_lt, l2_gt, l3_m, l3_a, l3_b, l3_s, l3_e, l3_le, l3_ge, l3_lt, l3_gt, l4_m, l4_a, l4_b, l4_s, l4_e, l4_le, l4_ge, l4_lt, l4_gt, lt_t, nn_t, bd_t, bdD_t, bdP_t, nI_clamp, gi_n, nI_add, nI_1, pk_mul, b2_eq0, b2_01, nb_t, if_true, if_false, ni_le, ni_eq, ni_lt, r_isStand h2, c0]
    rw [if_neg (by decide)]
  · simp (maxSteps := 1000000) (disch := omega) only [f_R_about, kd_t h2.rs.1, rs_P22 h2.rs, kd_t (rs_K22 h2.rs), rs_N22 h2.rs, ri_22 h2, rs_P24 h2.rs, kd_t (rs_K24 h2.rs), rs_N24 h2.rs, ri_24 h2, rs_P25 h2.rs, kd_t (rs_K25 h2.rs), rs_N25 h2.rs, ri_25 h2, l0_e, l0_le, l0_ge, l0_lt, l0_gt, l1_m, l1_a, l1_b, l1_s, l1_e, l1_le, l1_ge, l1_lt, l1_gt, l2_m, l2_a, l2_b, l2_s, l2_e, l2_le, l2_ge, l2_lt, l2_gt, l3_m, l3_a, l3_b, l3_s, l3_e, l3_le, l3_ge, l3_lt, l3_gt, l4_m, l4_a, l4_b, l4_s, l4_e, l4_le, l4_ge, l4_lt, l4_gt, lt_t, nn_t, bd_t, bdD_t, bdP_t, nI_clamp, gi_n, nI_add, nI_1, pk_mul, b2_eq0, b2_01, nb_t, if_true, if_false, ni_le, ni_eq, ni_lt, r_isStand h2, c0]
    rw [if_neg (by decide), if_neg (by decide)]
  · simp (maxSteps := 1000000) (disch := omega) only [f_R_about, kd_t h2.rs.1, rs_P22 h2.rs, kd_t (rs_K22 h2.rs), rs_N22 h2.rs, ri_22 h2, rs_P24 h2.rs, kd_t (rs_K24 h2.rs), rs_N24 h2.rs, ri_24 h2, rs_P25 h2.rs, kd_t (rs_K25 h2.rs), rs_N25 h2.rs, ri_25 h2, l0_e, l0_le, l0_ge, l0_lt, l0_gt, l1_m, l1_a, l1_b, l1_s, l1_e, l1_le, l1_ge, l1_lt, l1_gt, l2_m, l2_a, l2_b, l2_s, l2_e, l2_le, l2_ge, l2_lt, l2_gt, l3_m, l3_a, l3_b, l3_s, l3_e, l3_le, l3_ge, l3_lt, l3_gt, l4_m, l4_a, l4_b, l4_s, l4_e, l4_le, l4_ge, l4_lt, l4_gt, lt_t, nn_t, bd_t, bdD_t, bdP_t, nI_clamp, gi_n, nI_add, nI_1, pk_mul, b2_eq0, b2_01, nb_t, if_true, if_false, ni_le, ni_eq, ni_lt, r_isStand h2, c0]
    rw [if_neg (by decide), if_neg (by decide), if_neg (by decide)]
theorem r_about_u (h : RI S d m s) (b : BI s) {c : Nat} (hc : c < s 21 0) (ho : okL s (nI (s 23 c))) (h40 : (dsc s (nI (s 23 c))).length ≤ 40) : (∃ e, f_R_about S d m (nI c) 2 = some (nI (dsc s (nI (s 23 c))).length, e) ∧ Ch (PU m) (wI d m 0 0) e) ∧ ∃ e, f_R_about S d m (nI c) 3 = some (nI (uBy (run ([], []) (uT s c))).length, e) ∧ Ch (PU m) (wI d m 0 0) e := by
  have h2 := ri_w0 (v := 0) h
  have hS := b.stands
  have c0 := c0_of b hc
  obtain ⟨e, q1, c1, f1, w1, p1⟩ := r_unit h2 b (show c < 16 by omega) ho h40
  have i1 := ri_PU h2 c1
  refine ⟨⟨e, ?_, c1⟩, ⟨e, ?_, c1⟩⟩
  · simp only [f_R_about, f_R_about_J62, kd_t h.rs.1, lt_t, r_isStand h2, bd_t, b2_eq0, c0, q1, bdD_t, f1.1]
    simp
  · simp only [f_R_about, f_R_about_J62, kd_t h.rs.1, lt_t, r_isStand h2, bd_t, b2_eq0, c0, q1, bdD_t, r_poolBytes i1 w1 p1, w1.1, l3_b, nI_add]
    simp [uBy_len]
end ref
