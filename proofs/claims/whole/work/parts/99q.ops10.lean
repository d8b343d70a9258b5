section ref
variable {S : gS} {d : gD} {m : Nat} {s : Nat → Nat → Nat}
theorem r_seen_n (h : RI S d m s) {v : Int32} (hv : v < 0 ∨ 8 < v) : f_R_seen S d m v = some (-1, wI d m 0 0) := by
  simp only [f_R_seen, f_R_seen_J15, kd_t h.rs.1, lt_t]
  by_cases q1 : v < 0
  · rw [if_pos q1]
  · rw [if_neg q1, if_neg]
    rcases hv with e | e
    · exact absurd e q1
    · exact Int32.not_le.mpr e
theorem r_seen_y (h : RI S d m s) {j : Nat} (hj : j < 9) : f_R_seen S d m (nI j) = some (dL d (m + 33) j, wI d m 0 0) := by
  have h2 := ri_w0 (v := 0) h
  simp (maxSteps := 1000000) (disch := omega) only [f_R_seen, kd_t h2.rs.1, rs_P44 h2.rs, kd_t (rs_K44 h2.rs), rs_N44 h2.rs, l0_e, l0_le, l0_ge, l0_lt, l0_gt, l8_m, l8_a, l8_b, l8_s, l8_e, l8_le, l8_ge, l8_lt, l8_gt, lt_t, nn_t, bd_t, bdD_t, bdP_t, nI_clamp, gi_n, nI_add, nI_1, pk_mul, b2_eq0, b2_01, nb_t, if_true, if_false, ni_le, ni_eq, ni_lt]
  rw [if_neg (by omega), if_pos (by omega)]
  rfl
theorem uT_len (b : BI s) {c : Nat} (ho : okL s (nI (s 23 c))) (h40 : (dsc s (nI (s 23 c))).length ≤ 40) : (uT s c).length ≤ 3168 := by
  have hg : GF s (dsc s (nI (s 23 c))) := GF_dscK b ho _ (Nat.le_refl _)
  have hln := ln_le (nI (s 23 c))
  have hof := ord_full (s := s) (fl := dsc s (nI (s 23 c)))
  have hml : ∀ k, k ≤ (dsc s (nI (s 23 c))).length → (msT s (dsc s (nI (s 23 c))) (ord s (dsc s (nI (s 23 c)))) k).length ≤ 79 * k := by
    intro k
    induction k with
    | zero => intro _; exact Nat.le_refl _
    | succ k ih =>
      intro hk
      have i := ih (by omega)
      have hm := (hof.2 _).mp (getD_mem (l := ord s (dsc s (nI (s 23 c)))) (i := k) (by omega))
      have := mTF_len (s := s) (hg.2.1 _ hm).2
      unfold msT
      rw [List.length_append]
      omega
  have := hml _ (Nat.le_refl _)
  unfold uT
  simp only [List.length_append, List.length_cons, List.length_nil, lsT_len]
  omega
theorem r_octet_n (h : RI S d m s) {v1 v2 : Int32} (hv : cIn 0 (nI (s 21 0)) v1 = false ∨ v2 < 0) : f_R_octet S d m v1 v2 = some (-1, wI d m 0 0) := by
  have h2 := ri_w0 (v := 0) h
  simp only [f_R_octet, kd_t h.rs.1, lt_t, r_isStand h2, bd_t, b2_eq0]
  by_cases q1 : cIn 0 (nI (s 21 0)) v1 = false
  · rw [if_pos q1]
  · rw [if_neg q1, if_neg]
    rcases hv with e | e
    · exact absurd e q1
    · exact Int32.not_le.mpr e
theorem r_octet_y (h : RI S d m s) (b : BI s) {c i : Nat} (hc : c < s 21 0) (hi : i < 2 ^ 31) (ho : okL s (nI (s 23 c))) (h40 : (dsc s (nI (s 23 c))).length ≤ 40) : ∃ e, f_R_octet S d m (nI c) (nI i) = some (oB (uBy (run ([], []) (uT s c))) i, e) ∧ Ch (PU m) (wI d m 0 0) e := by
  have h2 := ri_w0 (v := 0) h
  have hS := b.stands
  obtain ⟨e, q1, c1, f1, w1, p1⟩ := r_unit h2 b (show c < 16 by omega) ho h40
  have i1 := ri_PU h2 c1
  have hul := uT_len b ho h40
  have c0 : cIn 0 (nI (s 21 0)) (nI c) = true := by
    rw [show (0 : Int32) = nI 0 from rfl, cIn_nI (by omega) (by omega) (by omega), decide_eq_true (by omega), decide_eq_true hc]; rfl
  have ub := r_unitByte i1 w1 p1 (by rw [run_len]; simp only [List.length_nil]; omega) hi
  refine ⟨e, ?_, c1⟩
  simp only [f_R_octet, kd_t h.rs.1, lt_t, r_isStand h2, bd_t, b2_eq0, c0, q1, bdD_t, ub]
  rw [if_neg (by decide), if_pos (nI_pos' hi)]
end ref
