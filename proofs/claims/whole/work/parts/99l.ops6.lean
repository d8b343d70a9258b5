section ref
variable {S : gS} {d : gD} {m : Nat} {s : Nat → Nat → Nat}
theorem bi_throwing (b : BI s) {x t : Nat} (ht1 : 8 ≤ t) (ht2 : t < s 3 0) (h16 : s 16 x ≠ 3) (hno : t ∉ thr s x) : BI (sTh s x t) := by
  have hC := b.classes
  have hlt := b.lt
  have hN := b.throwN x
  have e : ∀ k i, k ≠ 17 → k ≠ 16 → sTh s x t k i = s k i := fun k i n1 n2 => by unfold sTh; rw [up2_ne n2, up2_ne n1]
  have e16 : ∀ i, sTh s x t 16 i = if i = x then s 16 x + 1 else s 16 i := fun i => by
    unfold sTh
    by_cases q : i = x
    · rw [if_pos q, q, up2_eq]
    · rw [if_neg q, up2_nk q, up2_ne (by decide)]
  have e17 : ∀ i, sTh s x t 17 i = if i = 3 * x + s 16 x then t else s 17 i := fun i => by
    unfold sTh
    rw [up2_ne (by decide)]
    by_cases q : i = 3 * x + s 16 x
    · rw [if_pos q, q, up2_eq]
    · rw [if_neg q, up2_nk q]
  have e3 : sTh s x t 3 0 = s 3 0 := e 3 0 (by decide) (by decide)
  exact ⟨(fun k i => by
      by_cases q1 : k = 17
      · rw [q1, e17]; have := hlt 17 i; split <;> omega
      · by_cases q2 : k = 16
        · rw [q2, e16]; have := hlt 16 i; split <;> omega
        · rw [e k i q1 q2]; exact hlt k i), (by simp (disch := decide) only [e]; exact b.loaders), (by simp (disch := decide) only [e]; exact b.parentL), (by simp (disch := decide) only [e]; exact b.classes), (by simp (disch := decide) only [e]; exact b.parentC), (by simp (disch := decide) only [e]; exact b.faces), (by simp (disch := decide) only [e]; exact b.faceL), (by simp (disch := decide) only [e]; exact b.facePack), (by simp (disch := decide) only [e]; exact b.faceOpen), (by simp (disch := decide) only [e]; exact b.parentN), (by simp (disch := decide) only [e]; exact b.parentN0), (by simp (disch := decide) only [e]; exact b.parentF), (by simp (disch := decide) only [e]; exact b.ownN), (by simp (disch := decide) only [e]; exact b.ownN0), (fun i => by
      rw [e16]
      have := b.throwN i
      split <;> omega), (fun y i hi => by
      rw [e16] at hi
      rw [e17, e3]
      have hNy := b.throwN y
      by_cases r : y = x
      · subst r
        rw [if_pos rfl] at hi
        by_cases r2 : 3 * y + i = 3 * y + s 16 y
        · rw [if_pos r2]; exact ⟨ht1, ht2⟩
        · rw [if_neg r2]; exact b.throwT y i (by omega)
      · rw [if_neg r] at hi
        rw [if_neg (by omega)]
        exact b.throwT y i hi), (fun y i j hij hj => by
      rw [e16] at hj
      rw [e17, e17]
      have hNy := b.throwN y
      by_cases r : y = x
      · subst r
        rw [if_pos rfl] at hj
        rw [if_neg (by omega)]
        by_cases r2 : 3 * y + j = 3 * y + s 16 y
        · rw [if_pos r2]
          intro w
          apply hno
          rw [← w, ← thr_at s y i (by omega)]
          exact getD_mem (by rw [thr_len]; omega)
        · rw [if_neg r2]; exact b.throwD y i j hij (by omega)
      · rw [if_neg r] at hj
        rw [if_neg (by omega), if_neg (by omega)]
        exact b.throwD y i j hij hj), (by simp (disch := decide) only [e]; exact b.takeT), (by simp (disch := decide) only [e]; exact b.takeZ), (by simp (disch := decide) only [e]; exact b.resT), (by simp (disch := decide) only [e]; exact b.nameT), (by simp (disch := decide) only [e]; exact b.objects), (by simp (disch := decide) only [e]; exact b.stands)⟩
theorem r_throwing_n (h : RI S d m s) (b : BI s) {v1 v2 v3 : Int32} (no : ∀ f k t, ¬ thOk s v1 v2 v3 f k t) : f_R_throwing S d m v1 v2 v3 = some (0, wI d m 0 0) := by
  have h2 := ri_w0 (v := 0) h
  have hF := b.faces
  have hC := b.classes
  have hS := b.stands
  simp only [f_R_throwing, kd_t h.rs.1, lt_t, r_isFace h2, r_isClass h2, bd_t, b2_eq0, ri_21 h2, l0_le _ (show s 21 0 < 2 ^ 31 by omega)]
  by_cases q1 : cIn 24 (nI (24 + s 5 0)) v1 = false
  · rw [if_pos q1]
  · rw [if_neg q1]
    by_cases q2 : v2 < 0
    · rw [if_pos q2]
    · rw [if_neg q2]
      obtain ⟨a, ha1, ha2, rfl⟩ := cIn_of (lo := 24) (eq_true_of_ne_false q1) (by omega) (by omega)
      obtain ⟨f, rfl⟩ : ∃ f, a = 24 + f := ⟨a - 24, by omega⟩
      have s1 : nI (24 + f) - 24 = nI f := by rw [l24_s _ (by omega)]; congr 1; omega
      have hO := b.ownN f
      obtain ⟨k, hk, rfl⟩ := nI_of q2
      simp (disch := omega) only [s1, rs_P12 h2.rs, nn_t, kd_t (rs_K12 h2.rs), rs_N12 h2.rs, gi_n, nI_clamp, ri_12 h2, ni_le]
      by_cases q3 : s 12 f ≤ k
      · rw [if_pos q3]
      · rw [if_neg q3]
        by_cases q4 : cIn 8 (nI (s 3 0)) v3 = false
        · rw [if_pos q4]
        · rw [if_neg q4]
          by_cases q5 : s 21 0 ≤ 0
          · rw [if_pos q5]
            obtain ⟨t, ht1, ht2, rfl⟩ := cIn_of (lo := 8) (eq_true_of_ne_false q4) (by omega) (by omega)
            have hN := b.throwN (6 * f + k)
            rw [show (6 : Int32) * nI f + nI k = nI (6 * f + k) by rw [l6_m, nI_add], r_th_61 h2 b (by omega) (by omega)]
            by_cases q6 : t ∈ thr s (6 * f + k)
            · rw [if_pos q6]
            · rw [if_neg q6]
              have q7 : s 16 (6 * f + k) = 3 := by
                by_cases q : s 16 (6 * f + k) = 3
                · exact q
                · exact absurd ⟨rfl, rfl, rfl, by omega, by omega, ht1, ht2, by omega, q, q6⟩ (no f k t)
              simp (maxSteps := 1000000) (disch := omega) only [f_R_throwing_J97, kd_t h2.rs.1, rs_P16 h2.rs, kd_t (rs_K16 h2.rs), rs_N16 h2.rs, ri_16 h2, rs_P17 h2.rs, kd_t (rs_K17 h2.rs), rs_N17 h2.rs, ri_17 h2, l0_e, l0_le, l0_ge, l0_lt, l0_gt, l1_m, l1_a, l1_b, l1_s, l1_e, l1_le, l1_ge, l1_lt, l1_gt, l3_m, l3_a, l3_b, l3_s, l3_e, l3_le, l3_ge, l3_lt, l3_gt, lt_t, nn_t, bd_t, bdD_t, bdP_t, nI_clamp, gi_n, nI_add, nI_1, pk_mul, b2_eq0, b2_01, nb_t, if_true, if_false, ni_le, ni_eq, ni_lt]
              rw [if_pos q7]
          · rw [if_neg q5]
end ref
