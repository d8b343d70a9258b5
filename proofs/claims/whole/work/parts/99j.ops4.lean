theorem cIn_of {lo hi : Nat} {v : Int32} (h : cIn (nI lo) (nI hi) v = true) (h1 : hi < 2 ^ 31) (h2 : lo ≤ hi) : ∃ a, lo ≤ a ∧ a < hi ∧ v = nI a := by
  unfold cIn at h
  rw [Bool.and_eq_true, decide_eq_true_iff, decide_eq_true_iff] at h
  rcases pk_ix v (n := hi) h1 with q | q | ⟨a, ha, rfl⟩
  · exact absurd (Int32.lt_of_le_of_lt h.1 q) (nI_pos (by omega))
  · exact absurd h.2 (Int32.not_lt.mpr q)
  · refine ⟨a, ?_, ha, rfl⟩
    have := h.1
    rwa [nI_leI (by omega) (by omega)] at this
section ref
variable {S : gS} {d : gD} {m : Nat} {s : Nat → Nat → Nat}
def exOk (s : Nat → Nat → Nat) (v1 v2 : Int32) (f p : Nat) : Prop := v1 = nI (24 + f) ∧ v2 = nI (24 + p) ∧ p < f ∧ f < s 5 0 ∧ s 21 0 = 0 ∧ s 11 f ≠ 2 ∧ ¬ (s 11 f = 1 ∧ s 10 (2 * f) = p) ∧ vis s (s 6 f) p = true
def sEx (s : Nat → Nat → Nat) (f p : Nat) : Nat → Nat → Nat := up2 (up2 s 10 (2 * f + s 11 f) p) 11 f (s 11 f + 1)
theorem r_extend_y (h : RI S d m s) (b : BI s) {v1 v2 : Int32} {f p : Nat} (ok : exOk s v1 v2 f p) : ∃ e, f_R_extend S d m v1 v2 = some (1, e) ∧ RI S e m (sEx s f p) ∧ Ch (fun a _ => m ≤ a ∧ a ≤ m + 35) d e := by
  obtain ⟨rfl, rfl, hp, hf, h21, h11, hno, hvis⟩ := ok
  have h2 := ri_w0 (v := 0) h
  have hL := b.loaders
  have hF := b.faces
  have hS := b.stands
  have hN := b.parentN f
  have hb10 := b.lt 10 (2 * f)
  have h6l := b.faceL f hf
  have h10 := rw_10 h2 (2 * f + s 11 f) p
  have g11 : dI (wI (wI d m 0 0) (m + 7) (2 * f + s 11 f) (nI p)) (m + 8) f = nI (s 11 f) := by rw [dI_wI, if_neg (by omega)]; exact ri_11 h2 (by omega)
  have h11' := rw_11 h10 f (s 11 f + 1)
  have c1 : cIn 24 (nI (24 + s 5 0)) (nI (24 + f)) = true := by
    rw [show (24 : Int32) = nI 24 from rfl, cIn_nI (by omega) (by omega) (by omega), decide_eq_true (by omega), decide_eq_true (by omega)]; rfl
  have c2 : cIn 24 (nI (24 + s 5 0)) (nI (24 + p)) = true := by
    rw [show (24 : Int32) = nI 24 from rfl, cIn_nI (by omega) (by omega) (by omega), decide_eq_true (by omega), decide_eq_true (by omega)]; rfl
  have s1 : nI (24 + f) - 24 = nI f := by rw [l24_s _ (by omega)]; congr 1; omega
  have s2 : nI (24 + p) - 24 = nI p := by rw [l24_s _ (by omega)]; congr 1; omega
  have tl : f_R_extend_J79 S m (wI d m 0 0) (nI f) (nI p) = some (1, wI (wI (wI d m 0 0) (m + 7) (2 * f + s 11 f) (nI p)) (m + 8) f (nI (s 11 f + 1))) := by
    simp (maxSteps := 1000000) (disch := omega) only [f_R_extend_J79, kd_t h2.rs.1, rs_P6 h2.rs, kd_t (rs_K6 h2.rs), rs_N6 h2.rs, ri_6 h2, rs_P10 h2.rs, kd_t (rs_K10 h2.rs), rs_N10 h2.rs, ri_10 h2, rs_P11 h2.rs, kd_t (rs_K11 h2.rs), rs_N11 h2.rs, ri_11 h2, l0_e, l0_le, l0_ge, l0_lt, l0_gt, l1_m, l1_a, l1_b, l1_s, l1_e, l1_le, l1_ge, l1_lt, l1_gt, l2_m, l2_a, l2_b, l2_s, l2_e, l2_le, l2_ge, l2_lt, l2_gt, lt_t, nn_t, bd_t, bdD_t, bdP_t, nI_clamp, gi_n, nI_add, nI_1, pk_mul, b2_eq0, b2_01, nb_t, if_true, if_false, ni_le, ni_eq, ni_lt, r_visible h2 b (s 6 f) p h6l (show p < s 5 0 by omega), hvis, g11]
    rw [if_neg (by decide)]
  refine ⟨_, ?_, h11', ch_s (ch_s (ch_w ⟨by omega, by omega⟩) ⟨by omega, by omega⟩) ⟨by omega, by omega⟩⟩
  simp (maxSteps := 1000000) (disch := omega) only [f_R_extend, kd_t h2.rs.1, rs_P10 h2.rs, kd_t (rs_K10 h2.rs), rs_N10 h2.rs, ri_10 h2, rs_P11 h2.rs, kd_t (rs_K11 h2.rs), rs_N11 h2.rs, ri_11 h2, ri_21 h2, l0_e, l0_le, l0_ge, l0_lt, l0_gt, l1_m, l1_a, l1_b, l1_s, l1_e, l1_le, l1_ge, l1_lt, l1_gt, l2_m, l2_a, l2_b, l2_s, l2_e, l2_le, l2_ge, l2_lt, l2_gt, l24_m, l24_a, l24_b, l24_s, l24_e, l24_le, l24_ge, l24_lt, l24_gt, lt_t, nn_t, bd_t, bdD_t, bdP_t, nI_clamp, gi_n, nI_add, nI_1, pk_mul, b2_eq0, b2_01, nb_t, if_true, if_false, ni_le, ni_eq, ni_lt, r_isFace h2, c1, c2, s1, s2, tl]
  rw [if_neg (by decide), if_neg (by decide), if_neg (by omega), if_pos (by omega), if_neg (by omega)]
  by_cases q1 : s 11 f = 1
  · rw [if_pos q1, if_neg (fun e => hno ⟨q1, e⟩)]
  · rw [if_neg q1]
theorem r_extend_n (h : RI S d m s) (b : BI s) {v1 v2 : Int32} (no : ∀ f p, ¬ exOk s v1 v2 f p) : f_R_extend S d m v1 v2 = some (0, wI d m 0 0) := by
  have h2 := ri_w0 (v := 0) h
  have hF := b.faces
  have hS := b.stands
  simp only [f_R_extend, kd_t h.rs.1, lt_t, r_isFace h2, bd_t, b2_eq0, ri_21 h2, l0_le _ (show s 21 0 < 2 ^ 31 by omega)]
  by_cases q1 : cIn 24 (nI (24 + s 5 0)) v1 = false
  · rw [if_pos q1]
  · rw [if_neg q1]
    by_cases q2 : cIn 24 (nI (24 + s 5 0)) v2 = false
    · rw [if_pos q2]
    · rw [if_neg q2]
      obtain ⟨a, ha1, ha2, rfl⟩ := cIn_of (lo := 24) (eq_true_of_ne_false q1) (by omega) (by omega)
      obtain ⟨c, hc1, hc2, rfl⟩ := cIn_of (lo := 24) (eq_true_of_ne_false q2) (by omega) (by omega)
      obtain ⟨f, rfl⟩ : ∃ f, a = 24 + f := ⟨a - 24, by omega⟩
      obtain ⟨p, rfl⟩ : ∃ p, c = 24 + p := ⟨c - 24, by omega⟩
      have s1 : nI (24 + f) - 24 = nI f := by rw [l24_s _ (by omega)]; congr 1; omega
      have s2 : nI (24 + p) - 24 = nI p := by rw [l24_s _ (by omega)]; congr 1; omega
      have hN := b.parentN f
      have hb10 := b.lt 10 (2 * f)
      have h6l := b.faceL f (by omega)
      simp only [s1, s2, ni_le _ _ (show 24 + f < 2 ^ 31 by omega) (show 24 + p < 2 ^ 31 by omega)]
      by_cases q3 : 24 + f ≤ 24 + p
      · rw [if_pos q3]
      · rw [if_neg q3]
        by_cases q4 : s 21 0 ≤ 0
        · rw [if_pos q4]
          simp (disch := omega) only [rs_P11 h2.rs, nn_t, kd_t (rs_K11 h2.rs), rs_N11 h2.rs, gi_n, nI_clamp, ri_11 h2, l2_e, l1_e, rs_P10 h2.rs, kd_t (rs_K10 h2.rs), rs_N10 h2.rs, l2_m, ri_10 h2, ni_eq]
          by_cases q5 : s 11 f = 2
          · rw [if_pos q5]
          · rw [if_neg q5]
            have tl : ¬ (s 11 f = 1 ∧ s 10 (2 * f) = p) → f_R_extend_J79 S m (wI d m 0 0) (nI f) (nI p) = some (0, wI d m 0 0) := by
              intro hn
              have hv : vis s (s 6 f) p = false := by
                cases q : vis s (s 6 f) p with
                | false => rfl
                | true => exact absurd ⟨rfl, rfl, by omega, by omega, by omega, q5, hn, q⟩ (no f p)
              simp (maxSteps := 1000000) (disch := omega) only [f_R_extend_J79, kd_t h2.rs.1, rs_P6 h2.rs, kd_t (rs_K6 h2.rs), rs_N6 h2.rs, ri_6 h2, rs_P10 h2.rs, kd_t (rs_K10 h2.rs), rs_N10 h2.rs, ri_10 h2, rs_P11 h2.rs, kd_t (rs_K11 h2.rs), rs_N11 h2.rs, ri_11 h2, l0_e, l0_le, l0_ge, l0_lt, l0_gt, l1_m, l1_a, l1_b, l1_s, l1_e, l1_le, l1_ge, l1_lt, l1_gt, l2_m, l2_a, l2_b, l2_s, l2_e, l2_le, l2_ge, l2_lt, l2_gt, lt_t, nn_t, bd_t, bdD_t, bdP_t, nI_clamp, gi_n, nI_add, nI_1, pk_mul, b2_eq0, b2_01, nb_t, if_true, if_false, ni_le, ni_eq, ni_lt, r_visible h2 b (s 6 f) p h6l (show p < s 5 0 by omega), hv]
            by_cases q6 : s 11 f = 1
            · rw [if_pos q6]
              by_cases q7 : s 10 (2 * f) = p
              · rw [if_pos q7]
              · rw [if_neg q7]; exact tl (fun e => q7 e.2)
            · rw [if_neg q6]; exact tl (fun e => q6 e.1)
        · rw [if_neg q4]
end ref
