section ref
variable {S : gS} {d : gD} {m : Nat} {s : Nat → Nat → Nat}
theorem bi_extend (b : BI s) {f p : Nat} (hp : p < f) (hf : f < s 5 0) (h11 : s 11 f ≠ 2) : BI (sEx s f p) := by
  have hF := b.faces
  have hlt := b.lt
  have hN := b.parentN f
  have e : ∀ k i, k ≠ 10 → k ≠ 11 → sEx s f p k i = s k i := fun k i n1 n2 => by unfold sEx; rw [up2_ne n2, up2_ne n1]
  have e11 : ∀ i, sEx s f p 11 i = if i = f then s 11 f + 1 else s 11 i := fun i => by
    unfold sEx
    by_cases q : i = f
    · rw [if_pos q, q, up2_eq]
    · rw [if_neg q, up2_nk q, up2_ne (by decide)]
  have e10 : ∀ i, sEx s f p 10 i = if i = 2 * f + s 11 f then p else s 10 i := fun i => by
    unfold sEx
    rw [up2_ne (by decide)]
    by_cases q : i = 2 * f + s 11 f
    · rw [if_pos q, q, up2_eq]
    · rw [if_neg q, up2_nk q]
  exact ⟨(fun k i => by
      by_cases q1 : k = 10
      · rw [q1, e10]; have := hlt 10 i; split <;> omega
      · by_cases q2 : k = 11
        · rw [q2, e11]; have := hlt 11 i; split <;> omega
        · rw [e k i q1 q2]; exact hlt k i), (by simp (disch := decide) only [e]; exact b.loaders), (by simp (disch := decide) only [e]; exact b.parentL), (by simp (disch := decide) only [e]; exact b.classes), (by simp (disch := decide) only [e]; exact b.parentC), (by simp (disch := decide) only [e]; exact b.faces), (by simp (disch := decide) only [e]; exact b.faceL), (by simp (disch := decide) only [e]; exact b.facePack), (by simp (disch := decide) only [e]; exact b.faceOpen), (fun i => by
      rw [e11]
      have := b.parentN i
      split <;> omega), (fun i hi => by
      rw [e 5 0 (by decide) (by decide)] at hi
      rw [e11, if_neg (by omega)]
      exact b.parentN0 i hi), (fun i q hq => by
      rw [e11] at hq
      rw [e10]
      have hNi := b.parentN i
      by_cases r : i = f
      · subst r
        rw [if_pos rfl] at hq
        by_cases r2 : 2 * i + q = 2 * i + s 11 i
        · rw [if_pos r2]; exact hp
        · rw [if_neg r2]; exact b.parentF i q (by omega)
      · rw [if_neg r] at hq
        rw [if_neg (by omega)]
        exact b.parentF i q hq), (by simp (disch := decide) only [e]; exact b.ownN), (by simp (disch := decide) only [e]; exact b.ownN0), (by simp (disch := decide) only [e]; exact b.throwN), (by simp (disch := decide) only [e]; exact b.throwT), (by simp (disch := decide) only [e]; exact b.throwD), (by simp (disch := decide) only [e]; exact b.takeT), (by simp (disch := decide) only [e]; exact b.takeZ), (by simp (disch := decide) only [e]; exact b.resT), (by simp (disch := decide) only [e]; exact b.nameT), (by simp (disch := decide) only [e]; exact b.objects), (by simp (disch := decide) only [e]; exact b.stands)⟩
def thOk (s : Nat → Nat → Nat) (v1 v2 v3 : Int32) (f k t : Nat) : Prop := v1 = nI (24 + f) ∧ v2 = nI k ∧ v3 = nI t ∧ f < s 5 0 ∧ k < s 12 f ∧ 8 ≤ t ∧ t < s 3 0 ∧ s 21 0 = 0 ∧ s 16 (6 * f + k) ≠ 3 ∧ t ∉ thr s (6 * f + k)
def sTh (s : Nat → Nat → Nat) (x t : Nat) : Nat → Nat → Nat := up2 (up2 s 17 (3 * x + s 16 x) t) 16 x (s 16 x + 1)
theorem r_th_61 (h : RI S d m s) (b : BI s) {x t : Nat} (hx : x < 75) (ht : t < 2 ^ 31) {kx : gD → Int32 → Int32 → Option (Int32 × gD)} {z : gD → Int32 → Int32 → Int32 → Option (Int32 × gD)} : itr (f_R_throwing_B61 S m kx) z fu d (nI t) (nI x) 0 = if t ∈ thr s x then some (0, d) else kx d (nI t) (nI x) := by
  have hN := b.throwN x
  have hl := thr_len s x
  refine itr_f (B := f_R_throwing_B61 S m kx) (fun k K => K d (nI t) (nI x) (nI k)) (fun i => decide ((thr s x).getD i 0 = t)) (thr s x).length _ (by omega) ?_ ?_ ?_
  · intro k hk hp K hK
    have hp := of_decide_eq_false hp
    rw [hl] at hk
    rw [thr_at s x k hk] at hp
    have h17 := b.lt 17 (3 * x + k)
    simp (maxSteps := 1000000) (disch := omega) only [f_R_throwing_B61, kd_t h.rs.1, rs_P16 h.rs, kd_t (rs_K16 h.rs), rs_N16 h.rs, ri_16 h, rs_P17 h.rs, kd_t (rs_K17 h.rs), rs_N17 h.rs, ri_17 h, l0_e, l0_le, l0_ge, l0_lt, l0_gt, l1_m, l1_a, l1_b, l1_s, l1_e, l1_le, l1_ge, l1_lt, l1_gt, l3_m, l3_a, l3_b, l3_s, l3_e, l3_le, l3_ge, l3_lt, l3_gt, lt_t, nn_t, bd_t, bdD_t, bdP_t, nI_clamp, gi_n, nI_add, nI_1, pk_mul, b2_eq0, b2_01, nb_t, if_true, if_false, ni_le, ni_eq, ni_lt]
    rw [if_neg (by omega), if_neg hp]
    exact hK
  · intro k hk hp he K
    have hp := of_decide_eq_true hp
    have hm : t ∈ thr s x := by rw [← hp]; exact getD_mem hk
    rw [hl] at hk
    rw [thr_at s x k hk] at hp
    have h17 := b.lt 17 (3 * x + k)
    simp (maxSteps := 1000000) (disch := omega) only [f_R_throwing_B61, kd_t h.rs.1, rs_P16 h.rs, kd_t (rs_K16 h.rs), rs_N16 h.rs, ri_16 h, rs_P17 h.rs, kd_t (rs_K17 h.rs), rs_N17 h.rs, ri_17 h, l0_e, l0_le, l0_ge, l0_lt, l0_gt, l1_m, l1_a, l1_b, l1_s, l1_e, l1_le, l1_ge, l1_lt, l1_gt, l3_m, l3_a, l3_b, l3_s, l3_e, l3_le, l3_ge, l3_lt, l3_gt, lt_t, nn_t, bd_t, bdD_t, bdP_t, nI_clamp, gi_n, nI_add, nI_1, pk_mul, b2_eq0, b2_01, nb_t, if_true, if_false, ni_le, ni_eq, ni_lt]
    rw [if_neg (by omega), if_pos hp, if_pos hm]
  · intro he K
    have hm : t ∉ thr s x := by
      intro w
      obtain ⟨i, hi, e⟩ := mem_getD w
      have := fst_hit (fun i => decide ((thr s x).getD i 0 = t)) (thr s x).length i hi (decide_eq_true e)
      omega
    rw [if_neg hm, hl]
    simp (maxSteps := 1000000) (disch := omega) only [f_R_throwing_B61, kd_t h.rs.1, rs_P16 h.rs, kd_t (rs_K16 h.rs), rs_N16 h.rs, ri_16 h, rs_P17 h.rs, kd_t (rs_K17 h.rs), rs_N17 h.rs, ri_17 h, l0_e, l0_le, l0_ge, l0_lt, l0_gt, l1_m, l1_a, l1_b, l1_s, l1_e, l1_le, l1_ge, l1_lt, l1_gt, l3_m, l3_a, l3_b, l3_s, l3_e, l3_le, l3_ge, l3_lt, l3_gt, lt_t, nn_t, bd_t, bdD_t, bdP_t, nI_clamp, gi_n, nI_add, nI_1, pk_mul, b2_eq0, b2_01, nb_t, if_true, if_false, ni_le, ni_eq, ni_lt]
    rw [if_pos (by omega)]
theorem r_throwing_y (h : RI S d m s) (b : BI s) {v1 v2 v3 : Int32} {f k t : Nat} (ok : thOk s v1 v2 v3 f k t) : ∃ e, f_R_throwing S d m v1 v2 v3 = some (1, e) ∧ RI S e m (sTh s (6 * f + k) t) ∧ Ch (fun a _ => m ≤ a ∧ a ≤ m + 35) d e := by
  obtain ⟨rfl, rfl, rfl, hf, hk, ht1, ht2, h21, h16, hno⟩ := ok
  have h2 := ri_w0 (v := 0) h
  have hF := b.faces
  have hC := b.classes
  have hS := b.stands
  have hO := b.ownN f
  have hN := b.throwN (6 * f + k)
  have h17 := rw_17 h2 (3 * (6 * f + k) + s 16 (6 * f + k)) t
  have g16 : dI (wI (wI d m 0 0) (m + 14) (3 * (6 * f + k) + s 16 (6 * f + k)) (nI t)) (m + 13) (6 * f + k) = nI (s 16 (6 * f + k)) := by rw [dI_wI, if_neg (by omega)]; exact ri_16 h2 (by omega)
  have h16' := rw_16 h17 (6 * f + k) (s 16 (6 * f + k) + 1)
  have c1 : cIn 24 (nI (24 + s 5 0)) (nI (24 + f)) = true := by
    rw [show (24 : Int32) = nI 24 from rfl, cIn_nI (by omega) (by omega) (by omega), decide_eq_true (by omega), decide_eq_true (by omega)]; rfl
  have c2 : cIn 8 (nI (s 3 0)) (nI t) = true := by
    rw [show (8 : Int32) = nI 8 from rfl, cIn_nI (by omega) (by omega) (by omega), decide_eq_true (by omega), decide_eq_true (by omega)]; rfl
  have s1 : nI (24 + f) - 24 = nI f := by rw [l24_s _ (by omega)]; congr 1; omega
  have tl : f_R_throwing_J97 S m (wI d m 0 0) (nI t) (nI (6 * f + k)) = some (1, wI (wI (wI d m 0 0) (m + 14) (3 * (6 * f + k) + s 16 (6 * f + k)) (nI t)) (m + 13) (6 * f + k) (nI (s 16 (6 * f + k) + 1))) := by
    simp (maxSteps := 1000000) (disch := omega) only [f_R_throwing_J97, kd_t h2.rs.1, rs_P16 h2.rs, kd_t (rs_K16 h2.rs), rs_N16 h2.rs, ri_16 h2, rs_P17 h2.rs, kd_t (rs_K17 h2.rs), rs_N17 h2.rs, ri_17 h2, l0_e, l0_le, l0_ge, l0_lt, l0_gt, l1_m, l1_a, l1_b, l1_s, l1_e, l1_le, l1_ge, l1_lt, l1_gt, l3_m, l3_a, l3_b, l3_s, l3_e, l3_le, l3_ge, l3_lt, l3_gt, lt_t, nn_t, bd_t, bdD_t, bdP_t, nI_clamp, gi_n, nI_add, nI_1, pk_mul, b2_eq0, b2_01, nb_t, if_true, if_false, ni_le, ni_eq, ni_lt, g16]
    rw [if_neg (by omega)]
  refine ⟨_, ?_, h16', ch_s (ch_s (ch_w ⟨by omega, by omega⟩) ⟨by omega, by omega⟩) ⟨by omega, by omega⟩⟩
  simp (maxSteps := 1000000) (disch := omega) only [f_R_throwing, kd_t h2.rs.1, rs_P12 h2.rs, kd_t (rs_K12 h2.rs), rs_N12 h2.rs, ri_12 h2, ri_21 h2, l0_e, l0_le, l0_ge, l0_lt, l0_gt, l6_m, l6_a, l6_b, l6_s, l6_e, l6_le, l6_ge, l6_lt, l6_gt, l24_m, l24_a, l24_b, l24_s, l24_e, l24_le, l24_ge, l24_lt, l24_gt, lt_t, nn_t, bd_t, bdD_t, bdP_t, nI_clamp, gi_n, nI_add, nI_1, pk_mul, b2_eq0, b2_01, nb_t, if_true, if_false, ni_le, ni_eq, ni_lt, r_isFace h2, r_isClass h2, c1, c2, s1, r_th_61 h2 b (show 6 * f + k < 75 by omega) (show t < 2 ^ 31 by omega), tl]
  rw [if_neg (by decide), if_neg (by omega), if_neg (by omega), if_neg (by decide), if_pos (by omega), if_neg hno]
end ref
