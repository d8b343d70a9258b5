section ref
variable {S : gS} {d : gD} {m : Nat} {s : Nat → Nat → Nat}
theorem ri_w0 {v : Int32} (h : RI S d m s) : RI S (wI d m 0 v) m s := rx_0 h
theorem r_loader_n (h : RI S d m s) (b : BI s) {v : Int32} (hv : v < 0 ∨ nI (s 1 0) ≤ v ∨ s 1 0 = 4) : f_R_loader S d m v = some (-1, wI d m 0 0) := by
  have h2 := ri_w0 (v := 0) h
  have hL := b.loaders
  simp only [f_R_loader, kd_t h.rs.1, lt_t, ri_1 h2, l4_e _ (show s 1 0 < 2 ^ 31 by omega)]
  by_cases q1 : v < 0
  · rw [if_pos q1]
  · rw [if_neg q1]
    by_cases q2 : nI (s 1 0) ≤ v
    · rw [if_pos q2]
    · rw [if_neg q2, if_pos (by rcases hv with e | e | e; exact absurd e q1; exact absurd e q2; exact e)]
def sLd (s : Nat → Nat → Nat) (j : Nat) : Nat → Nat → Nat := up2 (up2 s 2 (s 1 0) j) 1 0 (s 1 0 + 1)
theorem r_loader_y (h : RI S d m s) (b : BI s) {j : Nat} (hj : j < s 1 0) (h4 : s 1 0 ≠ 4) : ∃ e, f_R_loader S d m (nI j) = some (nI (s 1 0), e) ∧ RI S e m (sLd s j) ∧ Ch (fun a _ => m ≤ a ∧ a ≤ m + 35) d e := by
  have h2 := ri_w0 (v := 0) h
  have hL := b.loaders
  have h3 := rw_2 h2 (s 1 0) j
  have e1 : up2 s 2 (s 1 0) j 1 0 = s 1 0 := if_neg (by omega)
  have h31 := ri_1 h3
  rw [e1] at h31
  have h4' := rw_1 h3 (s 1 0 + 1)
  have h41 := ri_1 h4'
  rw [up2_eq] at h41
  simp (maxSteps := 1000000) (disch := omega) only [f_R_loader, kd_t h2.rs.1, rs_P2 h2.rs, kd_t (rs_K2 h2.rs), rs_N2 h2.rs, ri_2 h2, ri_1 h2, l0_e, l0_le, l0_ge, l0_lt, l0_gt, l1_m, l1_a, l1_b, l1_s, l1_e, l1_le, l1_ge, l1_lt, l1_gt, l4_m, l4_a, l4_b, l4_s, l4_e, l4_le, l4_ge, l4_lt, l4_gt, lt_t, nn_t, bd_t, bdD_t, bdP_t, nI_clamp, gi_n, nI_add, nI_1, pk_mul, b2_eq0, b2_01, nb_t, if_true, if_false, ni_le, ni_eq, ni_lt, h31, h41]
  rw [if_neg (by omega), if_neg (by omega), if_neg (by omega)]
  exact ⟨_, rfl, h4', ch_s (ch_s (ch_w ⟨by omega, by omega⟩) ⟨by omega, by omega⟩) ⟨by omega, by omega⟩⟩
theorem bi_loader (b : BI s) {j : Nat} (hj : j < s 1 0) (h4 : s 1 0 ≠ 4) : BI (sLd s j) := by
  have hL := b.loaders
  have hl := b.lt
  have e : ∀ k i, k ≠ 2 → k ≠ 1 → sLd s j k i = s k i := fun k i n1 n2 => by unfold sLd; rw [up2_ne n2, up2_ne n1]
  have e10 : sLd s j 1 0 = s 1 0 + 1 := up2_eq
  have e2 : ∀ i, sLd s j 2 i = if i = s 1 0 then j else s 2 i := fun i => by
    unfold sLd
    rw [up2_ne (by decide)]
    by_cases q : i = s 1 0
    · rw [if_pos q, q, up2_eq]
    · rw [if_neg q, up2_nk q]
  have e1 : ∀ i, sLd s j 1 i < 2 ^ 31 := fun i => by
    unfold sLd
    by_cases q : i = 0
    · rw [q, up2_eq]; omega
    · rw [up2_nk q, up2_ne (by decide)]; exact hl 1 i
  exact ⟨(fun k i => by
      by_cases q2 : k = 2
      · rw [q2, e2]; have := hl 2 i; split <;> omega
      · by_cases q1 : k = 1
        · rw [q1]; exact e1 i
        · rw [e k i q2 q1]; exact hl k i), (by rw [e10]; omega), (fun i h1 h2 => by
      rw [e10] at h2
      rw [e2]
      split
      · omega
      · exact b.parentL i h1 (by omega)), (by simp (disch := decide) only [e]; exact b.classes), (by simp (disch := decide) only [e]; exact b.parentC), (by simp (disch := decide) only [e]; exact b.faces), (fun i hi => by
      rw [e 5 0 (by decide) (by decide)] at hi
      rw [e 6 i (by decide) (by decide), e10]
      have := b.faceL i hi
      omega), (by simp (disch := decide) only [e]; exact b.facePack), (by simp (disch := decide) only [e]; exact b.faceOpen), (by simp (disch := decide) only [e]; exact b.parentN), (by simp (disch := decide) only [e]; exact b.parentN0), (by simp (disch := decide) only [e]; exact b.parentF), (by simp (disch := decide) only [e]; exact b.ownN), (by simp (disch := decide) only [e]; exact b.ownN0), (by simp (disch := decide) only [e]; exact b.throwN), (by simp (disch := decide) only [e]; exact b.throwT), (by simp (disch := decide) only [e]; exact b.throwD), (by simp (disch := decide) only [e]; exact b.takeT), (by simp (disch := decide) only [e]; exact b.takeZ), (by simp (disch := decide) only [e]; exact b.resT), (by simp (disch := decide) only [e]; exact b.nameT), (by simp (disch := decide) only [e]; exact b.objects), (by simp (disch := decide) only [e]; exact b.stands)⟩
theorem r_type_n (h : RI S d m s) (b : BI s) {v : Int32} (hv : (v ≠ 7 ∧ cIn 8 (nI (s 3 0)) v = false) ∨ s 3 0 = 24) : f_R_type S d m v = some (-1, wI d m 0 0) := by
  have h2 := ri_w0 (v := 0) h
  have hL := b.classes
  simp only [f_R_type, f_R_type_J19, kd_t h.rs.1, lt_t, ri_3 h2, l24_e _ (show s 3 0 < 2 ^ 31 by omega), r_isClass h2, bd_t, b2_eq0]
  by_cases q1 : v = 7
  · rw [if_pos q1, if_pos (by rcases hv with e | e; exact absurd q1 e.1; exact e)]
  · rw [if_neg q1]
    by_cases q2 : cIn 8 (nI (s 3 0)) v = false
    · rw [if_pos q2]
    · rw [if_neg q2, if_pos (by rcases hv with e | e; exact absurd e.2 q2; exact e)]
def sTy (s : Nat → Nat → Nat) (j : Nat) : Nat → Nat → Nat := up2 (up2 s 4 (s 3 0) j) 3 0 (s 3 0 + 1)
theorem r_type_y (h : RI S d m s) (b : BI s) {j : Nat} (hj : 7 ≤ j ∧ j < s 3 0) (h4 : s 3 0 ≠ 24) : ∃ e, f_R_type S d m (nI j) = some (nI (s 3 0), e) ∧ RI S e m (sTy s j) ∧ Ch (fun a _ => m ≤ a ∧ a ≤ m + 35) d e := by
  have h2 := ri_w0 (v := 0) h
  have hL := b.classes
  have h3 := rw_4 h2 (s 3 0) j
  have e1 : up2 s 4 (s 3 0) j 3 0 = s 3 0 := if_neg (by omega)
  have h31 := ri_3 h3
  rw [e1] at h31
  have h4' := rw_3 h3 (s 3 0 + 1)
  have h41 := ri_3 h4'
  rw [up2_eq] at h41
  have tl : f_R_type_J19 S m (wI d m 0 0) (nI j) = some (nI (s 3 0), wI (wI (wI d m 0 0) (m + 2) (s 3 0) (nI j)) m 3 (nI (s 3 0 + 1))) := by
    simp (maxSteps := 1000000) (disch := omega) only [f_R_type_J19, kd_t h2.rs.1, rs_P4 h2.rs, kd_t (rs_K4 h2.rs), rs_N4 h2.rs, ri_4 h2, ri_3 h2, l1_m, l1_a, l1_b, l1_s, l1_e, l1_le, l1_ge, l1_lt, l1_gt, l24_m, l24_a, l24_b, l24_s, l24_e, l24_le, l24_ge, l24_lt, l24_gt, lt_t, nn_t, bd_t, bdD_t, bdP_t, nI_clamp, gi_n, nI_add, nI_1, pk_mul, b2_eq0, b2_01, nb_t, if_true, if_false, ni_le, ni_eq, ni_lt, h31, h41]
    rw [if_neg (by omega), show s 3 0 + 1 - 1 = s 3 0 by omega]
  refine ⟨_, ?_, h4', ch_s (ch_s (ch_w ⟨by omega, by omega⟩) ⟨by omega, by omega⟩) ⟨by omega, by omega⟩⟩
  simp only [f_R_type, kd_t h.rs.1, lt_t, r_isClass h2, bd_t, b2_eq0, l7_e _ (show j < 2 ^ 31 by omega)]
  by_cases q : j = 7
  · rw [if_pos q]; exact tl
  · rw [if_neg q, if_neg]
    · exact tl
    · rw [show (8 : Int32) = nI 8 from rfl, cIn_nI (by omega) (by omega) (by omega), decide_eq_true (show 8 ≤ j by omega), decide_eq_true hj.2]
      decide
end ref
