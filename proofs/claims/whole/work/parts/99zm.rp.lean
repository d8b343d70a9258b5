section ref
variable {S : gS} {d : gD} {m : Nat} {s : Nat → Nat → Nat}
theorem r_loader_z (h : RI S d m s) (b : BI s) {j : Nat} (hj : j < s 1 0) (h4 : s 1 0 ≠ 4) : ∃ e, f_R_loader S d m (nI j) = some (nI (s 1 0), e) ∧ RI S e m (sLd s j) ∧ Ch (fun a _ => m ≤ a ∧ a ≤ m + 20) d e := by
  have h2 := ri_w0 (v := 0) h
  have hL := b.loaders
  have h3 := rw_2 h2 (s 1 0) j
  have e1 : up2 s 2 (s 1 0) j 1 0 = s 1 0 := if_neg (by omega)
  have h31 := ri_1 h3
  rw [e1] at h31
  have h4' := rw_1 h3 (s 1 0 + 1)
  have h41 := ri_1 h4'
  rw [up2_eq] at h41
  simp (maxSteps := 1000000) (disch := omega) only [f_R_loader, kd_t h2.rs.1, rs_P2 h2.rs, kd_t (rs_K2 h2.rs), rs_N2 h2.rs, ri_2 h2, ri_1 h2, l0_e, l0_le, l0_ge, l0_lt, l0_gt, l1_m, l1_a, l1_b, l1_s, l1_e, l1_le, l1_ge, l1_lt, l1_gt, l4_m, l4_a, l4_b, l4_s, l4_e, l4_le, l4_ge, l4_lt, l4_gt, lt_t, nn_t, bd_t, bdD_t, bdP_t, nI_clamp, gi_n, nI_add, nI_1, pk_mul, b2_eq0, b2_01, nb_t, if_true, if_false, ni_le, ni_eq, ni_lt, h31, h41]
  rw [if_neg (by omega), if_neg (by omega), if_neg (by omega)]
  exact ⟨_, rfl, h4', ch_s (ch_s (ch_w ⟨by omega, by omega⟩) ⟨by omega, by omega⟩) ⟨by omega, by omega⟩⟩
theorem r_type_z (h : RI S d m s) (b : BI s) {j : Nat} (hj : 7 ≤ j ∧ j < s 3 0) (h4 : s 3 0 ≠ 24) : ∃ e, f_R_type S d m (nI j) = some (nI (s 3 0), e) ∧ RI S e m (sTy s j) ∧ Ch (fun a _ => m ≤ a ∧ a ≤ m + 20) d e := by
  have h2 := ri_w0 (v := 0) h
  have hL := b.classes
  have h3 := rw_4 h2 (s 3 0) j
  have e1 : up2 s 4 (s 3 0) j 3 0 = s 3 0 := if_neg (by omega)
  have h31 := ri_3 h3
  rw [e1] at h31
  have h4' := rw_3 h3 (s 3 0 + 1)
  have h41 := ri_3 h4'
  rw [up2_eq] at h41
  have tl : f_R_type_J19 S m (wI d m 0 0) (nI j) = some (nI (s 3 0), wI (wI (wI d m 0 0) (m + 2) (s 3 0) (nI j)) m 3 (nI (s 3 0 + 1))) := by
    simp (maxSteps := 1000000) (disch := omega) only [f_R_type_J19, kd_t h2.rs.1, rs_P4 h2.rs, kd_t (rs_K4 h2.rs), rs_N4 h2.rs, ri_4 h2, ri_3 h2, l1_m, l1_a, l1_b, l1_s, l1_e, l1_le, l1_ge, l1_lt, l1_gt, l24_m, l24_a, l24_b, l24_s, l24_e, l24_le, l24_ge, l24_lt, l24_gt, lt_t, nn_t, bd_t, bdD_t, bdP_t, nI_clamp, gi_n, nI_add, nI_1, pk_mul, b2_eq0, b2_01, nb_t, if_true, if_false, ni_le, ni_eq, ni_lt, h31, h41]
    rw [if_neg (by omega), show s 3 0 + 1 - 1 = s 3 0 by omega]
  refine ⟨_, ?_, h4', ch_s (ch_s (ch_w ⟨by omega, by omega⟩) ⟨by omega, by omega⟩) ⟨by omega, by omega⟩⟩
  simp only [f_R_type, kd_t h.rs.1, lt_t, r_isClass h2, bd_t, b2_eq0, l7_e _ (show j < 2 ^ 31 by omega)]
  by_cases q : j = 7
  · rw [if_pos q]; exact tl
  · rw [if_neg q, if_neg]
    · exact tl
    · rw [show (8 : Int32) = nI 8 from rfl, cIn_nI (by omega) (by omega) (by omega), decide_eq_true (show 8 ≤ j by omega), decide_eq_true hj.2]
      decide
theorem r_face_z (h : RI S d m s) (b : BI s) {l nm pk o : Nat} (hl : l < s 1 0) (hn : nm < 26) (hp : pk < 4) (ho : o ≤ 1) (hf : fnd s l (nI nm) (nI pk) = none) (h12 : s 5 0 ≠ 12) : ∃ e, f_R_face S d m (nI l) (nI nm) (nI pk) (nI o) = some (nI (24 + s 5 0), e) ∧ RI S e m (sFa s l nm pk o) ∧ Ch (fun a _ => m ≤ a ∧ a ≤ m + 20) d e := by
  have h2 := ri_w0 (v := 0) h
  have hL := b.loaders
  have hF := b.faces
  have h6 := rw_6 h2 (s 5 0) l
  have h7 := rw_7 h6 (s 5 0) nm
  have h8 := rw_8 h7 (s 5 0) pk
  have h9 := rw_9 h8 (s 5 0) o
  have h5 := rw_5 h9 (s 5 0 + 1)
  have g6 := ri_5 h6
  have g7 := ri_5 h7
  have g8 := ri_5 h8
  have g9 := ri_5 h9
  have g5 := ri_5 h5
  have n5 : ∀ (t : Nat → Nat → Nat) (k p v : Nat), 5 ≠ k → up2 t k p v 5 0 = t 5 0 := fun t k p v n => up2_ne n 0
  rw [n5 _ _ _ _ (by decide)] at g6
  rw [n5 _ _ _ _ (by decide), n5 _ _ _ _ (by decide)] at g7
  rw [n5 _ _ _ _ (by decide), n5 _ _ _ _ (by decide), n5 _ _ _ _ (by decide)] at g8
  rw [n5 _ _ _ _ (by decide), n5 _ _ _ _ (by decide), n5 _ _ _ _ (by decide), n5 _ _ _ _ (by decide)] at g9
  rw [up2_eq] at g5
  simp (maxSteps := 1000000) (disch := omega) only [f_R_face, kd_t h2.rs.1, rs_P6 h2.rs, kd_t (rs_K6 h2.rs), rs_N6 h2.rs, ri_6 h2, rs_P7 h2.rs, kd_t (rs_K7 h2.rs), rs_N7 h2.rs, ri_7 h2, rs_P8 h2.rs, kd_t (rs_K8 h2.rs), rs_N8 h2.rs, ri_8 h2, rs_P9 h2.rs, kd_t (rs_K9 h2.rs), rs_N9 h2.rs, ri_9 h2, ri_1 h2, ri_5 h2, l0_e, l0_le, l0_ge, l0_lt, l0_gt, l1_m, l1_a, l1_b, l1_s, l1_e, l1_le, l1_ge, l1_lt, l1_gt, l3_m, l3_a, l3_b, l3_s, l3_e, l3_le, l3_ge, l3_lt, l3_gt, l12_m, l12_a, l12_b, l12_s, l12_e, l12_le, l12_ge, l12_lt, l12_gt, l23_m, l23_a, l23_b, l23_s, l23_e, l23_le, l23_ge, l23_lt, l23_gt, l25_m, l25_a, l25_b, l25_s, l25_e, l25_le, l25_ge, l25_lt, l25_gt, lt_t, nn_t, bd_t, bdD_t, bdP_t, nI_clamp, gi_n, nI_add, nI_1, pk_mul, b2_eq0, b2_01, nb_t, if_true, if_false, ni_le, ni_eq, ni_lt, g6, g7, g8, g9, g5, nar_b ho, r_finds h2 b l hl, hf]
  rw [if_neg (by omega), if_neg (by omega), if_neg (by omega), if_neg (by omega), if_neg (by omega), if_pos (by omega), if_neg (by decide), if_neg (by omega), show 23 + (s 5 0 + 1) = 24 + s 5 0 by omega]
  exact ⟨_, rfl, h5, ch_s (ch_s (ch_s (ch_s (ch_s (ch_w ⟨by omega, by omega⟩) ⟨by omega, by omega⟩) ⟨by omega, by omega⟩) ⟨by omega, by omega⟩) ⟨by omega, by omega⟩) ⟨by omega, by omega⟩⟩
theorem r_extend_z (h : RI S d m s) (b : BI s) {v1 v2 : Int32} {f p : Nat} (ok : exOk s v1 v2 f p) : ∃ e, f_R_extend S d m v1 v2 = some (1, e) ∧ RI S e m (sEx s f p) ∧ Ch (fun a _ => m ≤ a ∧ a ≤ m + 20) d e := by
  obtain ⟨rfl, rfl, hp, hf, h21, h11, hno, hvis⟩ := ok
  have h2 := ri_w0 (v := 0) h
  have hL := b.loaders
  have hF := b.faces
  have hS := b.stands
  have hN := b.parentN f
  have hb10 := b.lt 10 (2 * f)
  have h6l := b.faceL f hf
  have h10 := rw_10 h2 (2 * f + s 11 f) p
  have g11 : dI (wI (wI d m 0 0) (m + 7) (2 * f + s 11 f) (nI p)) (m + 8) f = nI (s 11 f) := by rw [dI_wI, if_neg (by omega)]; exact ri_11 h2 (by omega)
  have h11' := rw_11 h10 f (s 11 f + 1)
  have c1 : cIn 24 (nI (24 + s 5 0)) (nI (24 + f)) = true := by
    rw [show (24 : Int32) = nI 24 from rfl, cIn_nI (by omega) (by omega) (by omega), decide_eq_true (by omega), decide_eq_true (by omega)]; rfl
  have c2 : cIn 24 (nI (24 + s 5 0)) (nI (24 + p)) = true := by
    rw [show (24 : Int32) = nI 24 from rfl, cIn_nI (by omega) (by omega) (by omega), decide_eq_true (by omega), decide_eq_true (by omega)]; rfl
  have s1 : nI (24 + f) - 24 = nI f := by rw [l24_s _ (by omega)]; congr 1; omega
  have s2 : nI (24 + p) - 24 = nI p := by rw [l24_s _ (by omega)]; congr 1; omega
  have tl : f_R_extend_J79 S m (wI d m 0 0) (nI f) (nI p) = some (1, wI (wI (wI d m 0 0) (m + 7) (2 * f + s 11 f) (nI p)) (m + 8) f (nI (s 11 f + 1))) := by
    simp (maxSteps := 1000000) (disch := omega) only [f_R_extend_J79, kd_t h2.rs.1, rs_P6 h2.rs, kd_t (rs_K6 h2.rs), rs_N6 h2.rs, ri_6 h2, rs_P10 h2.rs, kd_t (rs_K10 h2.rs), rs_N10 h2.rs, ri_10 h2, rs_P11 h2.rs, kd_t (rs_K11 h2.rs), rs_N11 h2.rs, ri_11 h2, l0_e, l0_le, l0_ge, l0_lt, l0_gt, l1_m, l1_a, l1_b, l1_s, l1_e, l1_le, l1_ge, l1_lt, l1_gt, l2_m, l2_a, l2_b, l2_s, l2_e, l2_le, l2_ge, l2_lt, l2_gt, lt_t, nn_t, bd_t, bdD_t, bdP_t, nI_clamp, gi_n, nI_add, nI_1, pk_mul, b2_eq0, b2_01, nb_t, if_true, if_false, ni_le, ni_eq, ni_lt, r_visible h2 b (s 6 f) p h6l (show p < s 5 0 by omega), hvis, g11]
    rw [if_neg (by decide)]
  refine ⟨_, ?_, h11', ch_s (ch_s (ch_w ⟨by omega, by omega⟩) ⟨by omega, by omega⟩) ⟨by omega, by omega⟩⟩
  simp (maxSteps := 1000000) (disch := omega) only [f_R_extend, kd_t h2.rs.1, rs_P10 h2.rs, kd_t (rs_K10 h2.rs), rs_N10 h2.rs, ri_10 h2, rs_P11 h2.rs, kd_t (rs_K11 h2.rs), rs_N11 h2.rs, ri_11 h2, ri_21 h2, l0_e, l0_le, l0_ge, l0_lt, l0_gt, l1_m, l1_a, l1_b, l1_s, l1_e, l1_le, l1_ge, l1_lt, l1_gt, l2_m, l2_a, l2_b, l2_s, l2_e, l2_le, l2_ge, l2_lt, l2_gt, l24_m, l24_a, l24_b, l24_s, l24_e, l24_le, l24_ge, l24_lt, l24_gt, lt_t, nn_t, bd_t, bdD_t, bdP_t, nI_clamp, gi_n, nI_add, nI_1, pk_mul, b2_eq0, b2_01, nb_t, if_true, if_false, ni_le, ni_eq, ni_lt, r_isFace h2, c1, c2, s1, s2, tl]
  rw [if_neg (by decide), if_neg (by decide), if_neg (by omega), if_pos (by omega), if_neg (by omega)]
  by_cases q1 : s 11 f = 1
  · rw [if_pos q1, if_neg (fun e => hno ⟨q1, e⟩)]
  · rw [if_neg q1]
theorem r_throwing_z (h : RI S d m s) (b : BI s) {v1 v2 v3 : Int32} {f k t : Nat} (ok : thOk s v1 v2 v3 f k t) : ∃ e, f_R_throwing S d m v1 v2 v3 = some (1, e) ∧ RI S e m (sTh s (6 * f + k) t) ∧ Ch (fun a _ => m ≤ a ∧ a ≤ m + 20) d e := by
  obtain ⟨rfl, rfl, rfl, hf, hk, ht1, ht2, h21, h16, hno⟩ := ok
  have h2 := ri_w0 (v := 0) h
  have hF := b.faces
  have hC := b.classes
  have hS := b.stands
  have hO := b.ownN f
  have hN := b.throwN (6 * f + k)
  have h17 := rw_17 h2 (3 * (6 * f + k) + s 16 (6 * f + k)) t
  have g16 : dI (wI (wI d m 0 0) (m + 14) (3 * (6 * f + k) + s 16 (6 * f + k)) (nI t)) (m + 13) (6 * f + k) = nI (s 16 (6 * f + k)) := by rw [dI_wI, if_neg (by omega)]; exact ri_16 h2 (by omega)
  have h16' := rw_16 h17 (6 * f + k) (s 16 (6 * f + k) + 1)
  have c1 : cIn 24 (nI (24 + s 5 0)) (nI (24 + f)) = true := by
    rw [show (24 : Int32) = nI 24 from rfl, cIn_nI (by omega) (by omega) (by omega), decide_eq_true (by omega), decide_eq_true (by omega)]; rfl
  have c2 : cIn 8 (nI (s 3 0)) (nI t) = true := by
    rw [show (8 : Int32) = nI 8 from rfl, cIn_nI (by omega) (by omega) (by omega), decide_eq_true (by omega), decide_eq_true (by omega)]; rfl
  have s1 : nI (24 + f) - 24 = nI f := by rw [l24_s _ (by omega)]; congr 1; omega
  have tl : f_R_throwing_J97 S m (wI d m 0 0) (nI t) (nI (6 * f + k)) = some (1, wI (wI (wI d m 0 0) (m + 14) (3 * (6 * f + k) + s 16 (6 * f + k)) (nI t)) (m + 13) (6 * f + k) (nI (s 16 (6 * f + k) + 1))) := by
    simp (maxSteps := 1000000) (disch := omega) only [f_R_throwing_J97, kd_t h2.rs.1, rs_P16 h2.rs, kd_t (rs_K16 h2.rs), rs_N16 h2.rs, ri_16 h2, rs_P17 h2.rs, kd_t (rs_K17 h2.rs), rs_N17 h2.rs, ri_17 h2, l0_e, l0_le, l0_ge, l0_lt, l0_gt, l1_m, l1_a, l1_b, l1_s, l1_e, l1_le, l1_ge, l1_lt, l1_gt, l3_m, l3_a, l3_b, l3_s, l3_e, l3_le, l3_ge, l3_lt, l3_gt, lt_t, nn_t, bd_t, bdD_t, bdP_t, nI_clamp, gi_n, nI_add, nI_1, pk_mul, b2_eq0, b2_01, nb_t, if_true, if_false, ni_le, ni_eq, ni_lt, g16]
    rw [if_neg (by omega)]
  refine ⟨_, ?_, h16', ch_s (ch_s (ch_w ⟨by omega, by omega⟩) ⟨by omega, by omega⟩) ⟨by omega, by omega⟩⟩
  simp (maxSteps := 1000000) (disch := omega) only [f_R_throwing, kd_t h2.rs.1, rs_P12 h2.rs, kd_t (rs_K12 h2.rs), rs_N12 h2.rs, ri_12 h2, ri_21 h2, l0_e, l0_le, l0_ge, l0_lt, l0_gt, l6_m, l6_a, l6_b, l6_s, l6_e, l6_le, l6_ge, l6_lt, l6_gt, l24_m, l24_a, l24_b, l24_s, l24_e, l24_le, l24_ge, l24_lt, l24_gt, lt_t, nn_t, bd_t, bdD_t, bdP_t, nI_clamp, gi_n, nI_add, nI_1, pk_mul, b2_eq0, b2_01, nb_t, if_true, if_false, ni_le, ni_eq, ni_lt, r_isFace h2, r_isClass h2, c1, c2, s1, r_th_61 h2 b (show 6 * f + k < 75 by omega) (show t < 2 ^ 31 by omega), tl]
  rw [if_neg (by decide), if_neg (by omega), if_neg (by omega), if_neg (by decide), if_pos (by omega), if_neg hno]
theorem r_object_z (h : RI S d m s) (b : BI s) {t : Nat} {x : Int64} (ht : obOk s (nI t) = true) (h32 : s 18 0 ≠ 32) : ∃ e, f_R_object S d m (nI t) x = some (nI (s 18 0), e) ∧ RI S e m (sOb s t) ∧ (∀ a j, dL e a j = if a = m + 16 ∧ j = s 18 0 then obV (nI t) x else dL d a j) ∧ ∀ a j, ¬ (m ≤ a ∧ a ≤ m + 20) → dI e a j = dI d a j := by
  have h2 := ri_w0 (v := 0) h
  have hO := b.objects
  have h19 := rw_19 h2 (s 18 0) t
  have hL := rx_L (a := m + 16) (p := s 18 0) (v := obV (nI t) x) h19
  have h18 := rw_18 hL (s 18 0 + 1)
  have e1 : up2 s 19 (s 18 0) t 18 0 = s 18 0 := if_neg (by omega)
  have g1 := ri_18 h19
  have g2 := ri_18 hL
  have g3 := ri_18 h18
  rw [e1] at g1 g2
  rw [up2_eq] at g3
  have t68 : f_R_object_J68 S m (wI (wI d m 0 0) (m + 15) (s 18 0) (nI t)) (some (m + 16)) (nI (s 18 0)) (obV (nI t) x) = some (nI (s 18 0), wI (wL (wI (wI d m 0 0) (m + 15) (s 18 0) (nI t)) (m + 16) (s 18 0) (obV (nI t) x)) m 18 (nI (s 18 0 + 1))) := by
    simp (disch := omega) only [f_R_object_J68, nn_t, lt_t, kd_t h2.rs.1, kd_t (rs_K20 h2.rs), rs_N20 h2.rs, gi_n, nI_clamp, g2, nI_1, g3, l1_s]
    rw [show s 18 0 + 1 - 1 = s 18 0 by omega]
  have t20 : f_R_object_J20 S m (wI d m 0 0) (nI t) x = some (nI (s 18 0), wI (wL (wI (wI d m 0 0) (m + 15) (s 18 0) (nI t)) (m + 16) (s 18 0) (obV (nI t) x)) m 18 (nI (s 18 0 + 1))) := by
    simp (disch := omega) only [f_R_object_J20, kd_t h2.rs.1, lt_t, ri_18 h2, l32_e, rs_P19 h2.rs, nn_t, kd_t (rs_K19 h2.rs), rs_N19 h2.rs, gi_n, nI_clamp, g1, rs_P20 h2.rs, r_isBox, bd_t, b2_eq0, r_fitted]
    rw [if_neg h32]
    unfold obV at t68 ⊢
    by_cases q : (decide (41 ≤ nI t) && decide (nI t ≤ 46)) = false
    · rw [if_pos q] at t68
      rw [if_pos q, if_pos q]
      exact t68
    · rw [if_neg q] at t68
      rw [if_neg q, if_neg q]
      exact t68
  refine ⟨_, ?_, h18, fun a j => ?_, fun a j n => ?_⟩
  · simp only [f_R_object, kd_t h.rs.1, lt_t, r_isClass h2, r_isBox, bd_t, b2_eq0]
    unfold obOk at ht
    cases q1 : cIn 8 (nI (s 3 0)) (nI t) with
    | true => rw [if_neg (by decide)]; exact t20
    | false =>
      rw [q1, Bool.false_or] at ht
      rw [if_pos rfl, if_neg (by rw [ht]; decide)]
      exact t20
  · rw [dL_wI, dL_wL]
    rfl
  · rw [dI_wI, if_neg (by omega), dI_wL, dI_wI, if_neg (by omega), dI_wI, if_neg (by omega)]
end ref
def Rf (m : Nat) (d e : gD) : Prop := ∀ a j, ¬ (m ≤ a ∧ a ≤ m + 35) → dI e a j = dI d a j ∧ dL e a j = dL d a j
def RP (S : gS) (d : gD) (m : Nat) (s : Nat → Nat → Nat) (q : (Nat → Int64) × Int64 × (Nat → Int64) × (Nat → Int32)) : Prop := (RI S d m s) ∧ (∀ i, i < 32 → dL d (m + 16) i = q.1 i) ∧ (dL d m 43 = q.2.1) ∧ (∀ j, j < 9 → dL d (m + 33) j = q.2.2.1 j) ∧ (∀ c, c < 16 → dI d (m + 21) c = q.2.2.2 c)
theorem RP.ri {S : gS} {d : gD} {m : Nat} {s : Nat → Nat → Nat} {q : (Nat → Int64) × Int64 × (Nat → Int64) × (Nat → Int32)} (h : RP S d m s q) : RI S d m s := h.1
theorem RP.ov {S : gS} {d : gD} {m : Nat} {s : Nat → Nat → Nat} {q : (Nat → Int64) × Int64 × (Nat → Int64) × (Nat → Int32)} (h : RP S d m s q) : ∀ i, i < 32 → dL d (m + 16) i = q.1 i := h.2.1
theorem RP.oc {S : gS} {d : gD} {m : Nat} {s : Nat → Nat → Nat} {q : (Nat → Int64) × Int64 × (Nat → Int64) × (Nat → Int32)} (h : RP S d m s q) : dL d m 43 = q.2.1 := h.2.2.1
theorem RP.sn {S : gS} {d : gD} {m : Nat} {s : Nat → Nat → Nat} {q : (Nat → Int64) × Int64 × (Nat → Int64) × (Nat → Int32)} (h : RP S d m s q) : ∀ j, j < 9 → dL d (m + 33) j = q.2.2.1 j := h.2.2.2.1
theorem RP.hd {S : gS} {d : gD} {m : Nat} {s : Nat → Nat → Nat} {q : (Nat → Int64) × Int64 × (Nat → Int64) × (Nat → Int32)} (h : RP S d m s q) : ∀ c, c < 16 → dI d (m + 21) c = q.2.2.2 c := h.2.2.2.2
section ref
variable {S : gS} {d e : gD} {m : Nat} {s s' : Nat → Nat → Nat} {q : (Nat → Int64) × Int64 × (Nat → Int64) × (Nat → Int32)}
theorem rf_r : Rf m d d := fun _ _ _ => ⟨rfl, rfl⟩
theorem rf_t {f : gD} (h : Rf m d e) (g : Rf m e f) : Rf m d f := fun a j n => ⟨(g a j n).1.trans (h a j n).1, (g a j n).2.trans (h a j n).2⟩
theorem rf_ch {P : Nat → Nat → Prop} (g : Ch P d e) (n : ∀ a j, P a j → m ≤ a ∧ a ≤ m + 35) : Rf m d e := fun a j h => ⟨g.2 a j (fun p => h (n a j p)), g.1 a j⟩
theorem rf_w {a k : Nat} {v : Int32} (h : m ≤ a ∧ a ≤ m + 35) : Rf m d (wI d a k v) := rf_ch (ch_w (P := fun b _ => b = a) rfl) (fun b j p => by rw [show b = a from p]; exact h)
theorem rp_ch {P : Nat → Nat → Prop} (h : RP S d m s q) (g : Ch P d e) (r : RI S e m s') (n : ∀ c, ¬ P (m + 21) c) : RP S e m s' q :=
  ⟨r, fun i hi => (g.1 _ _).trans (h.ov i hi), (g.1 _ _).trans h.oc, fun j hj => (g.1 _ _).trans (h.sn j hj), fun c hc => (g.2 _ _ (n c)).trans (h.hd c hc)⟩
theorem rp_w0 {v : Int32} (h : RP S d m s q) : RP S (wI d m 0 v) m s q := rp_ch h (ch_w (P := fun a j => a = m ∧ j = 0) ⟨rfl, rfl⟩) (rx_0 h.ri) (fun c => by omega)
theorem rp_rf (h : RP S d m s q) {S' : gS} (hs : ∀ a, m ≤ a → a ≤ m + 35 → sK S' a = sK S a ∧ sN S' a = sN S a ∧ ∀ j, sP S' a j = sP S a j) (hd : ∀ a j, m ≤ a → a ≤ m + 35 → dI e a j = dI d a j ∧ dL e a j = dL d a j) : RP S' e m s q := by
  have K : ∀ o, o ≤ 35 → sK S' (m + o) = sK S (m + o) := fun o ho => (hs _ (by omega) (by omega)).1
  have N : ∀ o, o ≤ 35 → sN S' (m + o) = sN S (m + o) := fun o ho => (hs _ (by omega) (by omega)).2.1
  have P : ∀ j, sP S' m j = sP S m j := fun j => (hs _ (by omega) (by omega)).2.2 j
  have I : ∀ o j, o ≤ 35 → dI e (m + o) j = dI d (m + o) j := fun o j ho => (hd _ j (by omega) (by omega)).1
  have I0 : ∀ j, dI e m j = dI d m j := fun j => (hd _ j (by omega) (by omega)).1
  have L : ∀ o j, o ≤ 35 → dL e (m + o) j = dL d (m + o) j := fun o j ho => (hd _ j (by omega) (by omega)).2
  have L0 : ∀ j, dL e m j = dL d m j := fun j => (hd _ j (by omega) (by omega)).2
  have K0 : sK S' m = sK S m := (hs _ (by omega) (by omega)).1
  refine ⟨?_, fun i hi => (L 16 i (by omega)).trans (h.ov i hi), (L0 _).trans h.oc, fun j hj => (L 33 j (by omega)).trans (h.sn j hj), fun c hc => (I 21 c (by omega)).trans (h.hd c hc)⟩
  have r := h.ri
  have rs : RS S' m := by
    have r0 := r.rs
    unfold RS at r0 ⊢
    simp (disch := omega) only [K0, K, N, P]
    exact r0
  unfold RI at r ⊢
  simp (disch := omega) only [I0, I]
  exact ⟨rs, r.2⟩
theorem r_told_n (h : RP S d m s q) {v1 v2 v3 : Int32} (hv : cIn 0 (nI (s 21 0)) v1 = false) : f_R_told S d m v1 v2 v3 = some (-1, wI d m 0 0) := by
  have h2 := rp_w0 (v := 0) h
  simp (maxSteps := 1000000) (disch := omega) only [f_R_told, kd_t h2.ri.rs.1, rs_P13 h2.ri.rs, kd_t (rs_K13 h2.ri.rs), rs_N13 h2.ri.rs, ri_13 h2.ri, rs_P14 h2.ri.rs, kd_t (rs_K14 h2.ri.rs), rs_N14 h2.ri.rs, ri_14 h2.ri, rs_P15 h2.ri.rs, kd_t (rs_K15 h2.ri.rs), rs_N15 h2.ri.rs, ri_15 h2.ri, rs_P23 h2.ri.rs, kd_t (rs_K23 h2.ri.rs), rs_N23 h2.ri.rs, ri_23 h2.ri, rs_P32 h2.ri.rs, kd_t (rs_K32 h2.ri.rs), rs_N32 h2.ri.rs, rs_P36 h2.ri.rs, kd_t (rs_K36 h2.ri.rs), rs_N36 h2.ri.rs, lt_t, nn_t, bd_t, bdD_t, bdP_t, nI_clamp, gi_n, nI_add, nI_1, pk_mul, b2_eq0, b2_01, nb_t, if_true, if_false, ni_le, ni_eq, ni_lt, r_isStand h2.ri, hv]
def tdV (s : Nat → Nat → Nat) (e : Nat × List Nat) (c : List Nat) (v : Int32) : Int32 := if v = 0 then nI (s 13 e.1) else if v = 1 then nI (s 14 e.1) else if 2 ≤ v ∧ v ≤ 4 then nI (s 15 (3 * e.1 + (v.toNatClampNeg - 2))) else if v = 5 then nI (ow e.1) else if v = 6 then nI (nu e.1) else if 16 ≤ v ∧ v < 32 then nI (e.2.getD (v.toNatClampNeg - 16) 0) else if 32 ≤ v ∧ v ≤ 47 then nI (c.getD (v.toNatClampNeg - 32) 0) else -1
end ref
