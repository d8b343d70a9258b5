section ref
variable {S : gS} {d : gD} {m : Nat} {s : Nat → Nat → Nat}
theorem bi_type (b : BI s) {j : Nat} (hj : 7 ≤ j ∧ j < s 3 0) (h4 : s 3 0 ≠ 24) : BI (sTy s j) := by
  have hL := b.classes
  have hl := b.lt
  have e : ∀ k i, k ≠ 4 → k ≠ 3 → sTy s j k i = s k i := fun k i n1 n2 => by unfold sTy; rw [up2_ne n2, up2_ne n1]
  have e30 : sTy s j 3 0 = s 3 0 + 1 := up2_eq
  have e4 : ∀ i, sTy s j 4 i = if i = s 3 0 then j else s 4 i := fun i => by
    unfold sTy
    rw [up2_ne (by decide)]
    by_cases q : i = s 3 0
    · rw [if_pos q, q, up2_eq]
    · rw [if_neg q, up2_nk q]
  have e3 : ∀ i, sTy s j 3 i < 2 ^ 31 := fun i => by
    unfold sTy
    by_cases q : i = 0
    · rw [q, up2_eq]; omega
    · rw [up2_nk q, up2_ne (by decide)]; exact hl 3 i
  exact ⟨(fun k i => by
      by_cases q2 : k = 4
      · rw [q2, e4]; have := hl 4 i; split <;> omega
      · by_cases q1 : k = 3
        · rw [q1]; exact e3 i
        · rw [e k i q2 q1]; exact hl k i), (by simp (disch := decide) only [e]; exact b.loaders), (by simp (disch := decide) only [e]; exact b.parentL), (by rw [e30]; omega), (fun i h1 h2 => by
      rw [e30] at h2
      rw [e4]
      split
      · omega
      · exact b.parentC i h1 (by omega)), (by simp (disch := decide) only [e]; exact b.faces), (by simp (disch := decide) only [e]; exact b.faceL), (by simp (disch := decide) only [e]; exact b.facePack), (by simp (disch := decide) only [e]; exact b.faceOpen), (by simp (disch := decide) only [e]; exact b.parentN), (by simp (disch := decide) only [e]; exact b.parentN0), (by simp (disch := decide) only [e]; exact b.parentF), (by simp (disch := decide) only [e]; exact b.ownN), (by simp (disch := decide) only [e]; exact b.ownN0), (by simp (disch := decide) only [e]; exact b.throwN), (fun x i hi => by
      rw [e 16 x (by decide) (by decide)] at hi
      rw [e 17 _ (by decide) (by decide), e30]
      have := b.throwT x i hi
      omega), (by simp (disch := decide) only [e]; exact b.throwD), (by simp (disch := decide) only [e]; exact b.takeT), (by simp (disch := decide) only [e]; exact b.takeZ), (by simp (disch := decide) only [e]; exact b.resT), (by simp (disch := decide) only [e]; exact b.nameT), (by simp (disch := decide) only [e]; exact b.objects), (by simp (disch := decide) only [e]; exact b.stands)⟩
theorem r_face_n (h : RI S d m s) (b : BI s) {v1 v2 v3 v4 : Int32} (hv : v1 < 0 ∨ nI (s 1 0) ≤ v1 ∨ v2 < 0 ∨ 25 < v2 ∨ v3 < 0 ∨ 3 < v3 ∨ (∃ l, v1 = nI l ∧ l < s 1 0 ∧ fnd s l v2 v3 ≠ none) ∨ s 5 0 = 12) : f_R_face S d m v1 v2 v3 v4 = some (-1, wI d m 0 0) := by
  have h2 := ri_w0 (v := 0) h
  have hL := b.loaders
  have hF := b.faces
  simp only [f_R_face, kd_t h.rs.1, lt_t, ri_1 h2]
  by_cases q1 : v1 < 0
  · rw [if_pos q1]
  · rw [if_neg q1]
    by_cases q2 : nI (s 1 0) ≤ v1
    · rw [if_pos q2]
    · rw [if_neg q2]
      by_cases q3 : v2 < 0
      · rw [if_pos q3]
      · rw [if_neg q3]
        by_cases q4 : 25 < v2
        · rw [if_pos q4]
        · rw [if_neg q4]
          by_cases q5 : v3 < 0
          · rw [if_pos q5]
          · rw [if_neg q5]
            by_cases q6 : v3 ≤ 3
            · rw [if_pos q6]
              rcases pk_ix v1 (n := s 1 0) (by omega) with w | w | ⟨l, hl, rfl⟩
              · exact absurd w q1
              · exact absurd w q2
              · rw [r_finds h2 b l hl, bd_t]
                cases qf : fnd s l v2 v3 with
                | some f =>
                  have := fnd_lt qf
                  rw [if_pos (show (0 : Int32) ≤ oi (some f) from nI_pos' (by omega))]
                | none =>
                  rw [if_neg (by decide)]
                  simp only [ri_5 h2, l12_e _ (show s 5 0 < 2 ^ 31 by omega)]
                  rw [if_pos]
                  rcases hv with e | e | e | e | e | e | ⟨l', e1, e2, e3⟩ | e
                  · exact absurd e q1
                  · exact absurd e q2
                  · exact absurd e q3
                  · exact absurd e q4
                  · exact absurd e q5
                  · exact absurd q6 (Int32.not_le.mpr e)
                  · rw [nI_eq (by omega) (by omega)] at e1
                    subst e1
                    exact absurd qf e3
                  · exact e
            · rw [if_neg q6]
def sFa (s : Nat → Nat → Nat) (l nm pk o : Nat) : Nat → Nat → Nat := up2 (up2 (up2 (up2 (up2 s 6 (s 5 0) l) 7 (s 5 0) nm) 8 (s 5 0) pk) 9 (s 5 0) o) 5 0 (s 5 0 + 1)
theorem nar_b {o : Nat} (h : o ≤ 1) : vp_nar .boolean (nI o) = nI o := by
  match o, h with
  | 0, _ => rfl
  | 1, _ => rfl
theorem r_face_y (h : RI S d m s) (b : BI s) {l nm pk o : Nat} (hl : l < s 1 0) (hn : nm < 26) (hp : pk < 4) (ho : o ≤ 1) (hf : fnd s l (nI nm) (nI pk) = none) (h12 : s 5 0 ≠ 12) : ∃ e, f_R_face S d m (nI l) (nI nm) (nI pk) (nI o) = some (nI (24 + s 5 0), e) ∧ RI S e m (sFa s l nm pk o) ∧ Ch (fun a _ => m ≤ a ∧ a ≤ m + 35) d e := by
  have h2 := ri_w0 (v := 0) h
  have hL := b.loaders
  have hF := b.faces
  have h6 := rw_6 h2 (s 5 0) l
  have h7 := rw_7 h6 (s 5 0) nm
  have h8 := rw_8 h7 (s 5 0) pk
  have h9 := rw_9 h8 (s 5 0) o
  have h5 := rw_5 h9 (s 5 0 + 1)
  have g6 := ri_5 h6
  have g7 := ri_5 h7
  have g8 := ri_5 h8
  have g9 := ri_5 h9
  have g5 := ri_5 h5
  have n5 : ∀ (t : Nat → Nat → Nat) (k p v : Nat), 5 ≠ k → up2 t k p v 5 0 = t 5 0 := fun t k p v n => up2_ne n 0
  rw [n5 _ _ _ _ (by decide)] at g6
  rw [n5 _ _ _ _ (by decide), n5 _ _ _ _ (by decide)] at g7
  rw [n5 _ _ _ _ (by decide), n5 _ _ _ _ (by decide), n5 _ _ _ _ (by decide)] at g8
  rw [n5 _ _ _ _ (by decide), n5 _ _ _ _ (by decide), n5 _ _ _ _ (by decide), n5 _ _ _ _ (by decide)] at g9
  rw [up2_eq] at g5
  simp (maxSteps := 1000000) (disch := omega) only [f_R_face, kd_t h2.rs.1, rs_P6 h2.rs, kd_t (rs_K6 h2.rs), rs_N6 h2.rs, ri_6 h2, rs_P7 h2.rs, kd_t (rs_K7 h2.rs), rs_N7 h2.rs, ri_7 h2, rs_P8 h2.rs, kd_t (rs_K8 h2.rs), rs_N8 h2.rs, ri_8 h2, rs_P9 h2.rs, kd_t (rs_K9 h2.rs), rs_N9 h2.rs, ri_9 h2, ri_1 h2, ri_5 h2, l0_e, l0_le, l0_ge, l0_lt, l0_gt, l1_m, l1_a, l1_b, l1_s, l1_e, l1_le, l1_ge, l1_lt, l1_gt, l3_m, l3_a, l3_b, l3_s, l3_e, l3_le, l3_ge, l3_lt, l3_gt, l12_m, l12_a, l12_b, l12_s, l12_e, l12_le, l12_ge, l12_lt, l12_gt, l23_m, l23_a, l23_b, l23_s, l23_e, l23_le, l23_ge, l23_lt, l23_gt, l25_m, l25_a, l25_b, l25_s, l25_e, l25_le, l25_ge, l25_lt, l25_gt, lt_t, nn_t, bd_t, bdD_t, bdP_t, nI_clamp, gi_n, nI_add, nI_1, pk_mul, b2_eq0, b2_01, nb_t, if_true, if_false, ni_le, ni_eq, ni_lt, g6, g7, g8, g9, g5, nar_b ho, r_finds h2 b l hl, hf]
  rw [if_neg (by omega), if_neg (by omega), if_neg (by omega), if_neg (by omega), if_neg (by omega), if_pos (by omega), if_neg (by decide), if_neg (by omega), show 23 + (s 5 0 + 1) = 24 + s 5 0 by omega]
  exact ⟨_, rfl, h5, ch_s (ch_s (ch_s (ch_s (ch_s (ch_w ⟨by omega, by omega⟩) ⟨by omega, by omega⟩) ⟨by omega, by omega⟩) ⟨by omega, by omega⟩) ⟨by omega, by omega⟩) ⟨by omega, by omega⟩⟩
end ref
