section ref
variable {S : gS} {d : gD} {m : Nat} {s : Nat → Nat → Nat}
theorem bi_face (b : BI s) {l nm pk o : Nat} (hl : l < s 1 0) (hn : nm < 26) (hp : pk < 4) (ho : o ≤ 1) (h12 : s 5 0 ≠ 12) : BI (sFa s l nm pk o) := by
  have hL := b.loaders
  have hF := b.faces
  have hlt := b.lt
  have e : ∀ k i, k ≠ 6 → k ≠ 7 → k ≠ 8 → k ≠ 9 → k ≠ 5 → sFa s l nm pk o k i = s k i := fun k i n1 n2 n3 n4 n5 => by unfold sFa; rw [up2_ne n5, up2_ne n4, up2_ne n3, up2_ne n2, up2_ne n1]
  have e50 : sFa s l nm pk o 5 0 = s 5 0 + 1 := up2_eq
  have e6 : ∀ i, sFa s l nm pk o 6 i = if i = s 5 0 then l else s 6 i := fun i => by
    unfold sFa
    rw [up2_ne (by decide), up2_ne (by decide), up2_ne (by decide), up2_ne (by decide)]
    by_cases q : i = s 5 0
    · rw [if_pos q, q, up2_eq]
    · rw [if_neg q, up2_nk q]
  have e7 : ∀ i, sFa s l nm pk o 7 i = if i = s 5 0 then nm else s 7 i := fun i => by
    unfold sFa
    rw [up2_ne (by decide), up2_ne (by decide), up2_ne (by decide)]
    by_cases q : i = s 5 0
    · rw [if_pos q, q, up2_eq]
    · rw [if_neg q, up2_nk q, up2_ne (by decide)]
  have e8 : ∀ i, sFa s l nm pk o 8 i = if i = s 5 0 then pk else s 8 i := fun i => by
    unfold sFa
    rw [up2_ne (by decide), up2_ne (by decide)]
    by_cases q : i = s 5 0
    · rw [if_pos q, q, up2_eq]
    · rw [if_neg q, up2_nk q, up2_ne (by decide), up2_ne (by decide)]
  have e9 : ∀ i, sFa s l nm pk o 9 i = if i = s 5 0 then o else s 9 i := fun i => by
    unfold sFa
    rw [up2_ne (by decide)]
    by_cases q : i = s 5 0
    · rw [if_pos q, q, up2_eq]
    · rw [if_neg q, up2_nk q, up2_ne (by decide), up2_ne (by decide), up2_ne (by decide)]
  have e5 : ∀ i, sFa s l nm pk o 5 i < 2 ^ 31 := fun i => by
    unfold sFa
    by_cases q : i = 0
    · rw [q, up2_eq]; omega
    · rw [up2_nk q, up2_ne (by decide), up2_ne (by decide), up2_ne (by decide), up2_ne (by decide)]; exact hlt 5 i
  have e12 : ∀ i, sFa s l nm pk o 12 i = s 12 i := fun i => e 12 i (by decide) (by decide) (by decide) (by decide) (by decide)
  have old : ∀ x, (x / 6 < sFa s l nm pk o 5 0 ∧ x % 6 < sFa s l nm pk o 12 (x / 6)) ∨ (72 ≤ x ∧ x < 75) → (x / 6 < s 5 0 ∧ x % 6 < s 12 (x / 6)) ∨ (72 ≤ x ∧ x < 75) := by
    intro x hx
    rcases hx with ⟨h1, h2⟩ | hx
    · rw [e50] at h1
      rw [e12] at h2
      by_cases q : x / 6 = s 5 0
      · have := b.ownN0 (x / 6) (by omega)
        omega
      · exact .inl ⟨by omega, h2⟩
    · exact .inr hx
  exact ⟨(fun k i => by
      by_cases q6 : k = 6
      · rw [q6, e6]; have := hlt 6 i; split <;> omega
      · by_cases q7 : k = 7
        · rw [q7, e7]; have := hlt 7 i; split <;> omega
        · by_cases q8 : k = 8
          · rw [q8, e8]; have := hlt 8 i; split <;> omega
          · by_cases q9 : k = 9
            · rw [q9, e9]; have := hlt 9 i; split <;> omega
            · by_cases q5 : k = 5
              · rw [q5]; exact e5 i
              · rw [e k i q6 q7 q8 q9 q5]; exact hlt k i), (by simp (disch := decide) only [e]; exact b.loaders), (by simp (disch := decide) only [e]; exact b.parentL), (by simp (disch := decide) only [e]; exact b.classes), (by simp (disch := decide) only [e]; exact b.parentC), (by rw [e50]; omega), (fun i hi => by
      rw [e50] at hi
      rw [e6, e 1 0 (by decide) (by decide) (by decide) (by decide) (by decide)]
      split
      · exact hl
      · exact b.faceL i (by omega)), (fun i hi => by
      rw [e50] at hi
      rw [e8]
      split
      · exact hp
      · exact b.facePack i (by omega)), (fun i => by
      rw [e9]
      split
      · exact ho
      · exact b.faceOpen i), (by simp (disch := decide) only [e]; exact b.parentN), (fun i hi => by
      rw [e50] at hi
      rw [e 11 i (by decide) (by decide) (by decide) (by decide) (by decide)]
      exact b.parentN0 i (by omega)), (by simp (disch := decide) only [e]; exact b.parentF), (by simp (disch := decide) only [e]; exact b.ownN), (fun i hi => by
      rw [e50] at hi
      rw [e12]
      exact b.ownN0 i (by omega)), (by simp (disch := decide) only [e]; exact b.throwN), (by simp (disch := decide) only [e]; exact b.throwT), (by simp (disch := decide) only [e]; exact b.throwD), (fun x k hx hk => by
      rw [e 15 _ (by decide) (by decide) (by decide) (by decide) (by decide)]
      exact b.takeT x k (old x hx) hk), (fun x k hx hk => by
      rw [e 15 _ (by decide) (by decide) (by decide) (by decide) (by decide), e 15 _ (by decide) (by decide) (by decide) (by decide) (by decide)]
      exact b.takeZ x k (old x hx) hk), (by simp (disch := decide) only [e]; exact b.resT), (by simp (disch := decide) only [e]; exact b.nameT), (by simp (disch := decide) only [e]; exact b.objects), (by simp (disch := decide) only [e]; exact b.stands)⟩
theorem r_below (h : RI S d m s) (b : BI s) (v w : Int32) : f_R_below S d m v w = some (b2 (bw s v w), wI d m 0 0) := by
  have h2 := ri_w0 (v := 0) h
  simp only [f_R_below, kd_t h.rs.1, lt_t, r_isBelow h2 b, bd_t, nb_t (b2_01 _)]
theorem r_find_n (h : RI S d m s) {v1 v2 v3 : Int32} (hv : v1 < 0 ∨ nI (s 1 0) ≤ v1) : f_R_find S d m v1 v2 v3 = some (-1, wI d m 0 0) := by
  have h2 := ri_w0 (v := 0) h
  simp only [f_R_find, kd_t h.rs.1, lt_t, ri_1 h2]
  by_cases q1 : v1 < 0
  · rw [if_pos q1]
  · rw [if_neg q1, if_neg]
    rcases hv with e | e
    · exact absurd e q1
    · exact Int32.not_lt.mpr e
def o24 : Option Nat → Int32
  | none => -1
  | some f => nI (24 + f)
theorem r_find_y (h : RI S d m s) (b : BI s) {l : Nat} {v2 v3 : Int32} (hl : l < s 1 0) : f_R_find S d m (nI l) v2 v3 = some (o24 (fnd s l v2 v3), wI d m 0 0) := by
  have h2 := ri_w0 (v := 0) h
  have hL := b.loaders
  have hF := b.faces
  simp (maxSteps := 1000000) (disch := omega) only [f_R_find, kd_t h2.rs.1, ri_1 h2, l0_e, l0_le, l0_ge, l0_lt, l0_gt, l24_m, l24_a, l24_b, l24_s, l24_e, l24_le, l24_ge, l24_lt, l24_gt, lt_t, nn_t, bd_t, bdD_t, bdP_t, nI_clamp, gi_n, nI_add, nI_1, pk_mul, b2_eq0, b2_01, nb_t, if_true, if_false, ni_le, ni_eq, ni_lt, r_finds h2 b l hl]
  rw [if_neg (by omega), if_pos (by omega)]
  cases q : fnd s l v2 v3 with
  | none => rfl
  | some f =>
    have := fnd_lt q
    rw [if_pos (show (0 : Int32) ≤ oi (some f) from nI_pos' (by omega))]
    show some (24 + nI f, _) = some (nI (24 + f), _)
    rw [l24_b]
theorem r_thrown (h : RI S d m s) : f_R_thrown S d m = some (dI d m 0) := by
  simp only [f_R_thrown, kd_t h.rs.1, lt_t]
theorem r_fault (h : RI S d m s) : f_R_fault S d m = some (nI (s 28 0), wI d m 0 0) := by
  have h2 := ri_w0 (v := 0) h
  simp only [f_R_fault, kd_t h.rs.1, lt_t, ri_28 h2]
end ref
