section ref
variable {S : gS} {d : gD} {m : Nat} {s : Nat → Nat → Nat}
theorem bi_object (b : BI s) {t : Nat} (ht : t < 47) (h32 : s 18 0 ≠ 32) : BI (sOb s t) := by
  have hO := b.objects
  have hlt := b.lt
  have e : ∀ k i, k ≠ 19 → k ≠ 18 → sOb s t k i = s k i := fun k i n1 n2 => by unfold sOb; rw [up2_ne n2, up2_ne n1]
  have e180 : sOb s t 18 0 = s 18 0 + 1 := up2_eq
  exact ⟨(fun k i => by
      by_cases q1 : k = 19
      · rw [q1]
        unfold sOb
        rw [up2_ne (by decide)]
        by_cases q : i = s 18 0
        · rw [q, up2_eq]; omega
        · rw [up2_nk q]; exact hlt 19 i
      · by_cases q2 : k = 18
        · rw [q2]
          unfold sOb
          by_cases q : i = 0
          · rw [q, up2_eq]; omega
          · rw [up2_nk q, up2_ne (by decide)]; exact hlt 18 i
        · rw [e k i q1 q2]; exact hlt k i), (by simp (disch := decide) only [e]; exact b.loaders), (by simp (disch := decide) only [e]; exact b.parentL), (by simp (disch := decide) only [e]; exact b.classes), (by simp (disch := decide) only [e]; exact b.parentC), (by simp (disch := decide) only [e]; exact b.faces), (by simp (disch := decide) only [e]; exact b.faceL), (by simp (disch := decide) only [e]; exact b.facePack), (by simp (disch := decide) only [e]; exact b.faceOpen), (by simp (disch := decide) only [e]; exact b.parentN), (by simp (disch := decide) only [e]; exact b.parentN0), (by simp (disch := decide) only [e]; exact b.parentF), (by simp (disch := decide) only [e]; exact b.ownN), (by simp (disch := decide) only [e]; exact b.ownN0), (by simp (disch := decide) only [e]; exact b.throwN), (by simp (disch := decide) only [e]; exact b.throwT), (by simp (disch := decide) only [e]; exact b.throwD), (by simp (disch := decide) only [e]; exact b.takeT), (by simp (disch := decide) only [e]; exact b.takeZ), (by simp (disch := decide) only [e]; exact b.resT), (by simp (disch := decide) only [e]; exact b.nameT), (by rw [e180]; omega), (by simp (disch := decide) only [e]; exact b.stands)⟩
theorem r_isStand (h : RI S d m s) (v : Int32) : f_R_isStand S d m v = some (b2 (cIn 0 (nI (s 21 0)) v)) := by
  simp only [f_R_isStand, kd_t h.rs.1, lt_t, ri_21 h]
  exact cIn_i
end ref
