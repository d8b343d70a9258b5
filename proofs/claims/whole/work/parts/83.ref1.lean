def b2 (b : Bool) : Int32 := if b then 1 else 0
theorem b2_01 (b : Bool) : b2 b = 0 ∨ b2 b = 1 := by cases b <;> simp [b2]
theorem b2_t {b : Bool} (h : b = true) : b2 b = 1 := by rw [h]; rfl
theorem b2_f {b : Bool} (h : b = false) : b2 b = 0 := by rw [h]; rfl
def cIn (lo hi v : Int32) : Bool := decide (lo ≤ v) && decide (v < hi)
theorem r_isClass {S : gS} {d : gD} {m : Nat} {s : Nat → Nat → Nat} (h : RI S d m s) (v : Int32) : f_R_isClass S d m v = some (b2 (cIn 8 (nI (s 3 0)) v)) := by
  simp only [f_R_isClass, kd_t h.rs.1, lt_t, ri_3 h]
  unfold cIn
  by_cases h1 : v < 8
  · have : ¬ (8 : Int32) ≤ v := Int32.not_le.mpr h1
    simp [h1, this, b2]
  · have : (8 : Int32) ≤ v := Int32.not_lt.mp h1
    by_cases h2 : nI (s 3 0) ≤ v
    · have h3 : ¬ v < nI (s 3 0) := Int32.not_lt.mpr h2
      simp [h1, this, h2, h3, b2]
    · have h3 : v < nI (s 3 0) := Int32.not_le.mp h2
      simp [h1, this, h2, h3, b2]
