def cln (x : Int32) : Nat → Int32
  | 0 => 0
  | k + 1 => cln x k ||| (nI (ub x k) <<< (nI (8 * k) &&& 31))
def isFc (s : Nat → Nat → Nat) (x : Int32) (k : Nat) : Bool := decide (24 ≤ ub x k) && decide (ub x k < 24 + s 5 0)
def cleanV (s : Nat → Nat → Nat) (x : Int32) : Int32 := if fst (fun k => !isFc s x k) (ln x) < ln x then 0 else cln x (ln x)
theorem okL_iff {s : Nat → Nat → Nat} {x : Int32} : okL s x ↔ ¬ fst (fun k => !isFc s x k) (ln x) < ln x := by
  constructor
  · intro h q
    have hy := fst_yes _ _ q
    generalize fst (fun k => !isFc s x k) (ln x) = k at q hy
    have hk := h _ q
    have : isFc s x k = true := by unfold isFc; rw [decide_eq_true hk.1, decide_eq_true hk.2]; rfl
    rw [this] at hy
    cases hy
  · intro h k hk
    have hle := fst_le (fun k => !isFc s x k) (ln x)
    have no := fst_no (fun k => !isFc s x k) (ln x) k (by omega)
    unfold isFc at no
    simp at no
    omega
theorem ub_cln {x : Int32} : ∀ n, n ≤ 4 → ∀ k, k < 4 → ub (cln x n) k = if k < n then ub x k else 0 := by
  have h0 : ∀ i, bt 0 i = false := fun i => by show (0 : Int32).toBitVec.getLsbD i = false; exact BitVec.getLsbD_zero
  have key : ∀ n, n ≤ 4 → ∀ i, i < 32 → bt (cln x n) i = (decide (i < 8 * n) && bt x i) := by
    intro n
    induction n with
    | zero => intro _ i _; show bt 0 i = _; rw [h0]; simp
    | succ n ih =>
      intro hn i hi
      show bt (cln x n ||| (nI (ub x n) <<< (nI (8 * n) &&& 31))) i = _
      rw [b_or, ih (by omega) i hi, b_shl (8 * n) (by omega) _ hi]
      by_cases q : 8 * n ≤ i
      · rw [bt_nI (by have := ub_lt x n; omega), ub_bt, show 8 * n + (i - 8 * n) = i by omega]
        by_cases r : i < 8 * (n + 1)
        · simp [q, r, show ¬ i < 8 * n by omega, show i - 8 * n < 8 by omega]
        · simp [q, r, show ¬ i < 8 * n by omega, show ¬ i - 8 * n < 8 by omega]
      · simp [q, show i < 8 * n by omega, show i < 8 * (n + 1) by omega]
  intro n hn k hk
  apply Nat.eq_of_testBit_eq
  intro i
  rw [ub_bt]
  by_cases q8 : i < 8
  · rw [key n hn (8 * k + i) (by omega)]
    by_cases q : k < n
    · rw [if_pos q, ub_bt]
      simp [q8, show 8 * k + i < 8 * n by omega]
    · rw [if_neg q]
      simp [show ¬ 8 * k + i < 8 * n by omega]
  · by_cases q : k < n
    · rw [if_pos q, ub_bt]; simp [q8]
    · rw [if_neg q]; simp [q8]
section ref
variable {S : gS} {d : gD} {m : Nat} {s : Nat → Nat → Nat}
theorem r_cleaned (h : RI S d m s) (b : BI s) (x : Int32) : f_R_cleaned S d m x = some (cleanV s x) := by
  have hF := b.faces
  have hln := ln_le x
  unfold f_R_cleaned
  have face : ∀ k, f_R_isFace S d m (nI (ub x k)) = some (b2 (isFc s x k)) := by
    intro k
    have hu := ub_lt x k
    rw [r_isFace h, show (24 : Int32) = nI 24 from rfl, cIn_nI (by omega) (by omega) (by omega)]
    rfl
  refine itr_f (B := f_R_cleaned_B4 S d m) (fun k K => K x (cln x k) (nI (8 * k))) (fun k => !isFc s x k) (ln x) _ (by omega) ?_ ?_ ?_
  · intro k hk hp K hK
    have hu := ub_lt x k
    have nz : ¬ ub x k = 0 := of_decide_eq_false (fst_no (fun k => decide (ub x k = 0)) 4 k hk)
    have hp : isFc s x k = true := by simpa using hp
    simp (maxSteps := 1000000) (disch := omega) only [f_R_cleaned_B4, kd_t h.rs.1, l0_e, l0_le, l0_ge, l0_lt, l0_gt, l8_m, l8_a, l8_b, l8_s, l8_e, l8_le, l8_ge, l8_lt, l8_gt, l31_m, l31_a, l31_b, l31_s, l31_e, l31_le, l31_ge, l31_lt, l31_gt, l32_m, l32_a, l32_b, l32_s, l32_e, l32_le, l32_ge, l32_lt, l32_gt, l255_m, l255_a, l255_b, l255_s, l255_e, l255_le, l255_ge, l255_lt, l255_gt, lt_t, nn_t, bd_t, bdD_t, bdP_t, nI_clamp, gi_n, nI_add, nI_1, pk_mul, b2_eq0, b2_01, nb_t, if_true, if_false, ni_le, ni_eq, ni_lt, ub_s x (show k < 4 by omega), face, hp]
    rw [if_neg (by omega), if_neg nz, if_neg (by decide)]
    exact hK
  · intro k hk hp he K
    have hu := ub_lt x k
    have nz : ¬ ub x k = 0 := of_decide_eq_false (fst_no (fun k => decide (ub x k = 0)) 4 k hk)
    have hp : isFc s x k = false := by simpa using hp
    simp (maxSteps := 1000000) (disch := omega) only [f_R_cleaned_B4, kd_t h.rs.1, l0_e, l0_le, l0_ge, l0_lt, l0_gt, l8_m, l8_a, l8_b, l8_s, l8_e, l8_le, l8_ge, l8_lt, l8_gt, l31_m, l31_a, l31_b, l31_s, l31_e, l31_le, l31_ge, l31_lt, l31_gt, l32_m, l32_a, l32_b, l32_s, l32_e, l32_le, l32_ge, l32_lt, l32_gt, l255_m, l255_a, l255_b, l255_s, l255_e, l255_le, l255_ge, l255_lt, l255_gt, lt_t, nn_t, bd_t, bdD_t, bdP_t, nI_clamp, gi_n, nI_add, nI_1, pk_mul, b2_eq0, b2_01, nb_t, if_true, if_false, ni_le, ni_eq, ni_lt, ub_s x (show k < 4 by omega), face, hp]
    rw [if_neg (by omega), if_neg nz, cleanV, he, if_pos hk]
  · intro he K
    unfold cleanV
    rw [he, if_neg (Nat.lt_irrefl _)]
    simp (maxSteps := 1000000) (disch := omega) only [f_R_cleaned_B4, lt_t, nn_t, bd_t, bdD_t, bdP_t, nI_clamp, gi_n, nI_add, nI_1, pk_mul, b2_eq0, b2_01, nb_t, if_true, if_false, ni_le, ni_eq, ni_lt]
    by_cases q : ln x < 4
    · have z0 := of_decide_eq_true (fst_yes (fun k => decide (ub x k = 0)) 4 q)
      rw [ub_s x q]
      rw [show ub x (ln x) = 0 from z0, if_neg (by rw [l32_ge _ (by omega)]; omega), if_pos nI_0]
    · rw [if_pos (by rw [l32_ge _ (by omega)]; omega)]
end ref
