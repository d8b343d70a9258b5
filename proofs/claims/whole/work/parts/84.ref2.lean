theorem fo_lt {p : Nat → Bool} {n k : Nat} (h : fo p n = some k) : k < n := by
  unfold fo at h
  split at h
  · cases h; assumption
  · cases h
def orB (x : Option Nat) (y : Option Nat) : Option Nat := match x with
  | some f => some f
  | none => y
def fndF (s : Nat → Nat → Nat) (nm pk : Int32) : Nat → Nat → Option Nat → Option Nat
  | 0, _, b => b
  | n + 1, l, b => if l = 0 then orB (mk s l nm pk) b else fndF s nm pk n (s 2 l) (orB (mk s l nm pk) b)
def fnd (s : Nat → Nat → Nat) (l : Nat) (nm pk : Int32) : Option Nat := fndF s nm pk 4 l none
theorem fndF_more (s : Nat → Nat → Nat) (b : BI s) (nm pk : Int32) : ∀ n k l x, l < n → l < s 1 0 → fndF s nm pk (n + k) l x = fndF s nm pk n l x := by
  intro n
  induction n with
  | zero => intro k l x h; omega
  | succ n ih =>
    intro k l x h hl
    rw [show n + 1 + k = (n + k) + 1 by omega]
    unfold fndF
    by_cases q : l = 0
    · rw [if_pos q, if_pos q]
    · rw [if_neg q, if_neg q]
      have := b.parentL l (by omega) hl
      exact ih k _ _ (by omega) (by omega)
theorem oi_neg {x : Option Nat} (h : ∀ k, x = some k → k < 2 ^ 31) : (oi x < 0) = (x = none) := by
  cases x with
  | none => simp [oi]
  | some k => simp only [oi, ni_neg k (h k rfl)]; simp
theorem mk_lt {s : Nat → Nat → Nat} {b : BI s} {l : Nat} {nm pk : Int32} : ∀ k, mk s l nm pk = some k → k < 2 ^ 31 := by
  intro k hk
  have := fo_lt hk
  have := b.faces
  omega
section ref
variable {S : gS} {d : gD} {m : Nat} {s : Nat → Nat → Nat}
theorem r_finds_i (h : RI S d m s) (b : BI s) (nm pk : Int32) {z : Int32 → Int32 → Int32 → Int32 → Option Int32} : ∀ n l x, l + 1 < n → l < s 1 0 → itr (f_R_finds_B6 S d m) z n nm pk (oi x) (nI l) = some (oi (fndF s nm pk (l + 1) l x)) := by
  intro n
  induction n with
  | zero => intro l x h; omega
  | succ n ih =>
    intro l x hl hl2
    have hL := b.loaders
    rw [itr_s]
    have key : ∀ y, f_R_finds_J30 S d m (itr (f_R_finds_B6 S d m) z n) nm pk (oi y) (nI l) = some (oi (if l = 0 then y else fndF s nm pk l (s 2 l) y)) := by
      intro y
      simp (maxSteps := 1000000) (disch := omega) only [f_R_finds_J30, f_R_finds_J46, kd_t h.rs.1, rs_P2 h.rs, kd_t (rs_K2 h.rs), rs_N2 h.rs, ri_2 h, l0_e, l0_le, l0_ge, l0_lt, l0_gt, lt_t, nn_t, bd_t, bdD_t, bdP_t, nI_clamp, gi_n, nI_add, nI_1, pk_mul, b2_eq0, b2_01, nb_t, if_true, if_false, ni_le, ni_eq, ni_lt]
      by_cases q : l = 0
      · rw [if_pos q, if_pos q]
        cases n with
        | zero => omega
        | succ n =>
          rw [itr_s]
          simp only [f_R_finds_B6]
          rw [if_pos (by decide)]
      · rw [if_neg q, if_neg q]
        have hp := b.parentL l (by omega) hl2
        rw [ih (s 2 l) y (by omega) (by omega)]
        have := fndF_more s b nm pk (s 2 l + 1) (l - (s 2 l + 1)) (s 2 l) y (by omega) (by omega)
        rw [show s 2 l + 1 + (l - (s 2 l + 1)) = l by omega] at this
        rw [this]
    simp (maxSteps := 1000000) (disch := omega) only [f_R_finds_B6, kd_t h.rs.1, l0_e, l0_le, l0_ge, l0_lt, l0_gt, lt_t, nn_t, bd_t, bdD_t, bdP_t, nI_clamp, gi_n, nI_add, nI_1, pk_mul, b2_eq0, b2_01, nb_t, if_true, if_false, ni_le, ni_eq, ni_lt, Nat.not_lt_zero, r_madeBy h b, oi_neg (mk_lt (b := b))]
    unfold fndF
    cases hm : mk s l nm pk with
    | none =>
      rw [if_pos rfl, key]
      by_cases q : l = 0
      · rw [if_pos q, if_pos q]; rfl
      · rw [if_neg q, if_neg q]; rfl
    | some f =>
      rw [if_neg (by simp), key]
      by_cases q : l = 0
      · rw [if_pos q, if_pos q]; rfl
      · rw [if_neg q, if_neg q]; rfl
theorem r_finds (h : RI S d m s) (b : BI s) (l : Nat) (hl : l < s 1 0) (nm pk : Int32) : f_R_finds S d m (nI l) nm pk = some (oi (fnd s l nm pk)) := by
  have hL := b.loaders
  unfold f_R_finds
  have := r_finds_i h b nm pk (z := fun _ _ _ _ => none) fu l none (by show _ < 6000; omega) hl
  have e := fndF_more s b nm pk (l + 1) (4 - (l + 1)) l none (by omega) (by omega)
  rw [show l + 1 + (4 - (l + 1)) = 4 by omega] at e
  rw [← e] at this
  exact this
theorem orB_lt {x y : Option Nat} {n : Nat} (hx : ∀ k, x = some k → k < n) (hy : ∀ k, y = some k → k < n) : ∀ k, orB x y = some k → k < n := by
  cases x with
  | none => exact hy
  | some f => exact hx
theorem fndF_lt {s : Nat → Nat → Nat} {nm pk : Int32} : ∀ n l x, (∀ k, x = some k → k < s 5 0) → ∀ k, fndF s nm pk n l x = some k → k < s 5 0 := by
  intro n
  induction n with
  | zero => intro l x hx; exact hx
  | succ n ih =>
    intro l x hx
    unfold fndF
    split
    · exact orB_lt (fun k hk => fo_lt hk) hx
    · exact ih _ _ (orB_lt (fun k hk => fo_lt hk) hx)
theorem fnd_lt {s : Nat → Nat → Nat} {l : Nat} {nm pk : Int32} {k : Nat} (h : fnd s l nm pk = some k) : k < s 5 0 := fndF_lt 4 l none (fun _ e => by cases e) k h
def vis (s : Nat → Nat → Nat) (l f : Nat) : Bool := decide (fnd s l (nI (s 7 f)) (nI (s 8 f)) = some f)
theorem oi_eq {x : Option Nat} {k : Nat} (hk : k < 2 ^ 31) (h : ∀ k, x = some k → k < 2 ^ 31) : (oi x = nI k) = (x = some k) := by
  cases x with
  | none =>
    have : ¬ (-1 : Int32) = nI k := fun e => by
      have := nI_pos hk
      rw [← e] at this
      exact this (by decide)
    simp [oi, this]
  | some j => simp only [oi, ni_eq j k (h j rfl) hk, Option.some.injEq]
theorem r_visible (h : RI S d m s) (b : BI s) (l f : Nat) (hl : l < s 1 0) (hf : f < s 5 0) : f_R_visible S d m (nI l) (nI f) = some (b2 (vis s l f)) := by
  have hF := b.faces
  simp (maxSteps := 1000000) (disch := omega) only [f_R_visible, kd_t h.rs.1, rs_P7 h.rs, kd_t (rs_K7 h.rs), rs_N7 h.rs, ri_7 h, rs_P8 h.rs, kd_t (rs_K8 h.rs), rs_N8 h.rs, ri_8 h, l0_e, l0_le, l0_ge, l0_lt, l0_gt, l1_m, l1_a, l1_b, l1_s, l1_e, l1_le, l1_ge, l1_lt, l1_gt, lt_t, nn_t, bd_t, bdD_t, bdP_t, nI_clamp, gi_n, nI_add, nI_1, pk_mul, b2_eq0, b2_01, nb_t, if_true, if_false, ni_le, ni_eq, ni_lt, r_finds h b l hl]
  simp only [oi_eq (show f < 2 ^ 31 by omega) (show ∀ k, fnd s l (nI (s 7 f)) (nI (s 8 f)) = some k → k < 2 ^ 31 from fun k hk => by have := fnd_lt hk; omega), b2_iff]
  rfl
def sg (s : Nat → Nat → Nat) (a c : Nat) : Bool := decide (s 13 a = s 13 c) && (decide (s 15 (3 * a) = s 15 (3 * c)) && (decide (s 15 (3 * a + 1) = s 15 (3 * c + 1)) && decide (s 15 (3 * a + 2) = s 15 (3 * c + 2))))
theorem r_sameSignature (h : RI S d m s) (b : BI s) (x y : Nat) (hx : x < 75) (hy : y < 75) : f_R_sameSignature S d m (nI x) (nI y) = some (b2 (sg s x y)) := by
  simp (maxSteps := 1000000) (disch := omega) only [f_R_sameSignature, kd_t h.rs.1, rs_P13 h.rs, kd_t (rs_K13 h.rs), rs_N13 h.rs, ri_13 h, rs_P15 h.rs, kd_t (rs_K15 h.rs), rs_N15 h.rs, ri_15 h, l0_e, l0_le, l0_ge, l0_lt, l0_gt, l1_m, l1_a, l1_b, l1_s, l1_e, l1_le, l1_ge, l1_lt, l1_gt, l2_m, l2_a, l2_b, l2_s, l2_e, l2_le, l2_ge, l2_lt, l2_gt, l3_m, l3_a, l3_b, l3_s, l3_e, l3_le, l3_ge, l3_lt, l3_gt, lt_t, nn_t, bd_t, bdD_t, bdP_t, nI_clamp, gi_n, nI_add, nI_1, pk_mul, b2_eq0, b2_01, nb_t, if_true, if_false, ni_le, ni_eq, ni_lt, ni_eq _ _ (b.lt _ _) (b.lt _ _)]
  unfold sg
  by_cases q1 : s 13 x = s 13 y
  · by_cases q2 : s 15 (3 * x) = s 15 (3 * y)
    · by_cases q3 : s 15 (3 * x + 1) = s 15 (3 * y + 1)
      · by_cases q4 : s 15 (3 * x + 2) = s 15 (3 * y + 2) <;> simp [q1, q2, q3, q4, b2]
      · simp [q1, q2, q3, b2]
    · simp [q1, q2, b2]
  · simp [q1, b2]
def tc (s : Nat → Nat → Nat) (x : Nat) : Nat := fst (fun k => decide (s 15 (3 * x + k) = 0)) 3
theorem tc_le (s : Nat → Nat → Nat) (x : Nat) : tc s x ≤ 3 := fst_le _ _
theorem r_takesCount (h : RI S d m s) (b : BI s) (x : Nat) (hx : x < 75) : f_R_takesCount S d m (nI x) = some (nI (tc s x)) := by
  unfold f_R_takesCount
  refine itr_f (B := f_R_takesCount_B2 S d m) (fun k K => K (nI x) (nI k)) (fun k => decide (s 15 (3 * x + k) = 0)) 3 _ (by omega) ?_ ?_ ?_
  · intro k hk hp K hK
    simp (maxSteps := 1000000) (disch := omega) only [f_R_takesCount_B2, kd_t h.rs.1, rs_P15 h.rs, kd_t (rs_K15 h.rs), rs_N15 h.rs, ri_15 h, l0_e, l0_le, l0_ge, l0_lt, l0_gt, l1_m, l1_a, l1_b, l1_s, l1_e, l1_le, l1_ge, l1_lt, l1_gt, l3_m, l3_a, l3_b, l3_s, l3_e, l3_le, l3_ge, l3_lt, l3_gt, lt_t, nn_t, bd_t, bdD_t, bdP_t, nI_clamp, gi_n, nI_add, nI_1, pk_mul, b2_eq0, b2_01, nb_t, if_true, if_false, ni_le, ni_eq, ni_lt, l0_e _ (b.lt _ _)]
    rw [if_neg (by omega), if_neg (of_decide_eq_false hp)]
    exact hK
  · intro k hk hp he K
    simp (maxSteps := 1000000) (disch := omega) only [f_R_takesCount_B2, kd_t h.rs.1, rs_P15 h.rs, kd_t (rs_K15 h.rs), rs_N15 h.rs, ri_15 h, l0_e, l0_le, l0_ge, l0_lt, l0_gt, l1_m, l1_a, l1_b, l1_s, l1_e, l1_le, l1_ge, l1_lt, l1_gt, l3_m, l3_a, l3_b, l3_s, l3_e, l3_le, l3_ge, l3_lt, l3_gt, lt_t, nn_t, bd_t, bdD_t, bdP_t, nI_clamp, gi_n, nI_add, nI_1, pk_mul, b2_eq0, b2_01, nb_t, if_true, if_false, ni_le, ni_eq, ni_lt, l0_e _ (b.lt _ _)]
    rw [if_neg (by omega), if_pos (of_decide_eq_true hp), tc, he]
  · intro he K
    simp (maxSteps := 1000000) (disch := omega) only [f_R_takesCount_B2, kd_t h.rs.1, rs_P15 h.rs, kd_t (rs_K15 h.rs), rs_N15 h.rs, ri_15 h, l0_e, l0_le, l0_ge, l0_lt, l0_gt, l1_m, l1_a, l1_b, l1_s, l1_e, l1_le, l1_ge, l1_lt, l1_gt, l3_m, l3_a, l3_b, l3_s, l3_e, l3_le, l3_ge, l3_lt, l3_gt, lt_t, nn_t, bd_t, bdD_t, bdP_t, nI_clamp, gi_n, nI_add, nI_1, pk_mul, b2_eq0, b2_01, nb_t, if_true, if_false, ni_le, ni_eq, ni_lt, l0_e _ (b.lt _ _)]
    rw [if_pos (by omega), tc, he]
def thI (s : Nat → Nat → Nat) (v : Int32) : Bool := (decide (1 ≤ v) && decide (v ≤ 6)) || (decide (v = 7) || (cIn 8 (nI (s 3 0)) v || (cIn 24 (nI (24 + s 5 0)) v || (decide (41 ≤ v) && decide (v ≤ 46)))))
theorem r_there (h : RI S d m s) (v : Int32) : f_R_there S d m v = some (b2 (thI s v)) := by
  simp only [f_R_there, f_R_there_J36, r_isPlain, bd_t, kd_t h.rs.1, r_isClass h, r_isFace h, r_isBox, b2_eq0]
  unfold thI
  by_cases q1 : (decide (1 ≤ v) && decide (v ≤ 6)) = false
  · rw [if_pos q1, q1, Bool.false_or]
    by_cases q2 : v = 7
    · simp [q2, b2]
    · rw [if_neg q2, decide_eq_false q2, Bool.false_or]
      cases cIn 8 (nI (s 3 0)) v with
      | true => simp [b2]
      | false =>
        cases cIn 24 (nI (24 + s 5 0)) v with
        | true => simp [b2]
        | false => cases (decide (41 ≤ v) && decide (v ≤ 46)) <;> simp [b2]
  · rw [if_neg q1]
    rw [eq_true_of_ne_false q1]
    rfl
end ref
