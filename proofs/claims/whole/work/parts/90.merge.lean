def cl (l : List Nat) : Prop := nd l ∧ ∀ t, t ∈ l → 8 ≤ t ∧ t < 24
theorem cl_len {l : List Nat} (h : cl l) : l.length ≤ 16 := by
  have key : ∀ l : List Nat, nd l → (∀ t, t ∈ l → 8 ≤ t) → nd (l.map (fun t => t - 8)) ∧ ∀ y, y ∈ l.map (fun t => t - 8) → y + 8 ∈ l := by
    intro l
    induction l with
    | nil => intro _ _; exact ⟨trivial, fun y hy => absurd hy List.not_mem_nil⟩
    | cons x l ih =>
      intro hn hb
      have i := ih hn.2 (fun t ht => hb t (List.mem_cons_of_mem _ ht))
      have hx := hb x (List.mem_cons_self ..)
      refine ⟨⟨fun w => ?_, i.1⟩, fun y hy => ?_⟩
      · have := i.2 _ w
        rw [show x - 8 + 8 = x by omega] at this
        exact hn.1 this
      · rw [List.map_cons, List.mem_cons] at hy
        rcases hy with hy | hy
        · rw [hy, show x - 8 + 8 = x by omega]; exact List.mem_cons_self ..
        · exact List.mem_cons_of_mem _ (i.2 y hy)
  have k := key l h.1 (fun t ht => (h.2 t ht).1)
  have := nd_len 16 _ k.1 (fun y hy => by have := (h.2 _ (k.2 y hy)).2; omega)
  rwa [List.length_map] at this
theorem cl_app {l : List Nat} {t : Nat} (h : cl l) (n : t ∉ l) (h1 : 8 ≤ t) (h2 : t < 24) : cl (l ++ [t]) := by
  refine ⟨nd_app h.1 n, fun y hy => ?_⟩
  rw [List.mem_append, List.mem_singleton] at hy
  rcases hy with hy | hy
  · exact h.2 y hy
  · rw [hy]; exact ⟨h1, h2⟩
def thrK (s : Nat → Nat → Nat) (x : Nat) : Nat → List Nat
  | 0 => []
  | k + 1 => thrK s x k ++ [s 17 (3 * x + k)]
def thr (s : Nat → Nat → Nat) (x : Nat) : List Nat := thrK s x (s 16 x)
theorem thrK_len (s : Nat → Nat → Nat) (x k : Nat) : (thrK s x k).length = k := by
  induction k with
  | zero => rfl
  | succ k ih => unfold thrK; rw [List.length_append, ih]; rfl
theorem thr_len (s : Nat → Nat → Nat) (x : Nat) : (thr s x).length = s 16 x := thrK_len s x _
theorem thrK_at (s : Nat → Nat → Nat) (x : Nat) : ∀ k i, i < k → (thrK s x k).getD i 0 = s 17 (3 * x + i) := by
  intro k
  induction k with
  | zero => intro i h; omega
  | succ k ih =>
    intro i hi
    unfold thrK
    rw [getD_app, thrK_len]
    by_cases e : i = k
    · rw [if_pos e, e]
    · rw [if_neg e]; exact ih i (by omega)
theorem thr_at (s : Nat → Nat → Nat) (x i : Nat) (h : i < s 16 x) : (thr s x).getD i 0 = s 17 (3 * x + i) := thrK_at s x _ i h
theorem thrK_mem {s : Nat → Nat → Nat} {x k t : Nat} (h : t ∈ thrK s x k) : ∃ i, i < k ∧ t = s 17 (3 * x + i) := by
  obtain ⟨i, hi, e⟩ := mem_getD h
  rw [thrK_len] at hi
  rw [thrK_at s x k i hi] at e
  exact ⟨i, hi, e.symm⟩
theorem cl_thr {s : Nat → Nat → Nat} (b : BI s) (x : Nat) : cl (thr s x) := by
  have hc := b.classes
  have key : ∀ k, k ≤ s 16 x → cl (thrK s x k) := by
    intro k
    induction k with
    | zero => intro _; exact ⟨trivial, fun y hy => absurd hy List.not_mem_nil⟩
    | succ k ih =>
      intro hk
      have := b.throwT x k (by omega)
      refine cl_app (ih (by omega)) (fun w => ?_) this.1 (by omega)
      obtain ⟨i, hi, e⟩ := thrK_mem w
      exact b.throwD x i k hi (by omega) e.symm
  exact key _ (Nat.le_refl _)
noncomputable def bN (s : Nat → Nat → Nat) (t u : Nat) : Bool := bw s (nI t) (nI u)
noncomputable def bo (s : Nat → Nat → Nat) (t : Nat) (l : List Nat) : Bool := anyb (fun i => bN s t (l.getD i 0)) l.length
noncomputable def flK (s : Nat → Nat → Nat) (B T : List Nat) : Nat → List Nat
  | 0 => []
  | k + 1 => if bo s (B.getD k 0) T then flK s B T k ++ [B.getD k 0] else flK s B T k
noncomputable def mgK (s : Nat → Nat → Nat) (B T acc : List Nat) : Nat → List Nat
  | 0 => acc
  | k + 1 => if bo s (T.getD k 0) B && !decide (T.getD k 0 ∈ mgK s B T acc k) then mgK s B T acc k ++ [T.getD k 0] else mgK s B T acc k
noncomputable def mg (s : Nat → Nat → Nat) (B T : List Nat) : List Nat := mgK s B T (flK s B T B.length) T.length
theorem nd_getD {l : List Nat} (h : nd l) : ∀ i j, i < j → j < l.length → l.getD i 0 ≠ l.getD j 0 := by
  induction l with
  | nil => intro i j _ hj; exact absurd hj (Nat.not_lt_zero _)
  | cons x l ih =>
    intro i j hij hj
    cases j with
    | zero => omega
    | succ j =>
      rw [List.getD_cons_succ]
      rw [List.length_cons] at hj
      cases i with
      | zero =>
        rw [List.getD_cons_zero]
        intro e
        exact h.1 (by rw [e]; exact getD_mem (by omega))
      | succ i =>
        rw [List.getD_cons_succ]
        exact ih h.2 i j (by omega) (by omega)
theorem flK_mem {s : Nat → Nat → Nat} {B T : List Nat} {y : Nat} : ∀ k, y ∈ flK s B T k → ∃ i, i < k ∧ y = B.getD i 0 := by
  intro k
  induction k with
  | zero => intro h; exact absurd h List.not_mem_nil
  | succ k ih =>
    intro h
    unfold flK at h
    split at h
    · rw [List.mem_append, List.mem_singleton] at h
      rcases h with h | h
      · obtain ⟨i, hi, e⟩ := ih h
        exact ⟨i, by omega, e⟩
      · exact ⟨k, by omega, h⟩
    · obtain ⟨i, hi, e⟩ := ih h
      exact ⟨i, by omega, e⟩
theorem cl_flK {s : Nat → Nat → Nat} {B T : List Nat} (h : cl B) : ∀ k, k ≤ B.length → cl (flK s B T k) ∧ (flK s B T k).length ≤ k := by
  intro k
  induction k with
  | zero => intro _; exact ⟨⟨trivial, fun y hy => absurd hy List.not_mem_nil⟩, Nat.le_refl _⟩
  | succ k ih =>
    intro hk
    have i := ih (by omega)
    unfold flK
    split
    · have hm := h.2 _ (getD_mem (l := B) (i := k) (by omega))
      refine ⟨cl_app i.1 (fun w => ?_) hm.1 hm.2, by rw [List.length_append, List.length_singleton]; omega⟩
      obtain ⟨j, hj, e⟩ := flK_mem k w
      exact nd_getD h.1 j k hj (by omega) e.symm
    · exact ⟨i.1, by omega⟩
theorem cl_mgK {s : Nat → Nat → Nat} {B T acc : List Nat} (hT : cl T) (h : cl acc) : ∀ k, k ≤ T.length → cl (mgK s B T acc k) := by
  intro k
  induction k with
  | zero => intro _; exact h
  | succ k ih =>
    intro hk
    have i := ih (by omega)
    unfold mgK
    split
    · rename_i q
      have hm := hT.2 _ (getD_mem (l := T) (i := k) (by omega))
      refine cl_app i (fun w => ?_) hm.1 hm.2
      rw [decide_eq_true w] at q
      simp at q
    · exact i
theorem cl_mg {s : Nat → Nat → Nat} {B T : List Nat} (hB : cl B) (hT : cl T) : cl (mg s B T) := cl_mgK hT (cl_flK hB _ (Nat.le_refl _)).1 _ (Nat.le_refl _)
section ref
variable {S : gS} {d : gD} {m : Nat} {s : Nat → Nat → Nat}
theorem r_belowOneOf (h : RI S d m s) (b : BI s) (t x : Nat) (hx : x < 75) : f_R_belowOneOf S d m (nI t) (nI x) = some (b2 (bo s t (thr s x))) := by
  have ht := b.throwN x
  unfold f_R_belowOneOf
  refine itr_f (B := f_R_belowOneOf_B2 S d m) (fun k K => K (nI t) (nI x) (nI k)) (fun i => bN s t ((thr s x).getD i 0)) (thr s x).length _ (by rw [thr_len]; omega) ?_ ?_ ?_
  · intro k hk hp K hK
    rw [thr_len] at hk
    rw [thr_at s x k hk] at hp
    simp (maxSteps := 1000000) (disch := omega) only [f_R_belowOneOf_B2, kd_t h.rs.1, rs_P16 h.rs, kd_t (rs_K16 h.rs), rs_N16 h.rs, ri_16 h, rs_P17 h.rs, kd_t (rs_K17 h.rs), rs_N17 h.rs, ri_17 h, l0_e, l0_le, l0_ge, l0_lt, l0_gt, l1_m, l1_a, l1_b, l1_s, l1_e, l1_le, l1_ge, l1_lt, l1_gt, l3_m, l3_a, l3_b, l3_s, l3_e, l3_le, l3_ge, l3_lt, l3_gt, lt_t, nn_t, bd_t, bdD_t, bdP_t, nI_clamp, gi_n, nI_add, nI_1, pk_mul, b2_eq0, b2_01, nb_t, if_true, if_false, ni_le, ni_eq, ni_lt, r_isBelow h b]
    unfold bN at hp
    rw [if_neg (by omega), if_pos hp]
    exact hK
  · intro k hk hp he K
    have hk0 := hk
    rw [thr_len] at hk
    rw [thr_at s x k hk] at hp
    simp (maxSteps := 1000000) (disch := omega) only [f_R_belowOneOf_B2, kd_t h.rs.1, rs_P16 h.rs, kd_t (rs_K16 h.rs), rs_N16 h.rs, ri_16 h, rs_P17 h.rs, kd_t (rs_K17 h.rs), rs_N17 h.rs, ri_17 h, l0_e, l0_le, l0_ge, l0_lt, l0_gt, l1_m, l1_a, l1_b, l1_s, l1_e, l1_le, l1_ge, l1_lt, l1_gt, l3_m, l3_a, l3_b, l3_s, l3_e, l3_le, l3_ge, l3_lt, l3_gt, lt_t, nn_t, bd_t, bdD_t, bdP_t, nI_clamp, gi_n, nI_add, nI_1, pk_mul, b2_eq0, b2_01, nb_t, if_true, if_false, ni_le, ni_eq, ni_lt, r_isBelow h b]
    unfold bN at hp
    rw [if_neg (by omega), if_neg (by rw [hp]; decide), bo, anyb, he, decide_eq_true hk0]
    rfl
  · intro he K
    have hl := thr_len s x
    rw [hl]
    simp (maxSteps := 1000000) (disch := omega) only [f_R_belowOneOf_B2, kd_t h.rs.1, rs_P16 h.rs, kd_t (rs_K16 h.rs), rs_N16 h.rs, ri_16 h, rs_P17 h.rs, kd_t (rs_K17 h.rs), rs_N17 h.rs, ri_17 h, l0_e, l0_le, l0_ge, l0_lt, l0_gt, l1_m, l1_a, l1_b, l1_s, l1_e, l1_le, l1_ge, l1_lt, l1_gt, l3_m, l3_a, l3_b, l3_s, l3_e, l3_le, l3_ge, l3_lt, l3_gt, lt_t, nn_t, bd_t, bdD_t, bdP_t, nI_clamp, gi_n, nI_add, nI_1, pk_mul, b2_eq0, b2_01, nb_t, if_true, if_false, ni_le, ni_eq, ni_lt]
    rw [if_pos (by omega), bo, anyb, he, decide_eq_false (Nat.lt_irrefl _)]
    rfl
end ref
