def sz (k : Nat × Nat × Nat) : Nat := if k.1 = 2 then 3 else 2
def eB (k : Nat × Nat × Nat) : List Nat := if k.1 = 2 then [k.1, k.2.1, k.2.2] else [k.1, k.2.1]
def fB : List (Nat × Nat × Nat) → List Nat
  | [] => []
  | k :: p => eB k ++ fB p
def pbK (p : List (Nat × Nat × Nat)) : Nat → Nat
  | 0 => 0
  | k + 1 => pbK p k + sz (p.getD k te)
def uBy (w : List (Nat × Nat × Nat) × List Nat) : List Nat := [70, 1, w.1.length] ++ (fB w.1 ++ w.2)
theorem eB_len (k : Nat × Nat × Nat) : (eB k).length = sz k := by
  unfold eB sz
  split <;> rfl
theorem pbK_cons (k : Nat × Nat × Nat) (p : List (Nat × Nat × Nat)) : ∀ n, pbK (k :: p) (n + 1) = sz k + pbK p n := by
  intro n
  induction n with
  | zero => show 0 + sz k = sz k + 0; omega
  | succ n ih =>
    show pbK (k :: p) (n + 1) + sz ((k :: p).getD (n + 1) te) = sz k + (pbK p n + sz (p.getD n te))
    rw [ih, List.getD_cons_succ]
    omega
theorem fB_len (p : List (Nat × Nat × Nat)) : (fB p).length = pbK p p.length := by
  induction p with
  | nil => rfl
  | cons k p ih => rw [List.length_cons, pbK_cons, fB, List.length_append, eB_len, ih]
theorem sz_le (k : Nat × Nat × Nat) : 2 ≤ sz k ∧ sz k ≤ 3 := by unfold sz; split <;> omega
theorem pbK_le (p : List (Nat × Nat × Nat)) (n : Nat) : pbK p n ≤ 3 * n := by
  induction n with
  | zero => exact Nat.le_refl _
  | succ n ih => have := sz_le (p.getD n te); unfold pbK; omega
theorem getD_ap {l r : List Nat} {i : Nat} : (l ++ r).getD i 0 = if i < l.length then l.getD i 0 else r.getD (i - l.length) 0 := by
  rw [List.getD_eq_getElem?_getD, List.getElem?_append]
  split
  · rw [List.getD_eq_getElem?_getD]
  · rw [List.getD_eq_getElem?_getD]
theorem fB_at (p : List (Nat × Nat × Nat)) : ∀ e o, e < p.length → o < sz (p.getD e te) → (fB p).getD (pbK p e + o) 0 = (eB (p.getD e te)).getD o 0 := by
  induction p with
  | nil => intro e o h; exact absurd h (Nat.not_lt_zero _)
  | cons k p ih =>
    intro e o he ho
    rw [fB, getD_ap, eB_len]
    cases e with
    | zero =>
      rw [List.getD_cons_zero] at ho ⊢
      rw [if_pos (by show 0 + o < sz k; omega)]
      show (eB k).getD (0 + o) 0 = _
      rw [Nat.zero_add]
    | succ e =>
      rw [List.getD_cons_succ] at ho ⊢
      rw [List.length_cons] at he
      rw [pbK_cons, if_neg (by omega), show sz k + pbK p e + o - sz k = pbK p e + o by omega]
      exact ih e o (by omega) ho
theorem eB_at {k : Nat × Nat × Nat} {o : Nat} (h : o < sz k) : (eB k).getD o 0 = if o = 0 then k.1 else if o = 1 then k.2.1 else k.2.2 := by
  unfold sz at h
  unfold eB
  by_cases q : k.1 = 2
  · rw [if_pos q] at h ⊢
    match o, h with
    | 0, _ => rfl
    | 1, _ => rfl
    | 2, _ => rfl
  · rw [if_neg q] at h ⊢
    match o, h with
    | 0, _ => rfl
    | 1, _ => rfl
theorem uBy_0 {w : List (Nat × Nat × Nat) × List Nat} {i : Nat} : (uBy w).getD (3 + i) 0 = (fB w.1 ++ w.2).getD i 0 := by
  unfold uBy
  rw [getD_ap]
  simp only [List.length_cons, List.length_nil]
  rw [if_neg (by omega), show 3 + i - (0 + 1 + 1 + 1) = i by omega]
theorem uBy_len (w : List (Nat × Nat × Nat) × List Nat) : (uBy w).length = 3 + pbK w.1 w.1.length + w.2.length := by
  unfold uBy
  simp only [List.length_append, List.length_cons, List.length_nil, fB_len]
  omega
def oB (l : List Nat) (i : Nat) : Int32 := if i < l.length then nI (l.getD i 0) else -1
section ref
variable {S : gS} {d : gD} {m : Nat} {s : Nat → Nat → Nat}
theorem sz_if {k : Nat × Nat × Nat} {α : Type} {a c : α} : (if k.1 = 2 then a else c) = if sz k = 3 then a else c := by
  unfold sz
  by_cases q : k.1 = 2
  · rw [if_pos q, if_pos q, if_pos rfl]
  · rw [if_neg q, if_neg q, if_neg (by decide)]
theorem r_poolBytes (h : RI S d m s) {w : List (Nat × Nat × Nat) × List Nat} (hw : WR d m w) (hp : GP w.1) : f_R_poolBytes S d m = some (nI (pbK w.1 w.1.length)) := by
  have hl := GP_len hp
  unfold f_R_poolBytes
  refine itr_0 (B := f_R_poolBytes_B4 S d m) (fun k K => K (nI (pbK w.1 k)) (nI k)) _ w.1.length (by omega) ?_ ?_
  · intro k hk K hK
    have o := hw.2.2.2 k hk
    have ob : (w.1.getD k te).1 < 2 ^ 31 := by have := hp.1 _ (getT_mem hk); unfold ve at this; omega
    simp (maxSteps := 1000000) (disch := omega) only [f_R_poolBytes_B4, f_R_poolBytes_J30, kd_t h.rs.1, rs_P41 h.rs, kd_t (rs_K41 h.rs), rs_N41 h.rs, l1_m, l1_a, l1_b, l1_s, l1_e, l1_le, l1_ge, l1_lt, l1_gt, l2_m, l2_a, l2_b, l2_s, l2_e, l2_le, l2_ge, l2_lt, l2_gt, l3_m, l3_a, l3_b, l3_s, l3_e, l3_le, l3_ge, l3_lt, l3_gt, lt_t, nn_t, bd_t, bdD_t, bdP_t, nI_clamp, gi_n, nI_add, nI_1, pk_mul, b2_eq0, b2_01, nb_t, if_true, if_false, ni_le, ni_eq, ni_lt, hw.2.2.1, o.1]
    rw [if_neg (by omega)]
    have pk1 : pbK w.1 (k + 1) = pbK w.1 k + sz (w.1.getD k te) := rfl
    rw [pk1] at hK
    unfold sz at hK
    by_cases q : (w.1.getD k te).1 = 2
    · rw [if_pos q] at hK ⊢; exact hK
    · rw [if_neg q] at hK ⊢; exact hK
  · intro K
    simp (maxSteps := 1000000) (disch := omega) only [f_R_poolBytes_B4, kd_t h.rs.1, rs_P41 h.rs, kd_t (rs_K41 h.rs), rs_N41 h.rs, l2_m, l2_a, l2_b, l2_s, l2_e, l2_le, l2_ge, l2_lt, l2_gt, l3_m, l3_a, l3_b, l3_s, l3_e, l3_le, l3_ge, l3_lt, l3_gt, lt_t, nn_t, bd_t, bdD_t, bdP_t, nI_clamp, gi_n, nI_add, nI_1, pk_mul, b2_eq0, b2_01, nb_t, if_true, if_false, ni_le, ni_eq, ni_lt, hw.2.2.1]
    rw [if_pos (by omega)]
theorem r_unitByte (h : RI S d m s) {w : List (Nat × Nat × Nat) × List Nat} (hw : WR d m w) (hp : GP w.1) (hl : w.2.length ≤ 3600) {i : Nat} (hi : i < 2 ^ 31) : f_R_unitByte S d m (nI i) = some (oB (uBy w) i) := by
  have hlp := GP_len hp
  have hpk := pbK_le w.1 w.1.length
  have hlen := uBy_len w
  unfold f_R_unitByte
  simp only [l3_ge i hi, l0_e i hi, l1_e i hi]
  by_cases q3 : 3 ≤ i
  · rw [if_pos q3]
    obtain ⟨i', rfl⟩ : ∃ j, i = 3 + j := ⟨i - 3, by omega⟩
    have c0 : (3 : Int32) = nI (3 + pbK w.1 0) := rfl
    rw [c0]
    have mono : ∀ n, n ≤ w.1.length → pbK w.1 n ≤ 3 * n := fun n _ => pbK_le w.1 n
    refine itr_f (B := f_R_unitByte_B32 S d m (f_R_unitByte_J67 S d m) (f_R_unitByte_J91 S d m)) (fun k K => K (nI (3 + i')) (nI (3 + pbK w.1 k)) (nI k)) (fun k => decide (3 + i' < 3 + pbK w.1 (k + 1))) w.1.length _ (by omega) ?_ ?_ ?_
    · intro k hk hp2 K hK
      have o := hw.2.2.2 k hk
      have ob : (w.1.getD k te).1 < 2 ^ 31 := by have := hp.1 _ (getT_mem hk); unfold ve at this; omega
      have hm := mono k (by omega)
      have pk1 : pbK w.1 (k + 1) = pbK w.1 k + sz (w.1.getD k te) := rfl
      rw [pk1] at hK hp2
      have hp3 := of_decide_eq_false hp2
      simp (maxSteps := 1000000) (disch := omega) only [f_R_unitByte_B32, f_R_unitByte_J57, kd_t h.rs.1, rs_P41 h.rs, kd_t (rs_K41 h.rs), rs_N41 h.rs, l1_m, l1_a, l1_b, l1_s, l1_e, l1_le, l1_ge, l1_lt, l1_gt, l2_m, l2_a, l2_b, l2_s, l2_e, l2_le, l2_ge, l2_lt, l2_gt, l3_m, l3_a, l3_b, l3_s, l3_e, l3_le, l3_ge, l3_lt, l3_gt, lt_t, nn_t, bd_t, bdD_t, bdP_t, nI_clamp, gi_n, nI_add, nI_1, pk_mul, b2_eq0, b2_01, nb_t, if_true, if_false, ni_le, ni_eq, ni_lt, hw.2.2.1, o.1]
      rw [if_neg (by omega)]
      unfold sz at hK hp3
      by_cases q : (w.1.getD k te).1 = 2
      · rw [if_pos q] at hK hp3 ⊢; rw [if_pos (by omega), show 3 + pbK w.1 k + 3 = 3 + (pbK w.1 k + 3) by omega]; exact hK
      · rw [if_neg q] at hK hp3 ⊢; rw [if_pos (by omega), show 3 + pbK w.1 k + 2 = 3 + (pbK w.1 k + 2) by omega]; exact hK
    · intro k hk hp2 he K
      have o := hw.2.2.2 k hk
      have ob : (w.1.getD k te).1 < 2 ^ 31 := by have := hp.1 _ (getT_mem hk); unfold ve at this; omega
      have hm := mono k (by omega)
      have pk1 : pbK w.1 (k + 1) = pbK w.1 k + sz (w.1.getD k te) := rfl
      have hp3 := of_decide_eq_true hp2
      rw [pk1] at hp3
      have hlo : pbK w.1 k ≤ i' := by
        cases k with
        | zero => exact Nat.zero_le _
        | succ k =>
          have no := of_decide_eq_false (fst_no (fun k => decide (3 + i' < 3 + pbK w.1 (k + 1))) w.1.length k (by omega))
          omega
      obtain ⟨r, hr⟩ : ∃ r, i' = pbK w.1 k + r := ⟨i' - pbK w.1 k, by omega⟩
      have hsz := sz_le (w.1.getD k te)
      have val : oB (uBy w) (3 + i') = nI (if r = 0 then (w.1.getD k te).1 else if r = 1 then (w.1.getD k te).2.1 else (w.1.getD k te).2.2) := by
        have le1 : pbK w.1 k + r < pbK w.1 w.1.length := by
          have mon : ∀ n, k + 1 ≤ n → pbK w.1 (k + 1) ≤ pbK w.1 n := by
            intro n hn
            induction n with
            | zero => omega
            | succ n ih =>
              by_cases e : k + 1 = n + 1
              · rw [e]; exact Nat.le_refl _
              · have := ih (by omega)
                unfold pbK at this ⊢
                show pbK w.1 k + sz (w.1.getD k te) ≤ pbK w.1 n + sz (w.1.getD n te)
                have e2 : pbK w.1 (k + 1) ≤ pbK w.1 n := ih (by omega)
                rw [pk1] at e2
                omega
          have := mon w.1.length (by omega)
          rw [pk1] at this
          omega
        unfold oB
        rw [if_pos (by omega), uBy_0, getD_ap, fB_len, hr, if_pos le1, fB_at w.1 k r hk (by omega), eB_at (by omega)]
      rw [val]
      have fin : f_R_unitByte_J67 S d m (nI (3 + i')) (nI (3 + pbK w.1 k)) (nI k) = some (nI (if r = 0 then (w.1.getD k te).1 else if r = 1 then (w.1.getD k te).2.1 else (w.1.getD k te).2.2)) := by
        have e1 : nI (3 * k + (3 + i')) - nI (3 + pbK w.1 k) = nI (3 * k + r) := by rw [pk_sub (by omega)]; congr 1; omega
        simp (maxSteps := 1000000) (disch := omega) only [f_R_unitByte_J67, kd_t h.rs.1, rs_P41 h.rs, kd_t (rs_K41 h.rs), rs_N41 h.rs, l3_m, l3_a, l3_b, l3_s, l3_e, l3_le, l3_ge, l3_lt, l3_gt, lt_t, nn_t, bd_t, bdD_t, bdP_t, nI_clamp, gi_n, nI_add, nI_1, pk_mul, b2_eq0, b2_01, nb_t, if_true, if_false, ni_le, ni_eq, ni_lt, e1]
        have r3 : r = 0 ∨ r = 1 ∨ r = 2 := by omega
        rcases r3 with e | e | e
        · rw [e, if_pos rfl, show 3 * k + 0 = 3 * k from rfl, o.1]
        · rw [e, if_neg (by decide), if_pos rfl, o.2.1]
        · rw [e, if_neg (by decide), if_neg (by decide), o.2.2]
      simp (maxSteps := 1000000) (disch := omega) only [f_R_unitByte_B32, f_R_unitByte_J57, kd_t h.rs.1, rs_P41 h.rs, kd_t (rs_K41 h.rs), rs_N41 h.rs, l1_m, l1_a, l1_b, l1_s, l1_e, l1_le, l1_ge, l1_lt, l1_gt, l2_m, l2_a, l2_b, l2_s, l2_e, l2_le, l2_ge, l2_lt, l2_gt, l3_m, l3_a, l3_b, l3_s, l3_e, l3_le, l3_ge, l3_lt, l3_gt, lt_t, nn_t, bd_t, bdD_t, bdP_t, nI_clamp, gi_n, nI_add, nI_1, pk_mul, b2_eq0, b2_01, nb_t, if_true, if_false, ni_le, ni_eq, ni_lt, hw.2.2.1, o.1]
      rw [if_neg (by omega)]
      unfold sz at hp3
      by_cases q : (w.1.getD k te).1 = 2
      · rw [if_pos q] at hp3 ⊢; rw [if_neg (by omega)]; exact fin
      · rw [if_neg q] at hp3 ⊢; rw [if_neg (by omega)]; exact fin
    · intro he K
      have hge : pbK w.1 w.1.length ≤ i' := by
        cases hn : w.1.length with
        | zero => exact Nat.zero_le _
        | succ n =>
          have no := of_decide_eq_false (fst_no (fun k => decide (3 + i' < 3 + pbK w.1 (k + 1))) w.1.length n (by omega))
          omega
      have e1 : nI (3 + i') - nI (3 + pbK w.1 w.1.length) = nI (i' - pbK w.1 w.1.length) := by rw [pk_sub (by omega)]; congr 1; omega
      simp (maxSteps := 1000000) (disch := omega) only [f_R_unitByte_B32, kd_t h.rs.1, rs_P41 h.rs, kd_t (rs_K41 h.rs), rs_N41 h.rs, l2_m, l2_a, l2_b, l2_s, l2_e, l2_le, l2_ge, l2_lt, l2_gt, l3_m, l3_a, l3_b, l3_s, l3_e, l3_le, l3_ge, l3_lt, l3_gt, lt_t, nn_t, bd_t, bdD_t, bdP_t, nI_clamp, gi_n, nI_add, nI_1, pk_mul, b2_eq0, b2_01, nb_t, if_true, if_false, ni_le, ni_eq, ni_lt, hw.2.2.1]
      rw [if_pos (by omega)]
      by_cases q : w.2.length ≤ i' - pbK w.1 w.1.length
      · simp (maxSteps := 1000000) (disch := omega) only [f_R_unitByte_J91, kd_t h.rs.1, rs_P39 h.rs, kd_t (rs_K39 h.rs), rs_N39 h.rs, lt_t, nn_t, bd_t, bdD_t, bdP_t, nI_clamp, gi_n, nI_add, nI_1, pk_mul, b2_eq0, b2_01, nb_t, if_true, if_false, ni_le, ni_eq, ni_lt, hw.1, e1]
        rw [if_pos q]
        unfold oB
        rw [if_neg (by omega)]
      · have hrow := hw.2.1 (i' - pbK w.1 w.1.length) (by omega)
        rw [Nat.zero_add] at hrow
        simp (maxSteps := 1000000) (disch := omega) only [f_R_unitByte_J91, kd_t h.rs.1, rs_P39 h.rs, kd_t (rs_K39 h.rs), rs_N39 h.rs, lt_t, nn_t, bd_t, bdD_t, bdP_t, nI_clamp, gi_n, nI_add, nI_1, pk_mul, b2_eq0, b2_01, nb_t, if_true, if_false, ni_le, ni_eq, ni_lt, hw.1, e1, hrow]
        rw [if_neg q]
        unfold oB
        rw [if_pos (by omega), uBy_0, getD_ap, fB_len, if_neg (by omega)]
  · rw [if_neg q3]
    unfold oB
    rw [if_pos (show i < (uBy w).length by omega)]
    by_cases q0 : i = 0
    · rw [if_pos q0, q0]; rfl
    · rw [if_neg q0]
      by_cases q1 : i = 1
      · rw [if_pos q1, q1]; rfl
      · have q2 : i = 2 := by omega
        rw [if_neg q1, kd_t h.rs.1, lt_t, hw.2.2.1, q2]
        rfl
end ref
