section ref
variable {S : gS} {d : gD} {m : Nat} {s : Nat → Nat → Nat}
def PM (m j0 : Nat) (a j : Nat) : Prop := a = m + 28 ∨ (a = m + 26 ∧ 16 * j0 ≤ j ∧ j < 16 * j0 + 16) ∨ (a = m + 27 ∧ j = j0)
theorem ri_PM {e : gD} {j0 : Nat} (h : RI S d m s) (g : Ch (PM m j0) d e) : RI S e m s := ri_ch h g (fun a j p => by unfold PM at p; omega)
theorem r_mg_13 (h : RI S d m s) {j0 : Nat} (hj : j0 < 80) {B : List Nat} (hB : B.length ≤ 16) (hr : Row d (m + 26) (16 * j0) B) (Q : Option (Unit × gD) → Prop) {v2 v4 : Int32} {kx : gD → Int32 → Int32 → Int32 → Int32 → Option (Unit × gD)} {z : gD → Int32 → Int32 → Int32 → Int32 → Int32 → Option (Unit × gD)} (hk : ∀ e, Ch (fun a _ => a = m + 28) d e → Row e (m + 28) 0 B → Q (kx e (nI j0) v2 (nI B.length) v4)) : Q (itr (f_R_merge_B13 S m kx) z fu d (nI j0) v2 (nI B.length) v4 0) := by
  refine itr_q (B := f_R_merge_B13 S m kx) (fun (y : gD × Nat) K => K y.1 (nI j0) v2 (nI B.length) v4 (nI y.2)) Q (fun k y => y.2 = k ∧ Ch (fun a _ => a = m + 28) d y.1 ∧ ∀ i, i < k → dI y.1 (m + 28) i = nI (B.getD i 0)) B.length (by omega) ?_ ?_ (x := (d, 0)) ⟨rfl, ch_r, fun i hi => absurd hi (Nat.not_lt_zero _)⟩
  · rintro k hkk ⟨e, k'⟩ ⟨rfl, hc, hb⟩ K hK
    simp only at hkk hc hb hK ⊢
    have he : RI S e m s := ri_ch h hc (fun a j p => by omega)
    have hre := row_ch hr hc (fun i hi => by omega)
    simp (maxSteps := 1000000) (disch := omega) only [f_R_merge_B13, kd_t he.rs.1, rs_P33 he.rs, kd_t (rs_K33 he.rs), rs_N33 he.rs, rs_P35 he.rs, kd_t (rs_K35 he.rs), rs_N35 he.rs, l1_m, l1_a, l1_b, l1_s, l1_e, l1_le, l1_ge, l1_lt, l1_gt, l16_m, l16_a, l16_b, l16_s, l16_e, l16_le, l16_ge, l16_lt, l16_gt, lt_t, nn_t, bd_t, bdD_t, bdP_t, nI_clamp, gi_n, nI_add, nI_1, pk_mul, b2_eq0, b2_01, nb_t, if_true, if_false, ni_le, ni_eq, ni_lt, hre k' hkk]
    rw [if_neg (by omega)]
    refine hK (wI e (m + 28) k' (nI (B.getD k' 0)), k' + 1) ⟨rfl, ch_s hc rfl, fun i hi => ?_⟩
    show dI (wI e (m + 28) k' (nI (B.getD k' 0))) (m + 28) i = _
    rw [dI_wI]
    by_cases q : i = k'
    · rw [if_pos ⟨rfl, q⟩, q]
    · rw [if_neg (by omega)]; exact hb i (by omega)
  · rintro ⟨e, k'⟩ ⟨rfl, hc, hb⟩ K
    simp only at hc hb ⊢
    have he : RI S e m s := ri_ch h hc (fun a j p => by omega)
    simp (maxSteps := 1000000) (disch := omega) only [f_R_merge_B13, kd_t he.rs.1, rs_P33 he.rs, kd_t (rs_K33 he.rs), rs_N33 he.rs, rs_P35 he.rs, kd_t (rs_K35 he.rs), rs_N35 he.rs, l1_m, l1_a, l1_b, l1_s, l1_e, l1_le, l1_ge, l1_lt, l1_gt, l16_m, l16_a, l16_b, l16_s, l16_e, l16_le, l16_ge, l16_lt, l16_gt, lt_t, nn_t, bd_t, bdD_t, bdP_t, nI_clamp, gi_n, nI_add, nI_1, pk_mul, b2_eq0, b2_01, nb_t, if_true, if_false, ni_le, ni_eq, ni_lt]
    rw [if_pos (by omega)]
    exact hk e hc (fun i hi => by rw [Nat.zero_add]; exact hb i hi)
theorem r_mg_47 (h : RI S d m s) (b : BI s) {j0 x : Nat} (hj : j0 < 80) (hx : x < 75) {B : List Nat} (hB : cl B) (hr : Row d (m + 28) 0 B) (Q : Option (Unit × gD) → Prop) {kx : gD → Int32 → Int32 → Int32 → Int32 → Option (Unit × gD)} {z : gD → Int32 → Int32 → Int32 → Int32 → Int32 → Option (Unit × gD)} (hk : ∀ e, Ch (PM m j0) d e → Row e (m + 28) 0 B → Row e (m + 26) (16 * j0) (flK s B (thr s x) B.length) → Q (kx e (nI j0) (nI x) (nI B.length) (nI (flK s B (thr s x) B.length).length))) : Q (itr (f_R_merge_B47 S m kx) z fu d (nI j0) (nI x) (nI B.length) 0 0) := by
  have hl := cl_len hB
  refine itr_q (B := f_R_merge_B47 S m kx) (fun (y : gD × Nat) K => K y.1 (nI j0) (nI x) (nI B.length) (nI (flK s B (thr s x) y.2).length) (nI y.2)) Q (fun k y => y.2 = k ∧ Ch (PM m j0) d y.1 ∧ Row y.1 (m + 28) 0 B ∧ Row y.1 (m + 26) (16 * j0) (flK s B (thr s x) k)) B.length (by omega) ?_ ?_ (x := (d, 0)) ⟨rfl, ch_r, hr, row_n⟩
  · rintro k hkk ⟨e, k'⟩ ⟨rfl, hc, hb, ha⟩ K hK
    simp only at hkk hc hb ha hK ⊢
    have he := ri_PM h hc
    have hfl := cl_flK (s := s) (T := thr s x) hB k' (by omega)
    have hbk : dI e (m + 28) k' = nI (B.getD k' 0) := by have := hb k' hkk; rwa [Nat.zero_add] at this
    simp (maxSteps := 1000000) (disch := omega) only [f_R_merge_B47, f_R_merge_J90, kd_t he.rs.1, rs_P33 he.rs, kd_t (rs_K33 he.rs), rs_N33 he.rs, rs_P35 he.rs, kd_t (rs_K35 he.rs), rs_N35 he.rs, l0_e, l0_le, l0_ge, l0_lt, l0_gt, l1_m, l1_a, l1_b, l1_s, l1_e, l1_le, l1_ge, l1_lt, l1_gt, l16_m, l16_a, l16_b, l16_s, l16_e, l16_le, l16_ge, l16_lt, l16_gt, lt_t, nn_t, bd_t, bdD_t, bdP_t, nI_clamp, gi_n, nI_add, nI_1, pk_mul, b2_eq0, b2_01, nb_t, if_true, if_false, ni_le, ni_eq, ni_lt, hbk, r_belowOneOf he b]
    rw [if_neg (by omega)]
    have hst : flK s B (thr s x) (k' + 1) = if bo s (B.getD k' 0) (thr s x) then flK s B (thr s x) k' ++ [B.getD k' 0] else flK s B (thr s x) k' := rfl
    have fin := fun e' h1 h2 h3 => hK (e', k' + 1) ⟨rfl, h1, h2, h3⟩
    simp only at fin
    rw [hst] at fin
    cases q : bo s (B.getD k' 0) (thr s x) with
    | true =>
      rw [q, if_pos rfl, List.length_append, List.length_singleton] at fin
      rw [if_neg (by decide)]
      have cw : Ch (fun a j => a = m + 26 ∧ j = 16 * j0 + (flK s B (thr s x) k').length) e (wI e (m + 26) (16 * j0 + (flK s B (thr s x) k').length) (nI (B.getD k' 0))) := ch_w ⟨rfl, rfl⟩
      exact fin _ (ch_t hc (ch_m cw (fun a j p => .inr (.inl ⟨p.1, by omega, by omega⟩)))) (row_ch hb cw (fun i hi => by omega)) (row_w ha)
    | false =>
      rw [q, if_neg (by decide)] at fin
      rw [if_pos rfl]
      exact fin e hc hb ha
  · rintro ⟨e, k'⟩ ⟨rfl, hc, hb, ha⟩ K
    simp only at hc hb ha ⊢
    have he := ri_PM h hc
    simp (maxSteps := 1000000) (disch := omega) only [f_R_merge_B47, kd_t he.rs.1, rs_P33 he.rs, kd_t (rs_K33 he.rs), rs_N33 he.rs, rs_P35 he.rs, kd_t (rs_K35 he.rs), rs_N35 he.rs, l0_e, l0_le, l0_ge, l0_lt, l0_gt, l1_m, l1_a, l1_b, l1_s, l1_e, l1_le, l1_ge, l1_lt, l1_gt, l16_m, l16_a, l16_b, l16_s, l16_e, l16_le, l16_ge, l16_lt, l16_gt, lt_t, nn_t, bd_t, bdD_t, bdP_t, nI_clamp, gi_n, nI_add, nI_1, pk_mul, b2_eq0, b2_01, nb_t, if_true, if_false, ni_le, ni_eq, ni_lt]
    rw [if_pos (by omega)]
    exact hk e hc hb ha
theorem r_mg_132 (h : RI S d m s) (b : BI s) {t : Nat} {B : List Nat} (hl : B.length ≤ 16) (hb : Row d (m + 28) 0 B) {v1 v2 v4 v5 v8 : Int32} {kx : gD → Int32 → Int32 → Int32 → Int32 → Int32 → Int32 → Int32 → Int32 → Option (Unit × gD)} {z : gD → Int32 → Int32 → Int32 → Int32 → Int32 → Int32 → Int32 → Int32 → Int32 → Option (Unit × gD)} : itr (f_R_merge_B132 S m kx) z fu d v1 v2 (nI B.length) v4 v5 (nI t) 0 v8 0 = kx d v1 v2 (nI B.length) v4 v5 (nI t) (b2 (bo s t B)) v8 := by
  refine itr_0 (B := f_R_merge_B132 S m kx) (fun k K => K d v1 v2 (nI B.length) v4 v5 (nI t) (b2 (anyb (fun i => bN s t (B.getD i 0)) k)) v8 (nI k)) _ B.length (by omega) ?_ ?_
  · intro k hkk K hK
    have hbk : dI d (m + 28) k = nI (B.getD k 0) := by have := hb k hkk; rwa [Nat.zero_add] at this
    simp (maxSteps := 1000000) (disch := omega) only [f_R_merge_B132, f_R_merge_J157, kd_t h.rs.1, rs_P35 h.rs, kd_t (rs_K35 h.rs), rs_N35 h.rs, l0_e, l0_le, l0_ge, l0_lt, l0_gt, l1_m, l1_a, l1_b, l1_s, l1_e, l1_le, l1_ge, l1_lt, l1_gt, lt_t, nn_t, bd_t, bdD_t, bdP_t, nI_clamp, gi_n, nI_add, nI_1, pk_mul, b2_eq0, b2_01, nb_t, if_true, if_false, ni_le, ni_eq, ni_lt, hbk, r_isBelow h b]
    rw [if_neg (by omega)]
    rw [anyb_s] at hK
    cases q : bN s t (B.getD k 0) with
    | true =>
      rw [q, Bool.or_true] at hK
      unfold bN at q
      rw [if_neg (by rw [q]; decide)]
      exact hK
    | false =>
      rw [q, Bool.or_false] at hK
      unfold bN at q
      rw [if_pos q]
      exact hK
  · intro K
    simp (maxSteps := 1000000) (disch := omega) only [f_R_merge_B132, kd_t h.rs.1, rs_P35 h.rs, kd_t (rs_K35 h.rs), rs_N35 h.rs, l0_e, l0_le, l0_ge, l0_lt, l0_gt, l1_m, l1_a, l1_b, l1_s, l1_e, l1_le, l1_ge, l1_lt, l1_gt, lt_t, nn_t, bd_t, bdD_t, bdP_t, nI_clamp, gi_n, nI_add, nI_1, pk_mul, b2_eq0, b2_01, nb_t, if_true, if_false, ni_le, ni_eq, ni_lt]
    rw [if_pos (by omega)]
    rfl
theorem r_mg_166 (h : RI S d m s) {t j0 : Nat} (ht : t < 2 ^ 31) (hj : j0 < 80) {acc : List Nat} (hl : acc.length ≤ 16) (ha : ∀ y, y ∈ acc → y < 2 ^ 31) (hb : Row d (m + 26) (16 * j0) acc) {v2 v3 v5 v7 : Int32} {kx : gD → Int32 → Int32 → Int32 → Int32 → Int32 → Int32 → Int32 → Int32 → Option (Unit × gD)} {z : gD → Int32 → Int32 → Int32 → Int32 → Int32 → Int32 → Int32 → Int32 → Int32 → Option (Unit × gD)} : itr (f_R_merge_B166 S m kx) z fu d (nI j0) v2 v3 (nI acc.length) v5 (nI t) v7 0 0 = kx d (nI j0) v2 v3 (nI acc.length) v5 (nI t) v7 (b2 (decide (t ∈ acc))) := by
  rw [← anyb_mem]
  refine itr_0 (B := f_R_merge_B166 S m kx) (fun k K => K d (nI j0) v2 v3 (nI acc.length) v5 (nI t) v7 (b2 (anyb (fun j => decide (acc.getD j 0 = t)) k)) (nI k)) _ acc.length (by omega) ?_ ?_
  · intro k hkk K hK
    have hy := ha _ (getD_mem hkk)
    simp (maxSteps := 1000000) (disch := omega) only [f_R_merge_B166, f_R_merge_J193, kd_t h.rs.1, rs_P33 h.rs, kd_t (rs_K33 h.rs), rs_N33 h.rs, l1_m, l1_a, l1_b, l1_s, l1_e, l1_le, l1_ge, l1_lt, l1_gt, l16_m, l16_a, l16_b, l16_s, l16_e, l16_le, l16_ge, l16_lt, l16_gt, lt_t, nn_t, bd_t, bdD_t, bdP_t, nI_clamp, gi_n, nI_add, nI_1, pk_mul, b2_eq0, b2_01, nb_t, if_true, if_false, ni_le, ni_eq, ni_lt, hb k hkk]
    rw [if_neg (by omega)]
    rw [anyb_s] at hK
    by_cases q : acc.getD k 0 = t
    · rw [decide_eq_true q, Bool.or_true] at hK; rw [if_pos q]; exact hK
    · rw [decide_eq_false q, Bool.or_false] at hK; rw [if_neg q]; exact hK
  · intro K
    simp (maxSteps := 1000000) (disch := omega) only [f_R_merge_B166, kd_t h.rs.1, rs_P33 h.rs, kd_t (rs_K33 h.rs), rs_N33 h.rs, l1_m, l1_a, l1_b, l1_s, l1_e, l1_le, l1_ge, l1_lt, l1_gt, l16_m, l16_a, l16_b, l16_s, l16_e, l16_le, l16_ge, l16_lt, l16_gt, lt_t, nn_t, bd_t, bdD_t, bdP_t, nI_clamp, gi_n, nI_add, nI_1, pk_mul, b2_eq0, b2_01, nb_t, if_true, if_false, ni_le, ni_eq, ni_lt]
    rw [if_pos (by omega)]
theorem r_mg_99 (h : RI S d m s) (b : BI s) {j0 x : Nat} (hj : j0 < 80) (hx : x < 75) {B : List Nat} (hB : cl B) {acc : List Nat} (hac : cl acc) (hb : Row d (m + 28) 0 B) (ha : Row d (m + 26) (16 * j0) acc) (Q : Option (Unit × gD) → Prop) {kx : gD → Int32 → Int32 → Option (Unit × gD)} {z : gD → Int32 → Int32 → Int32 → Int32 → Int32 → Option (Unit × gD)} (hk : ∀ e, Ch (PM m j0) d e → Row e (m + 26) (16 * j0) (mgK s B (thr s x) acc (thr s x).length) → Q (kx e (nI j0) (nI (mgK s B (thr s x) acc (thr s x).length).length))) : Q (itr (f_R_merge_B99 S m kx) z fu d (nI j0) (nI x) (nI B.length) (nI acc.length) 0) := by
  have hl := cl_len hB
  have htn := b.throwN x
  have htl := thr_len s x
  have hct := cl_thr b x
  refine itr_q (B := f_R_merge_B99 S m kx) (fun (y : gD × Nat) K => K y.1 (nI j0) (nI x) (nI B.length) (nI (mgK s B (thr s x) acc y.2).length) (nI y.2)) Q (fun k y => y.2 = k ∧ Ch (PM m j0) d y.1 ∧ Row y.1 (m + 28) 0 B ∧ Row y.1 (m + 26) (16 * j0) (mgK s B (thr s x) acc k)) (thr s x).length (by omega) ?_ ?_ (x := (d, 0)) ⟨rfl, ch_r, hb, ha⟩
  · rintro k hkk ⟨e, k'⟩ ⟨rfl, hc, hb, ha⟩ K hK
    simp only at hkk hc hb ha hK ⊢
    have he := ri_PM h hc
    have hcm := cl_mgK (s := s) (B := B) hct hac k' (by omega)
    have hcm1 := cl_len (cl_mgK (s := s) (B := B) hct hac (k' + 1) (by omega))
    have hlm := cl_len hcm
    have hat := thr_at s x k' (by omega)
    have hb17 := b.lt 17 (3 * x + k')
    have hst : mgK s B (thr s x) acc (k' + 1) = if bo s ((thr s x).getD k' 0) B && !decide ((thr s x).getD k' 0 ∈ mgK s B (thr s x) acc k') then mgK s B (thr s x) acc k' ++ [(thr s x).getD k' 0] else mgK s B (thr s x) acc k' := rfl
    rw [hat] at hst
    have fin := fun e' h1 h2 h3 => hK (e', k' + 1) ⟨rfl, h1, h2, h3⟩
    simp only at fin
    rw [hst] at fin hcm1
    simp (maxSteps := 1000000) (disch := omega) only [f_R_merge_B99, f_R_merge_J163, kd_t he.rs.1, rs_P16 he.rs, kd_t (rs_K16 he.rs), rs_N16 he.rs, ri_16 he, rs_P17 he.rs, kd_t (rs_K17 he.rs), rs_N17 he.rs, ri_17 he, l0_e, l0_le, l0_ge, l0_lt, l0_gt, l3_m, l3_a, l3_b, l3_s, l3_e, l3_le, l3_ge, l3_lt, l3_gt, lt_t, nn_t, bd_t, bdD_t, bdP_t, nI_clamp, gi_n, nI_add, nI_1, pk_mul, b2_eq0, b2_01, nb_t, if_true, if_false, ni_le, ni_eq, ni_lt, r_mg_132 he b hl hb, r_mg_166 he hb17 hj hlm (fun y hy => by have := (hcm.2 y hy).2; omega) ha]
    rw [if_neg (by omega)]
    simp (maxSteps := 1000000) (disch := omega) only [f_R_merge_J199, f_R_merge_J226, kd_t he.rs.1, rs_P33 he.rs, kd_t (rs_K33 he.rs), rs_N33 he.rs, l0_e, l0_le, l0_ge, l0_lt, l0_gt, l1_m, l1_a, l1_b, l1_s, l1_e, l1_le, l1_ge, l1_lt, l1_gt, l16_m, l16_a, l16_b, l16_s, l16_e, l16_le, l16_ge, l16_lt, l16_gt, lt_t, nn_t, bd_t, bdD_t, bdP_t, nI_clamp, gi_n, nI_add, nI_1, pk_mul, b2_eq0, b2_01, nb_t, if_true, if_false, ni_le, ni_eq, ni_lt]
    cases q1 : bo s (s 17 (3 * x + k')) B with
    | false =>
      rw [q1, Bool.false_and, if_neg (by decide)] at fin
      rw [if_pos rfl]
      exact fin e hc hb ha
    | true =>
      rw [q1, Bool.true_and] at fin hcm1
      rw [if_neg (by decide)]
      cases q2 : decide (s 17 (3 * x + k') ∈ mgK s B (thr s x) acc k') with
      | true =>
        rw [q2, if_neg (by decide)] at fin
        rw [if_neg (by decide)]
        exact fin e hc hb ha
      | false =>
        rw [q2, if_pos (by decide), List.length_append, List.length_singleton] at fin hcm1
        rw [if_pos rfl]
        have cw : Ch (fun a j => a = m + 26 ∧ j = 16 * j0 + (mgK s B (thr s x) acc k').length) e (wI e (m + 26) (16 * j0 + (mgK s B (thr s x) acc k').length) (nI (s 17 (3 * x + k')))) := ch_w ⟨rfl, rfl⟩
        rw [gi_n (by omega) (by omega)]
        exact fin _ (ch_t hc (ch_m cw (fun a j p => .inr (.inl ⟨p.1, by omega, by omega⟩)))) (row_ch hb cw (fun i hi => by omega)) (row_w ha)
  · rintro ⟨e, k'⟩ ⟨rfl, hc, hb, ha⟩ K
    simp only at hc hb ha ⊢
    have he := ri_PM h hc
    rw [htl] at hk ⊢
    rw [htl] at ha
    simp (maxSteps := 1000000) (disch := omega) only [f_R_merge_B99, kd_t he.rs.1, rs_P16 he.rs, kd_t (rs_K16 he.rs), rs_N16 he.rs, ri_16 he, rs_P17 he.rs, kd_t (rs_K17 he.rs), rs_N17 he.rs, ri_17 he, l0_e, l0_le, l0_ge, l0_lt, l0_gt, l3_m, l3_a, l3_b, l3_s, l3_e, l3_le, l3_ge, l3_lt, l3_gt, lt_t, nn_t, bd_t, bdD_t, bdP_t, nI_clamp, gi_n, nI_add, nI_1, pk_mul, b2_eq0, b2_01, nb_t, if_true, if_false, ni_le, ni_eq, ni_lt]
    rw [if_pos (by omega)]
    exact hk e hc ha
theorem r_merge (h : RI S d m s) (b : BI s) {fl : List (Nat × List Nat)} (hf : FR d m fl) (hg : gf fl) (hl : fl.length ≤ 80) {j0 x : Nat} (hj : j0 < fl.length) (hx : x < 75) : ∃ e, f_R_merge S d m (nI j0) (nI x) = some ((), e) ∧ Ch (PF m) d e ∧ FR e m (fl.set j0 ((fl.getD j0 df).1, mg s (fl.getD j0 df).2 (thr s x))) := by
  have h31 := hf.1
  have ho := hf.2 j0 hj
  have hB := (hg j0 hj).2
  have hlB := cl_len hB
  have hct := cl_thr b x
  simp (maxSteps := 1000000) (disch := omega) only [f_R_merge, kd_t h.rs.1, rs_P34 h.rs, kd_t (rs_K34 h.rs), rs_N34 h.rs, l0_e, l0_le, l0_ge, l0_lt, l0_gt, lt_t, nn_t, bd_t, bdD_t, bdP_t, nI_clamp, gi_n, nI_add, nI_1, pk_mul, b2_eq0, b2_01, nb_t, if_true, if_false, ni_le, ni_eq, ni_lt, ho.2.1]
  refine r_mg_13 h (show j0 < 80 by omega) hlB ho.2.2 (fun t => ∃ e, t = some ((), e) ∧ Ch (PF m) d e ∧ FR e m (fl.set j0 ((fl.getD j0 df).1, mg s (fl.getD j0 df).2 (thr s x)))) ?_
  intro e1 c1 b1
  have i1 : RI S e1 m s := ri_ch h c1 (fun a j p => by omega)
  simp only [f_R_merge_J44]
  refine r_mg_47 i1 b (show j0 < 80 by omega) hx hB b1 (fun t => ∃ e, t = some ((), e) ∧ Ch (PF m) d e ∧ FR e m (fl.set j0 ((fl.getD j0 df).1, mg s (fl.getD j0 df).2 (thr s x)))) ?_
  intro e2 c2 b2' a2
  have i2 := ri_PM i1 c2
  simp only [f_R_merge_J96]
  refine r_mg_99 i2 b (show j0 < 80 by omega) hx hB (cl_flK hB _ (Nat.le_refl _)).1 b2' a2 (fun t => ∃ e, t = some ((), e) ∧ Ch (PF m) d e ∧ FR e m (fl.set j0 ((fl.getD j0 df).1, mg s (fl.getD j0 df).2 (thr s x)))) ?_
  intro e3 c3 a3
  have i3 := ri_PM i2 c3
  have hcm := cl_len (cl_mg (s := s) hB hct)
  simp (maxSteps := 1000000) (disch := omega) only [f_R_merge_J232, kd_t i3.rs.1, rs_P34 i3.rs, kd_t (rs_K34 i3.rs), rs_N34 i3.rs, lt_t, nn_t, bd_t, bdD_t, bdP_t, nI_clamp, gi_n, nI_add, nI_1, pk_mul, b2_eq0, b2_01, nb_t, if_true, if_false, ni_le, ni_eq, ni_lt]
  have call : Ch (PM m j0) d (wI e3 (m + 27) j0 (nI (mg s (fl.getD j0 df).2 (thr s x)).length)) := ch_s (ch_t (ch_m c1 (fun a j p => .inl p)) (ch_t c2 c3)) (.inr (.inr ⟨rfl, rfl⟩))
  refine ⟨_, rfl, ch_m call (fun a j p => by unfold PM at p; unfold PF; omega), ?_, ?_⟩
  · rw [List.length_set]
    refine (call.2 m 31 (by unfold PM; omega)).trans h31
  · intro i hi
    rw [List.length_set] at hi
    rw [getD_set hj]
    have o := hf.2 i hi
    have g16 := cl_len (hg i hi).2
    by_cases q : i = j0
    · subst q
      rw [if_pos rfl]
      have cw : Ch (fun a j => a = m + 27 ∧ j = i) e3 (wI e3 (m + 27) i (nI (mg s (fl.getD i df).2 (thr s x)).length)) := ch_w ⟨rfl, rfl⟩
      refine ⟨(call.2 _ _ (by unfold PM; omega)).trans o.1, ?_, ?_⟩
      · show dI (wI e3 (m + 27) i (nI (mg s (fl.getD i df).2 (thr s x)).length)) (m + 27) i = _
        rw [dI_wI, if_pos ⟨rfl, rfl⟩]
      · exact row_ch a3 cw (fun k hk => by omega)
    · rw [if_neg q]
      exact ⟨(call.2 _ _ (by unfold PM; omega)).trans o.1, (call.2 _ _ (by unfold PM; omega)).trans o.2.1, row_ch o.2.2 call (fun k hk => by unfold PM; omega)⟩
end ref
