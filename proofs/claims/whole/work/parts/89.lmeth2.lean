section ref
variable {S : gS} {d : gD} {m : Nat} {s : Nat → Nat → Nat}
theorem r_lm_52 (h : RI S d m s) (b : BI s) {f : Nat} (hf : f < s 5 0) (hlt : LT d m s f) (hr : Row d (m + 23) (72 * f) (own s f (s 12 f))) (Q : Option (Unit × gD) → Prop) {kx : gD → Int32 → Int32 → Option (Unit × gD)} {z : gD → Int32 → Int32 → Int32 → Option (Unit × gD)} (hk : ∀ e, RI S e m s → Ch (PL m) d e → LT e m s f → Row e (m + 23) (72 * f) (lst s f) → Q (kx e (nI f) (nI (lst s f).length))) : Q (itr (f_R_listMethods_B52 S m kx) z fu d (nI f) (nI (own s f (s 12 f)).length) 0) := by
  have hF := b.faces
  have hp := b.parentN f
  refine itr_q (B := f_R_listMethods_B52 S m kx) (fun (x : gD × Nat) K => K x.1 (nI f) (nI (inh s f (lst s) x.2).length) (nI x.2)) Q (fun k x => x.2 = k ∧ RI S x.1 m s ∧ Ch (PL m) d x.1 ∧ LT x.1 m s f ∧ Row x.1 (m + 23) (72 * f) (inh s f (lst s) k)) (s 11 f) (by omega) ?_ ?_ (x := (d, 0)) ⟨rfl, h, ch_r, hlt, hr⟩
  · rintro k hkk ⟨e, k'⟩ ⟨rfl, he, hc, hl2, hr2⟩ K hK
    simp only at hkk he hc hl2 hr2 hK ⊢
    have hpf := b.parentF f k' hkk
    simp (maxSteps := 1000000) (disch := omega) only [f_R_listMethods_B52, kd_t he.rs.1, rs_P10 he.rs, kd_t (rs_K10 he.rs), rs_N10 he.rs, ri_10 he, rs_P11 he.rs, kd_t (rs_K11 he.rs), rs_N11 he.rs, ri_11 he, l0_e, l0_le, l0_ge, l0_lt, l0_gt, l2_m, l2_a, l2_b, l2_s, l2_e, l2_le, l2_ge, l2_lt, l2_gt, lt_t, nn_t, bd_t, bdD_t, bdP_t, nI_clamp, gi_n, nI_add, nI_1, pk_mul, b2_eq0, b2_01, nb_t, if_true, if_false, ni_le, ni_eq, ni_lt]
    rw [if_neg (by omega)]
    refine r_lm_77 he b hf hpf hl2 (gl_inh b hf (fun g hg => gl_lst b _ g (Nat.lt_succ_self _) (by omega)) k' (by omega)) hr2 Q ?_
    intro e2 h1 h2 h3 h4
    simp (maxSteps := 1000000) (disch := omega) only [f_R_listMethods_J208, kd_t he.rs.1, l1_m, l1_a, l1_b, l1_s, l1_e, l1_le, l1_ge, l1_lt, l1_gt, lt_t, nn_t, bd_t, bdD_t, bdP_t, nI_clamp, gi_n, nI_add, nI_1, pk_mul, b2_eq0, b2_01, nb_t, if_true, if_false, ni_le, ni_eq, ni_lt]
    exact hK (e2, k' + 1) ⟨rfl, h1, ch_t hc h2, h3, h4⟩
  · rintro ⟨e, k'⟩ ⟨rfl, he, hc, hl2, hr2⟩ K
    simp only at he hc hl2 hr2 ⊢
    simp (maxSteps := 1000000) (disch := omega) only [f_R_listMethods_B52, kd_t he.rs.1, rs_P10 he.rs, kd_t (rs_K10 he.rs), rs_N10 he.rs, ri_10 he, rs_P11 he.rs, kd_t (rs_K11 he.rs), rs_N11 he.rs, ri_11 he, l0_e, l0_le, l0_ge, l0_lt, l0_gt, l2_m, l2_a, l2_b, l2_s, l2_e, l2_le, l2_ge, l2_lt, l2_gt, lt_t, nn_t, bd_t, bdD_t, bdP_t, nI_clamp, gi_n, nI_add, nI_1, pk_mul, b2_eq0, b2_01, nb_t, if_true, if_false, ni_le, ni_eq, ni_lt]
    rw [if_pos (by omega), ← lst_eq b]
    rw [← lst_eq b] at hr2
    exact hk e he hc hl2 hr2
theorem r_lm_14 (h : RI S d m s) (b : BI s) {f : Nat} (hf : f < s 5 0) (hlt : LT d m s f) (Q : Option (Unit × gD) → Prop) {kx : gD → Int32 → Int32 → Option (Unit × gD)} {z : gD → Int32 → Int32 → Int32 → Option (Unit × gD)} (hk : ∀ e, RI S e m s → Ch (PL m) d e → LT e m s f → Row e (m + 23) (72 * f) (own s f (s 12 f)) → Q (kx e (nI f) (nI (own s f (s 12 f)).length))) : Q (itr (f_R_listMethods_B14 S m kx) z fu d (nI f) 0 0) := by
  have hF := b.faces
  have hp := b.ownN f
  refine itr_q (B := f_R_listMethods_B14 S m kx) (fun (x : gD × Nat) K => K x.1 (nI f) (nI (own s f x.2).length) (nI x.2)) Q (fun k x => x.2 = k ∧ RI S x.1 m s ∧ Ch (PL m) d x.1 ∧ LT x.1 m s f ∧ Row x.1 (m + 23) (72 * f) (own s f k)) (s 12 f) (by omega) ?_ ?_ (x := (d, 0)) ⟨rfl, h, ch_r, hlt, row_n⟩
  · rintro k hkk ⟨e, k'⟩ ⟨rfl, he, hc, hl2, hr2⟩ K hK
    simp only at hkk he hc hl2 hr2 hK ⊢
    have hol := own_len s f k'
    simp (maxSteps := 1000000) (disch := omega) only [f_R_listMethods_B14, kd_t he.rs.1, rs_P12 he.rs, kd_t (rs_K12 he.rs), rs_N12 he.rs, ri_12 he, rs_P29 he.rs, kd_t (rs_K29 he.rs), rs_N29 he.rs, l1_m, l1_a, l1_b, l1_s, l1_e, l1_le, l1_ge, l1_lt, l1_gt, l6_m, l6_a, l6_b, l6_s, l6_e, l6_le, l6_ge, l6_lt, l6_gt, l72_m, l72_a, l72_b, l72_s, l72_e, l72_le, l72_ge, l72_lt, l72_gt, lt_t, nn_t, bd_t, bdD_t, bdP_t, nI_clamp, gi_n, nI_add, nI_1, pk_mul, b2_eq0, b2_01, nb_t, if_true, if_false, ni_le, ni_eq, ni_lt]
    rw [if_neg (by omega)]
    have hw : Ch (PL m) e (wI e (m + 23) (72 * f + (own s f k').length) (nI (6 * f + k'))) := ch_w (.inl rfl)
    have fin := hK (_, k' + 1) ⟨rfl, ri_PL he hw, ch_t hc hw, ?_, row_w hr2⟩
    · simp only at fin
      rw [own_len] at fin ⊢
      rw [own_len] at fin
      exact fin
    · have hw2 : Ch (fun a j => a = m + 23 ∧ j = 72 * f + (own s f k').length) e (wI e (m + 23) (72 * f + (own s f k').length) (nI (6 * f + k'))) := ch_w ⟨rfl, rfl⟩
      refine lt_ch hl2 hw2 (fun g hg => ⟨by omega, fun i hi => ?_⟩)
      have := gl_len b (gl_lst b _ g (Nat.lt_succ_self _) (by omega))
      omega
  · rintro ⟨e, k'⟩ ⟨rfl, he, hc, hl2, hr2⟩ K
    simp only at he hc hl2 hr2 ⊢
    simp (maxSteps := 1000000) (disch := omega) only [f_R_listMethods_B14, kd_t he.rs.1, rs_P12 he.rs, kd_t (rs_K12 he.rs), rs_N12 he.rs, ri_12 he, rs_P29 he.rs, kd_t (rs_K29 he.rs), rs_N29 he.rs, l1_m, l1_a, l1_b, l1_s, l1_e, l1_le, l1_ge, l1_lt, l1_gt, l6_m, l6_a, l6_b, l6_s, l6_e, l6_le, l6_ge, l6_lt, l6_gt, l72_m, l72_a, l72_b, l72_s, l72_e, l72_le, l72_ge, l72_lt, l72_gt, lt_t, nn_t, bd_t, bdD_t, bdP_t, nI_clamp, gi_n, nI_add, nI_1, pk_mul, b2_eq0, b2_01, nb_t, if_true, if_false, ni_le, ni_eq, ni_lt]
    rw [if_pos (by omega)]
    exact hk e he hc hl2 hr2
theorem r_listMethods (h : RI S d m s) (b : BI s) : ∃ e, f_R_listMethods S d m = some ((), e) ∧ Ch (PL m) d e ∧ LT e m s (s 5 0) := by
  have hF := b.faces
  unfold f_R_listMethods
  refine itr_q (B := f_R_listMethods_B2 S m) (fun (x : gD × Nat) K => K x.1 (nI x.2)) (fun t => ∃ e, t = some ((), e) ∧ Ch (PL m) d e ∧ LT e m s (s 5 0)) (fun k x => x.2 = k ∧ RI S x.1 m s ∧ Ch (PL m) d x.1 ∧ LT x.1 m s k) (s 5 0) (by omega) ?_ ?_ (x := (d, 0)) ⟨rfl, h, ch_r, fun g hg => absurd hg (Nat.not_lt_zero _)⟩
  · rintro k hkk ⟨e, k'⟩ ⟨rfl, he, hc, hl2⟩ K hK
    simp only at hkk he hc hl2 hK ⊢
    simp (maxSteps := 1000000) (disch := omega) only [f_R_listMethods_B2, kd_t he.rs.1, ri_5 he, l0_e, l0_le, l0_ge, l0_lt, l0_gt, lt_t, nn_t, bd_t, bdD_t, bdP_t, nI_clamp, gi_n, nI_add, nI_1, pk_mul, b2_eq0, b2_01, nb_t, if_true, if_false, ni_le, ni_eq, ni_lt]
    rw [if_neg (by omega)]
    refine r_lm_14 he b hkk hl2 (fun t => ∃ e, t = some ((), e) ∧ Ch (PL m) d e ∧ LT e m s (s 5 0)) ?_
    intro e2 h1 h2 h3 h4
    simp only [f_R_listMethods_J50]
    refine r_lm_52 h1 b hkk h3 h4 (fun t => ∃ e, t = some ((), e) ∧ Ch (PL m) d e ∧ LT e m s (s 5 0)) ?_
    intro e3 g1 g2 g3 g4
    simp (maxSteps := 1000000) (disch := omega) only [f_R_listMethods_J214, kd_t g1.rs.1, rs_P30 g1.rs, kd_t (rs_K30 g1.rs), rs_N30 g1.rs, l1_m, l1_a, l1_b, l1_s, l1_e, l1_le, l1_ge, l1_lt, l1_gt, lt_t, nn_t, bd_t, bdD_t, bdP_t, nI_clamp, gi_n, nI_add, nI_1, pk_mul, b2_eq0, b2_01, nb_t, if_true, if_false, ni_le, ni_eq, ni_lt]
    have hw : Ch (PL m) e3 (wI e3 (m + 24) k' (nI (lst s k').length)) := ch_w (.inr rfl)
    have hw2 : Ch (fun a j => a = m + 24 ∧ j = k') e3 (wI e3 (m + 24) k' (nI (lst s k').length)) := ch_w ⟨rfl, rfl⟩
    refine hK (wI e3 (m + 24) k' (nI (lst s k').length), k' + 1) ⟨rfl, ri_PL g1 hw, ch_t hc (ch_t h2 (ch_t g2 hw)), ?_⟩
    simp only
    have old := lt_ch g3 hw2 (fun g hg => ⟨by omega, fun i hi => by omega⟩)
    intro g hg
    by_cases q : g = k'
    · subst q
      exact ⟨by rw [dI_wI, if_pos ⟨rfl, rfl⟩], row_ch g4 hw2 (fun i hi => by omega)⟩
    · exact old g (by omega)
  · rintro ⟨e, k'⟩ ⟨rfl, he, hc, hl2⟩ K
    simp only at he hc hl2 ⊢
    simp (maxSteps := 1000000) (disch := omega) only [f_R_listMethods_B2, kd_t he.rs.1, ri_5 he, l0_e, l0_le, l0_ge, l0_lt, l0_gt, lt_t, nn_t, bd_t, bdD_t, bdP_t, nI_clamp, gi_n, nI_add, nI_1, pk_mul, b2_eq0, b2_01, nb_t, if_true, if_false, ni_le, ni_eq, ni_lt]
    rw [if_pos (by omega)]
    exact ⟨e, rfl, hc, hl2⟩
end ref
