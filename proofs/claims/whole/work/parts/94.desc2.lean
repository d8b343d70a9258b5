def PD (m : Nat) (a j : Nat) : Prop := (a = m ∧ j = 31) ∨ (m + 23 ≤ a ∧ a ≤ m + 29)
section ref
variable {S : gS} {d : gD} {m : Nat} {s : Nat → Nat → Nat}
theorem ri_PD {e : gD} (h : RI S d m s) (g : Ch (PD m) d e) : RI S e m s := ri_ch h g (fun a j p => by unfold PD at p; omega)
theorem pf_pd (a j : Nat) (p : PF m a j) : PD m a j := by unfold PF at p; unfold PD; omega
theorem r_ds_89 (h : RI S d m s) (b : BI s) {fl : List (Nat × List Nat)} (hf : FR d m fl) (hg : GF s fl) {x : Nat} (hx : x < 75) {v1 v2 v3 v4 : Int32} {kx : gD → Int32 → Int32 → Int32 → Int32 → Int32 → Int32 → Option (Unit × gD)} {z : gD → Int32 → Int32 → Int32 → Int32 → Int32 → Int32 → Option (Unit × gD)} : itr (f_R_describe_B89 S m kx) z fu d v1 v2 v3 v4 (nI x) 0 = kx d v1 v2 v3 v4 (nI x) (nI (fst (hitP s fl x) fl.length)) := by
  have hl := GF_len hg
  refine itr_f (B := f_R_describe_B89 S m kx) (fun k K => K d v1 v2 v3 v4 (nI x) (nI k)) (hitP s fl x) fl.length _ (by omega) ?_ ?_ ?_
  · intro k hk hp K hK
    have o := hf.2 k hk
    have g75 := (hg.2.1 k hk).1
    simp (maxSteps := 1000000) (disch := omega) only [f_R_describe_B89, f_R_describe_J136, kd_t h.rs.1, rs_P14 h.rs, kd_t (rs_K14 h.rs), rs_N14 h.rs, ri_14 h, rs_P32 h.rs, kd_t (rs_K32 h.rs), rs_N32 h.rs, l0_e, l0_le, l0_ge, l0_lt, l0_gt, l1_m, l1_a, l1_b, l1_s, l1_e, l1_le, l1_ge, l1_lt, l1_gt, lt_t, nn_t, bd_t, bdD_t, bdP_t, nI_clamp, gi_n, nI_add, nI_1, pk_mul, b2_eq0, b2_01, nb_t, if_true, if_false, ni_le, ni_eq, ni_lt, hf.1, o.1, r_sameSignature h b, ni_eq _ _ (b.lt _ _) (b.lt _ _)]
    rw [if_neg (by omega)]
    unfold hitP at hp
    cases q : sg s (fl.getD k df).1 x with
    | false => rw [if_pos rfl]; exact hK
    | true =>
      rw [q, Bool.true_and] at hp
      rw [if_neg (by decide), if_neg (of_decide_eq_false hp)]
      exact hK
  · intro k hk hp he K
    have o := hf.2 k hk
    have g75 := (hg.2.1 k hk).1
    simp (maxSteps := 1000000) (disch := omega) only [f_R_describe_B89, f_R_describe_J136, kd_t h.rs.1, rs_P14 h.rs, kd_t (rs_K14 h.rs), rs_N14 h.rs, ri_14 h, rs_P32 h.rs, kd_t (rs_K32 h.rs), rs_N32 h.rs, l0_e, l0_le, l0_ge, l0_lt, l0_gt, l1_m, l1_a, l1_b, l1_s, l1_e, l1_le, l1_ge, l1_lt, l1_gt, lt_t, nn_t, bd_t, bdD_t, bdP_t, nI_clamp, gi_n, nI_add, nI_1, pk_mul, b2_eq0, b2_01, nb_t, if_true, if_false, ni_le, ni_eq, ni_lt, hf.1, o.1, r_sameSignature h b, ni_eq _ _ (b.lt _ _) (b.lt _ _)]
    rw [if_neg (by omega)]
    unfold hitP at hp
    rw [Bool.and_eq_true] at hp
    rw [if_neg (by rw [hp.1]; decide), if_pos (of_decide_eq_true hp.2), he]
  · intro he K
    simp (maxSteps := 1000000) (disch := omega) only [f_R_describe_B89, kd_t h.rs.1, rs_P14 h.rs, kd_t (rs_K14 h.rs), rs_N14 h.rs, ri_14 h, rs_P32 h.rs, kd_t (rs_K32 h.rs), rs_N32 h.rs, l0_e, l0_le, l0_ge, l0_lt, l0_gt, lt_t, nn_t, bd_t, bdD_t, bdP_t, nI_clamp, gi_n, nI_add, nI_1, pk_mul, b2_eq0, b2_01, nb_t, if_true, if_false, ni_le, ni_eq, ni_lt, hf.1]
    rw [if_pos (by omega), he]
theorem r_ds_tk (h : RI S d m s) (b : BI s) {fl : List (Nat × List Nat)} (hf : FR d m fl) (hg : GF s fl) {x : Nat} (hx : x < 75) {v1 v2 v3 v4 : Int32} (Q : Option (Unit × gD) → Prop) {kx : gD → Int32 → Int32 → Option (Unit × gD)} {kb : gD → Int32 → Int32 → Int32 → Int32 → Option (Unit × gD)} {z : gD → Int32 → Int32 → Int32 → Int32 → Int32 → Int32 → Option (Unit × gD)} (hk : ∀ e, Ch (PF m) d e → FR e m (tk s fl x) → Q (kb e v1 v2 v3 (v4 + 1))) : Q (itr (f_R_describe_B89 S m (f_R_describe_J142 S m kx kb)) z fu d v1 v2 v3 v4 (nI x) 0) := by
  have hl := GF_len hg
  rw [r_ds_89 h b hf hg hx]
  have hle := fst_le (hitP s fl x) fl.length
  simp (maxSteps := 1000000) (disch := omega) only [f_R_describe_J142, f_R_describe_J168, kd_t h.rs.1, l1_m, l1_a, l1_b, l1_s, l1_e, l1_le, l1_ge, l1_lt, l1_gt, lt_t, nn_t, bd_t, bdD_t, bdP_t, nI_clamp, gi_n, nI_add, nI_1, pk_mul, b2_eq0, b2_01, nb_t, if_true, if_false, ni_le, ni_eq, ni_lt, hf.1]
  by_cases q : fst (hitP s fl x) fl.length < fl.length
  · rw [if_neg (by omega)]
    obtain ⟨e, e1, e2, e3⟩ := r_merge h b hf hg.2.1 (by omega) q hx
    rw [e1, bdD_t]
    refine hk e e2 ?_
    unfold tk
    rw [if_pos q]
    exact e3
  · rw [if_pos (by omega)]
    obtain ⟨e, e1, e2, e3⟩ := r_add h b hf hg.2.1 (by omega) hx
    rw [e1, bdD_t]
    refine hk e e2 ?_
    unfold tk
    rw [if_neg q]
    exact e3
theorem lt_PF {e : gD} {n : Nat} (h : LT d m s n) (g : Ch (PF m) d e) : LT e m s n := lt_ch h g (fun f _ => ⟨by unfold PF; omega, fun i _ => by unfold PF; omega⟩)
theorem r_ds_61 (h : RI S d m s) (b : BI s) {fl : List (Nat × List Nat)} (hf : FR d m fl) (hg : GF s fl) (hlt : LT d m s (s 5 0)) {f : Nat} (hff : f < s 5 0) {v1 v2 : Int32} (Q : Option (Unit × gD) → Prop) {kx : gD → Int32 → Int32 → Option (Unit × gD)} {z : gD → Int32 → Int32 → Int32 → Int32 → Option (Unit × gD)} (hk : ∀ e, Ch (PF m) d e → FR e m (tkL s fl (lst s f) (lst s f).length) → Q (kx e v1 v2)) : Q (itr (f_R_describe_B61 S m kx) z fu d v1 v2 (nI f) 0) := by
  have hF := b.faces
  have hgl := gl_lst b _ f (Nat.lt_succ_self _) hff
  have hll := gl_len b hgl
  refine itr_q (B := f_R_describe_B61 S m kx) (fun (y : gD × Nat) K => K y.1 v1 v2 (nI f) (nI y.2)) Q (fun k y => y.2 = k ∧ Ch (PF m) d y.1 ∧ FR y.1 m (tkL s fl (lst s f) k)) (lst s f).length (by omega) ?_ ?_ (x := (d, 0)) ⟨rfl, ch_r, hf⟩
  · rintro k hkk ⟨e, k'⟩ ⟨rfl, hc, hfe⟩ K hK
    simp only at hkk hc hfe hK ⊢
    have he := ri_PF h hc
    have hL := lt_PF hlt hc f hff
    have hv := hgl.2 _ (getD_mem hkk)
    have hx72 : (lst s f).getD k' 0 < 75 := by have := hv.1; omega
    simp (maxSteps := 1000000) (disch := omega) only [f_R_describe_B61, kd_t he.rs.1, rs_P29 he.rs, kd_t (rs_K29 he.rs), rs_N29 he.rs, rs_P30 he.rs, kd_t (rs_K30 he.rs), rs_N30 he.rs, l0_e, l0_le, l0_ge, l0_lt, l0_gt, l72_m, l72_a, l72_b, l72_s, l72_e, l72_le, l72_ge, l72_lt, l72_gt, lt_t, nn_t, bd_t, bdD_t, bdP_t, nI_clamp, gi_n, nI_add, nI_1, pk_mul, b2_eq0, b2_01, nb_t, if_true, if_false, ni_le, ni_eq, ni_lt, hL.1, hL.2 k' hkk]
    rw [if_neg (by omega)]
    refine r_ds_tk he b hfe (GF_tkL b hg hgl k' (by omega)) hx72 Q ?_
    intro e2 c2 f2
    rw [nI_1]
    exact hK (e2, k' + 1) ⟨rfl, ch_t hc c2, f2⟩
  · rintro ⟨e, k'⟩ ⟨rfl, hc, hfe⟩ K
    simp only at hc hfe ⊢
    have he := ri_PF h hc
    have hL := lt_PF hlt hc f hff
    simp (maxSteps := 1000000) (disch := omega) only [f_R_describe_B61, kd_t he.rs.1, rs_P29 he.rs, kd_t (rs_K29 he.rs), rs_N29 he.rs, rs_P30 he.rs, kd_t (rs_K30 he.rs), rs_N30 he.rs, l0_e, l0_le, l0_ge, l0_lt, l0_gt, l72_m, l72_a, l72_b, l72_s, l72_e, l72_le, l72_ge, l72_lt, l72_gt, lt_t, nn_t, bd_t, bdD_t, bdP_t, nI_clamp, gi_n, nI_add, nI_1, pk_mul, b2_eq0, b2_01, nb_t, if_true, if_false, ni_le, ni_eq, ni_lt, hL.1]
    rw [if_pos (by omega)]
    exact hk e hc hfe
theorem r_ds_31 (h : RI S d m s) (b : BI s) {x : Int32} (ho : okL s x) (hf : FR d m (rts s 3)) (hlt : LT d m s (s 5 0)) (Q : Option (Unit × gD) → Prop) {kx : gD → Option (Unit × gD)} {z : gD → Int32 → Int32 → Option (Unit × gD)} (hk : ∀ e, Ch (PF m) d e → FR e m (dsc s x) → Q (kx e)) : Q (itr (f_R_describe_B31 S m kx) z fu d x 0) := by
  have hF := b.faces
  have hln := ln_le x
  refine itr_q (B := f_R_describe_B31 S m kx) (fun (y : gD × Nat) K => K y.1 x (nI (8 * y.2))) Q (fun k y => y.2 = k ∧ Ch (PF m) d y.1 ∧ FR y.1 m (dscK s x k)) (ln x) (by omega) ?_ ?_ (x := (d, 0)) ⟨rfl, ch_r, hf⟩
  · rintro k hkk ⟨e, k'⟩ ⟨rfl, hc, hfe⟩ K hK
    simp only at hkk hc hfe hK ⊢
    have he := ri_PF h hc
    have hkf := ho k' hkk
    have hub := ub_lt x k'
    simp (maxSteps := 1000000) (disch := omega) only [f_R_describe_B31, l0_e, l0_le, l0_ge, l0_lt, l0_gt, l24_m, l24_a, l24_b, l24_s, l24_e, l24_le, l24_ge, l24_lt, l24_gt, l31_m, l31_a, l31_b, l31_s, l31_e, l31_le, l31_ge, l31_lt, l31_gt, l32_m, l32_a, l32_b, l32_s, l32_e, l32_le, l32_ge, l32_lt, l32_gt, l255_m, l255_a, l255_b, l255_s, l255_e, l255_le, l255_ge, l255_lt, l255_gt, lt_t, nn_t, bd_t, bdD_t, bdP_t, nI_clamp, gi_n, nI_add, nI_1, pk_mul, b2_eq0, b2_01, nb_t, if_true, if_false, ni_le, ni_eq, ni_lt, ub_s x (show k' < 4 by omega)]
    rw [if_neg (by omega), if_neg (by omega)]
    refine r_ds_61 he b hfe (GF_dscK b ho k' (by omega)) (lt_PF hlt hc) (show ub x k' - 24 < s 5 0 by omega) Q ?_
    intro e2 c2 f2
    simp only [f_R_describe_J174, l8_a]
    exact hK (e2, k' + 1) ⟨rfl, ch_t hc c2, f2⟩
  · rintro ⟨e, k'⟩ ⟨rfl, hc, hfe⟩ K
    simp only at hc hfe ⊢
    simp (maxSteps := 1000000) (disch := omega) only [f_R_describe_B31, l0_e, l0_le, l0_ge, l0_lt, l0_gt, l24_m, l24_a, l24_b, l24_s, l24_e, l24_le, l24_ge, l24_lt, l24_gt, l31_m, l31_a, l31_b, l31_s, l31_e, l31_le, l31_ge, l31_lt, l31_gt, l32_m, l32_a, l32_b, l32_s, l32_e, l32_le, l32_ge, l32_lt, l32_gt, l255_m, l255_a, l255_b, l255_s, l255_e, l255_le, l255_ge, l255_lt, l255_gt, lt_t, nn_t, bd_t, bdD_t, bdP_t, nI_clamp, gi_n, nI_add, nI_1, pk_mul, b2_eq0, b2_01, nb_t, if_true, if_false, ni_le, ni_eq, ni_lt]
    by_cases q : ln x < 4
    · have z0 := of_decide_eq_true (fst_yes (fun k => decide (ub x k = 0)) 4 q)
      rw [ub_s x q]
      rw [show ub x (ln x) = 0 from z0, if_neg (by omega), if_pos nI_0]
      exact hk e hc hfe
    · rw [if_pos (by omega)]
      exact hk e hc hfe
theorem fr_0 : FR (wI d m 31 0) m [] := ⟨by rw [dI_wI, if_pos ⟨rfl, rfl⟩]; rfl, fun i hi => absurd hi (Nat.not_lt_zero _)⟩
theorem r_ds_12 (h : RI S d m s) (b : BI s) (hf : FR d m []) {x : Int32} (Q : Option (Unit × gD) → Prop) {kx : gD → Int32 → Option (Unit × gD)} {z : gD → Int32 → Int32 → Option (Unit × gD)} (hk : ∀ e, Ch (PF m) d e → FR e m (rts s 3) → Q (kx e x)) : Q (itr (f_R_describe_B12 S m kx) z fu d x 72) := by
  refine itr_q (B := f_R_describe_B12 S m kx) (fun (y : gD × Nat) K => K y.1 x (nI (72 + y.2))) Q (fun k y => y.2 = k ∧ Ch (PF m) d y.1 ∧ FR y.1 m (rts s k)) 3 (by omega) ?_ ?_ (x := (d, 0)) ⟨rfl, ch_r, hf⟩
  · rintro k hkk ⟨e, k'⟩ ⟨rfl, hc, hfe⟩ K hK
    simp only at hkk hc hfe hK ⊢
    have he := ri_PF h hc
    obtain ⟨e2, q1, q2, q3⟩ := r_add he b hfe (GF_rts b k' (by omega)).1.2.1 (by rw [rts_len]; omega) (show 72 + k' < 75 by omega)
    simp (maxSteps := 1000000) (disch := omega) only [f_R_describe_B12, kd_t he.rs.1, l1_m, l1_a, l1_b, l1_s, l1_e, l1_le, l1_ge, l1_lt, l1_gt, l75_m, l75_a, l75_b, l75_s, l75_e, l75_le, l75_ge, l75_lt, l75_gt, lt_t, nn_t, bd_t, bdD_t, bdP_t, nI_clamp, gi_n, nI_add, nI_1, pk_mul, b2_eq0, b2_01, nb_t, if_true, if_false, ni_le, ni_eq, ni_lt, q1]
    rw [if_neg (by omega)]
    exact hK (e2, k' + 1) ⟨rfl, ch_t hc q2, q3⟩
  · rintro ⟨e, k'⟩ ⟨rfl, hc, hfe⟩ K
    simp only at hc hfe ⊢
    simp (maxSteps := 1000000) (disch := omega) only [f_R_describe_B12, l1_m, l1_a, l1_b, l1_s, l1_e, l1_le, l1_ge, l1_lt, l1_gt, l75_m, l75_a, l75_b, l75_s, l75_e, l75_le, l75_ge, l75_lt, l75_gt, lt_t, nn_t, bd_t, bdD_t, bdP_t, nI_clamp, gi_n, nI_add, nI_1, pk_mul, b2_eq0, b2_01, nb_t, if_true, if_false, ni_le, ni_eq, ni_lt]
    rw [if_pos (by omega)]
    exact hk e hc hfe
end ref
