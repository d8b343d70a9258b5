section st
variable {S : gS} {d : gD} {x : Nat} {s : Nat → Nat → Nat} {A : Nat → Nat → Nat} {q : (Nat → Int64) × Int64 × (Nat → Int64) × (Nat → Int32)}
theorem iv_w0 {v : Int32} (h : IV S d x s A q) : IV S (wI d (x + 28) 0 v) x s A q := iv_fin h.g1 h.g2 (rp_w0 h.rp) (rf_w (by omega)) h.b h.sv h.ok
theorem iv_rf {e : gD} (h : IV S d x s A q) (r : RP S e (x + 28) s q) (f : Rf (x + 28) d e) : IV S e x s A q := iv_fin h.g1 h.g2 r f h.b h.sv h.ok
theorem st_loader (h : IV S d x s A q) (v : Int32) : ∃ r d1 e s', f_M_loader S d x v = some (r, d1) ∧ f_R_loader S d1 (x + 28) v = some (r, e) ∧ IV S e x s' A q := by
  have hcs := h.g1.ce.cs
  have hx := h.g1.ce.hx
  have hL := h.b.loaders
  have cl := h.g2.cl
  cases c1 : cIn 0 (nI (s 1 0)) v with
  | false =>
    refine ⟨-1, d, _, s, ?_, r_loader_n h.rp.ri h.b ?_, iv_w0 h⟩
    · simp (maxSteps := 1000000) (disch := omega) only [f_M_loader, kd_t (cs_K0 hcs), cs_P0_0 hcs, kd_t (cs_K1 hcs), cs_P1_0 hcs, kd_t (cs_K2 hcs), cs_N2 hcs, cs_P0_1 hcs, kd_t (cs_K3 hcs), cs_N3 hcs, cs_P0_3 hcs, kd_t (cs_K4 hcs), cs_N4 hcs, cs_P0_5 hcs, kd_t (cs_K5 hcs), cs_N5 hcs, cs_P0_6 hcs, kd_t (cs_K6 hcs), cs_N6 hcs, cs_P0_8 hcs, kd_t (cs_K7 hcs), cs_N7 hcs, cs_P0_9 hcs, kd_t (cs_K8 hcs), cs_N8 hcs, cs_P0_11 hcs, kd_t (cs_K9 hcs), cs_P9_0 hcs, cs_P9_1 hcs, kd_t (cs_K10 hcs), cs_N10 hcs, cs_P9_3 hcs, kd_t (cs_K11 hcs), cs_P11_0 hcs, kd_t (cs_K12 hcs), cs_N12 hcs, cs_P0_12 hcs, kd_t (cs_K13 hcs), cs_P13_0 hcs, kd_t (cs_K14 hcs), cs_N14 hcs, cs_P13_2 hcs, kd_t (cs_K15 hcs), cs_N15 hcs, cs_P13_4 hcs, kd_t (cs_K16 hcs), cs_N16 hcs, cs_P0_16 hcs, kd_t (cs_K17 hcs), cs_N17 hcs, cs_P0_17 hcs, kd_t (cs_K18 hcs), cs_N18 hcs, cs_P7_0 hcs, cs_P7_1 hcs, cs_P7_2 hcs, lt_t, nn_t, bd_t, bdD_t, bdP_t, nI_clamp, gi_n, nI_add, nI_1, pk_mul, b2_eq0, b2_01, nb_t, if_true, if_false, ni_le, ni_eq, ni_lt, c_isLoader hcs cl, c1]
    · unfold cIn at c1
      rw [Bool.and_eq_false_iff, decide_eq_false_iff_not, decide_eq_false_iff_not] at c1
      rcases c1 with c | c
      · exact .inl (Int32.not_le.mp c)
      · exact .inr (.inl (Int32.not_lt.mp c))
  | true =>
    obtain ⟨j, -, hj, rfl⟩ := cIn_of (lo := 0) c1 (by omega) (by omega)
    by_cases h4 : s 1 0 = 4
    · refine ⟨-1, d, _, s, ?_, r_loader_n h.rp.ri h.b (.inr (.inr h4)), iv_w0 h⟩
      simp (maxSteps := 1000000) (disch := omega) only [f_M_loader, kd_t (cs_K0 hcs), cs_P0_0 hcs, kd_t (cs_K1 hcs), cs_P1_0 hcs, kd_t (cs_K2 hcs), cs_N2 hcs, cs_P0_1 hcs, kd_t (cs_K3 hcs), cs_N3 hcs, cs_P0_3 hcs, kd_t (cs_K4 hcs), cs_N4 hcs, cs_P0_5 hcs, kd_t (cs_K5 hcs), cs_N5 hcs, cs_P0_6 hcs, kd_t (cs_K6 hcs), cs_N6 hcs, cs_P0_8 hcs, kd_t (cs_K7 hcs), cs_N7 hcs, cs_P0_9 hcs, kd_t (cs_K8 hcs), cs_N8 hcs, cs_P0_11 hcs, kd_t (cs_K9 hcs), cs_P9_0 hcs, cs_P9_1 hcs, kd_t (cs_K10 hcs), cs_N10 hcs, cs_P9_3 hcs, kd_t (cs_K11 hcs), cs_P11_0 hcs, kd_t (cs_K12 hcs), cs_N12 hcs, cs_P0_12 hcs, kd_t (cs_K13 hcs), cs_P13_0 hcs, kd_t (cs_K14 hcs), cs_N14 hcs, cs_P13_2 hcs, kd_t (cs_K15 hcs), cs_N15 hcs, cs_P13_4 hcs, kd_t (cs_K16 hcs), cs_N16 hcs, cs_P0_16 hcs, kd_t (cs_K17 hcs), cs_N17 hcs, cs_P0_17 hcs, kd_t (cs_K18 hcs), cs_N18 hcs, cs_P7_0 hcs, cs_P7_1 hcs, cs_P7_2 hcs, lt_t, nn_t, bd_t, bdD_t, bdP_t, nI_clamp, gi_n, nI_add, nI_1, pk_mul, b2_eq0, b2_01, nb_t, if_true, if_false, ni_le, ni_eq, ni_lt, c_isLoader hcs cl, c1, cl.1, l4_e]
      rw [if_neg (by decide), if_pos h4]
    · have g1' : dI (wI d (x + 3) (s 1 0) (nI j)) x 2 = nI (s 1 0) := by rw [dI_wI, if_neg (by omega)]; exact cl.1
      have g2' : dI (wI (wI d (x + 3) (s 1 0) (nI j)) x 2 (nI (s 1 0 + 1))) x 2 = nI (s 1 0 + 1) := by rw [dI_wI, if_pos ⟨rfl, rfl⟩]
      have cw : Ch (fun a k => a = x + 3 ∨ (a = x ∧ k = 2)) d (wI (wI d (x + 3) (s 1 0) (nI j)) x 2 (nI (s 1 0 + 1))) := ch_s (ch_w (.inl rfl)) (.inr ⟨rfl, rfl⟩)
      have fm : Fm (fun a k => a = x + 3 ∨ (a = x ∧ k = 2)) S d S _ := fm_ch cw
      have rp1 := rp_cf fm h.rp hx (fun a k p => by omega)
      obtain ⟨e, fe, re, ce⟩ := r_loader_z rp1.ri h.b hj h4
      have so : ∀ k i, k ≠ 1 → k ≠ 2 → sLd s j k i = s k i := fun k i h1 h2 => by unfold sLd; rw [up2_ne h1, up2_ne h2]
      have ag : Ag s (sLd s j) := ag_same (fun k i h1 h2 _ => so k i h1 h2)
      have e1 : sLd s j 1 0 = s 1 0 + 1 := by unfold sLd; rw [up2_eq]
      have e2 : ∀ i, sLd s j 2 i = if i = s 1 0 then j else s 2 i := by
        intro i
        unfold sLd
        rw [up2_ne (by decide)]
        by_cases c : i = s 1 0
        · rw [if_pos c, c, up2_eq]
        · rw [if_neg c, up2_nk c]
      have G1' := g1_ag (g1_sw fm h.g1 (fun a k p => by unfold SW; omega)) h.b ag (fun k i h1 h2 => so k i (by omega) (by omega)) (fun k i h1 h2 => so k i (by omega) (by omega))
      have G2' : G2 (wI (wI d (x + 3) (s 1 0) (nI j)) x 2 (nI (s 1 0 + 1))) x (sLd s j) q := by
        refine ⟨⟨by rw [g2', e1], ?_, fun i h0 hi => ?_⟩, ?_, ?_, fun i hi => ?_, fun i hi => ?_, ?_, h.g2.oc, h.g2.sn⟩
        · rw [dI_wI, if_neg (by omega), dI_wI, if_neg (by omega)]; exact cl.2.1
        · rw [e1] at hi
          rw [dI_wI, if_neg (by omega), dI_wI, e2]
          by_cases c : i = s 1 0
          · rw [if_pos ⟨rfl, c⟩, if_pos c]
          · rw [if_neg (fun w => c w.2), if_neg c]; exact cl.2.2 i h0 (by omega)
        · have t := ct_ch h.g2.t cw (by omega)
          have hTE : TE (sLd s j) = TE s := by
            funext a c
            unfold TE FE
            rw [so 3 0 (by decide) (by decide), so 5 0 (by decide) (by decide), so 4 a (by decide) (by decide), so 11 _ (by decide) (by decide)]
            simp only [fun i => so 10 i (by decide) (by decide)]
          have hty : ty (sLd s j) = ty s := by funext a; unfold ty; rw [so 3 0 (by decide) (by decide), so 5 0 (by decide) (by decide)]
          unfold CT
          rw [hTE, hty, so 3 0 (by decide) (by decide)]; exact t
        · rw [so 18 0 (by decide) (by decide), cw.2 _ _ (by omega)]; exact h.g2.o1
        · rw [so 18 0 (by decide) (by decide)] at hi
          rw [so 19 i (by decide) (by decide), cw.2 _ _ (by omega)]; exact h.g2.o2 i hi
        · rw [so 18 0 (by decide) (by decide)] at hi
          exact h.g2.o3 i hi
        · rw [so 28 0 (by decide) (by decide), cw.2 _ _ (by omega)]; exact h.g2.fa
      refine ⟨nI (s 1 0), _, e, sLd s j, ?_, fe, iv_fin G1' G2' (rp_ch rp1 ce re (fun c => by omega)) (rf_ch ce (fun a k p => by omega)) (bi_loader h.b hj h4) (sv_ag h.sv h.b ag (fun i _ => so 13 i (by decide) (by decide)) (by rw [so 5 0 (by decide) (by decide)]; exact Nat.le_refl _) (by rw [so 18 0 (by decide) (by decide)]; exact Nat.le_refl _) (fun k i h1 h2 => so k i (by omega) (by omega))) h.ok⟩
      simp (maxSteps := 1000000) (disch := omega) only [f_M_loader, kd_t (cs_K0 hcs), cs_P0_0 hcs, kd_t (cs_K1 hcs), cs_P1_0 hcs, kd_t (cs_K2 hcs), cs_N2 hcs, cs_P0_1 hcs, kd_t (cs_K3 hcs), cs_N3 hcs, cs_P0_3 hcs, kd_t (cs_K4 hcs), cs_N4 hcs, cs_P0_5 hcs, kd_t (cs_K5 hcs), cs_N5 hcs, cs_P0_6 hcs, kd_t (cs_K6 hcs), cs_N6 hcs, cs_P0_8 hcs, kd_t (cs_K7 hcs), cs_N7 hcs, cs_P0_9 hcs, kd_t (cs_K8 hcs), cs_N8 hcs, cs_P0_11 hcs, kd_t (cs_K9 hcs), cs_P9_0 hcs, cs_P9_1 hcs, kd_t (cs_K10 hcs), cs_N10 hcs, cs_P9_3 hcs, kd_t (cs_K11 hcs), cs_P11_0 hcs, kd_t (cs_K12 hcs), cs_N12 hcs, cs_P0_12 hcs, kd_t (cs_K13 hcs), cs_P13_0 hcs, kd_t (cs_K14 hcs), cs_N14 hcs, cs_P13_2 hcs, kd_t (cs_K15 hcs), cs_N15 hcs, cs_P13_4 hcs, kd_t (cs_K16 hcs), cs_N16 hcs, cs_P0_16 hcs, kd_t (cs_K17 hcs), cs_N17 hcs, cs_P0_17 hcs, kd_t (cs_K18 hcs), cs_N18 hcs, cs_P7_0 hcs, cs_P7_1 hcs, cs_P7_2 hcs, lt_t, nn_t, bd_t, bdD_t, bdP_t, nI_clamp, gi_n, nI_add, nI_1, pk_mul, b2_eq0, b2_01, nb_t, if_true, if_false, ni_le, ni_eq, ni_lt, c_isLoader hcs cl, c1, cl.1, l4_e, g1', g2', l1_a, l1_s]
      rw [if_neg (by decide), if_neg h4, show s 1 0 + 1 - 1 = s 1 0 by omega]
theorem st_below (h : IV S d x s A q) (v w : Int32) : ∃ r e, f_M_below S d x v w = some r ∧ f_R_below S d (x + 28) v w = some (r, e) ∧ IV S e x s A q := by
  have hcs := h.g1.ce.cs
  refine ⟨b2 (bw s v w), _, ?_, r_below h.rp.ri h.b v w, iv_w0 h⟩
  simp (maxSteps := 1000000) (disch := omega) only [f_M_below, kd_t (cs_K0 hcs), cs_P0_0 hcs, kd_t (cs_K1 hcs), cs_P1_0 hcs, kd_t (cs_K2 hcs), cs_N2 hcs, cs_P0_1 hcs, kd_t (cs_K3 hcs), cs_N3 hcs, cs_P0_3 hcs, kd_t (cs_K4 hcs), cs_N4 hcs, cs_P0_5 hcs, kd_t (cs_K5 hcs), cs_N5 hcs, cs_P0_6 hcs, kd_t (cs_K6 hcs), cs_N6 hcs, cs_P0_8 hcs, kd_t (cs_K7 hcs), cs_N7 hcs, cs_P0_9 hcs, kd_t (cs_K8 hcs), cs_N8 hcs, cs_P0_11 hcs, kd_t (cs_K9 hcs), cs_P9_0 hcs, cs_P9_1 hcs, kd_t (cs_K10 hcs), cs_N10 hcs, cs_P9_3 hcs, kd_t (cs_K11 hcs), cs_P11_0 hcs, kd_t (cs_K12 hcs), cs_N12 hcs, cs_P0_12 hcs, kd_t (cs_K13 hcs), cs_P13_0 hcs, kd_t (cs_K14 hcs), cs_N14 hcs, cs_P13_2 hcs, kd_t (cs_K15 hcs), cs_N15 hcs, cs_P13_4 hcs, kd_t (cs_K16 hcs), cs_N16 hcs, cs_P0_16 hcs, kd_t (cs_K17 hcs), cs_N17 hcs, cs_P0_17 hcs, kd_t (cs_K18 hcs), cs_N18 hcs, cs_P7_0 hcs, cs_P7_1 hcs, cs_P7_2 hcs, lt_t, nn_t, bd_t, bdD_t, bdP_t, nI_clamp, gi_n, nI_add, nI_1, pk_mul, b2_eq0, b2_01, nb_t, if_true, if_false, ni_le, ni_eq, ni_lt, c_isBelow hcs h.g2.t h.b, nb_t (b2_01 _)]
theorem st_find (h : IV S d x s A q) (v1 v2 v3 : Int32) : ∃ r e, f_M_find S d x v1 v2 v3 = some r ∧ f_R_find S d (x + 28) v1 v2 v3 = some (r, e) ∧ IV S e x s A q := by
  have hcs := h.g1.ce.cs
  have hL := h.b.loaders
  cases c1 : cIn 0 (nI (s 1 0)) v1 with
  | false =>
    refine ⟨-1, _, ?_, r_find_n h.rp.ri ?_, iv_w0 h⟩
    · simp (maxSteps := 1000000) (disch := omega) only [f_M_find, kd_t (cs_K0 hcs), cs_P0_0 hcs, kd_t (cs_K1 hcs), cs_P1_0 hcs, kd_t (cs_K2 hcs), cs_N2 hcs, cs_P0_1 hcs, kd_t (cs_K3 hcs), cs_N3 hcs, cs_P0_3 hcs, kd_t (cs_K4 hcs), cs_N4 hcs, cs_P0_5 hcs, kd_t (cs_K5 hcs), cs_N5 hcs, cs_P0_6 hcs, kd_t (cs_K6 hcs), cs_N6 hcs, cs_P0_8 hcs, kd_t (cs_K7 hcs), cs_N7 hcs, cs_P0_9 hcs, kd_t (cs_K8 hcs), cs_N8 hcs, cs_P0_11 hcs, kd_t (cs_K9 hcs), cs_P9_0 hcs, cs_P9_1 hcs, kd_t (cs_K10 hcs), cs_N10 hcs, cs_P9_3 hcs, kd_t (cs_K11 hcs), cs_P11_0 hcs, kd_t (cs_K12 hcs), cs_N12 hcs, cs_P0_12 hcs, kd_t (cs_K13 hcs), cs_P13_0 hcs, kd_t (cs_K14 hcs), cs_N14 hcs, cs_P13_2 hcs, kd_t (cs_K15 hcs), cs_N15 hcs, cs_P13_4 hcs, kd_t (cs_K16 hcs), cs_N16 hcs, cs_P0_16 hcs, kd_t (cs_K17 hcs), cs_N17 hcs, cs_P0_17 hcs, kd_t (cs_K18 hcs), cs_N18 hcs, cs_P7_0 hcs, cs_P7_1 hcs, cs_P7_2 hcs, lt_t, nn_t, bd_t, bdD_t, bdP_t, nI_clamp, gi_n, nI_add, nI_1, pk_mul, b2_eq0, b2_01, nb_t, if_true, if_false, ni_le, ni_eq, ni_lt, c_isLoader hcs h.g2.cl, c1]
    · unfold cIn at c1
      rw [Bool.and_eq_false_iff, decide_eq_false_iff_not, decide_eq_false_iff_not] at c1
      rcases c1 with c | c
      · exact .inl (Int32.not_le.mp c)
      · exact .inr (Int32.not_lt.mp c)
  | true =>
    obtain ⟨j, -, hj, rfl⟩ := cIn_of (lo := 0) c1 (by omega) (by omega)
    refine ⟨o24 (fnd s j v2 v3), _, ?_, r_find_y h.rp.ri h.b hj, iv_w0 h⟩
    simp (maxSteps := 1000000) (disch := omega) only [f_M_find, kd_t (cs_K0 hcs), cs_P0_0 hcs, kd_t (cs_K1 hcs), cs_P1_0 hcs, kd_t (cs_K2 hcs), cs_N2 hcs, cs_P0_1 hcs, kd_t (cs_K3 hcs), cs_N3 hcs, cs_P0_3 hcs, kd_t (cs_K4 hcs), cs_N4 hcs, cs_P0_5 hcs, kd_t (cs_K5 hcs), cs_N5 hcs, cs_P0_6 hcs, kd_t (cs_K6 hcs), cs_N6 hcs, cs_P0_8 hcs, kd_t (cs_K7 hcs), cs_N7 hcs, cs_P0_9 hcs, kd_t (cs_K8 hcs), cs_N8 hcs, cs_P0_11 hcs, kd_t (cs_K9 hcs), cs_P9_0 hcs, cs_P9_1 hcs, kd_t (cs_K10 hcs), cs_N10 hcs, cs_P9_3 hcs, kd_t (cs_K11 hcs), cs_P11_0 hcs, kd_t (cs_K12 hcs), cs_N12 hcs, cs_P0_12 hcs, kd_t (cs_K13 hcs), cs_P13_0 hcs, kd_t (cs_K14 hcs), cs_N14 hcs, cs_P13_2 hcs, kd_t (cs_K15 hcs), cs_N15 hcs, cs_P13_4 hcs, kd_t (cs_K16 hcs), cs_N16 hcs, cs_P0_16 hcs, kd_t (cs_K17 hcs), cs_N17 hcs, cs_P0_17 hcs, kd_t (cs_K18 hcs), cs_N18 hcs, cs_P7_0 hcs, cs_P7_1 hcs, cs_P7_2 hcs, lt_t, nn_t, bd_t, bdD_t, bdP_t, nI_clamp, gi_n, nI_add, nI_1, pk_mul, b2_eq0, b2_01, nb_t, if_true, if_false, ni_le, ni_eq, ni_lt, c_isLoader hcs h.g2.cl, c1, c_foundBy hcs h.g2.cl h.g1.ce.F h.b j hj]
    rw [if_neg (by decide)]
theorem st_fault (h : IV S d x s A q) : ∃ r e, f_M_fault S d x = some r ∧ f_R_fault S d (x + 28) = some (r, e) ∧ IV S e x s A q := by
  refine ⟨nI (s 28 0), _, ?_, r_fault h.rp.ri, iv_w0 h⟩
  simp (maxSteps := 1000000) (disch := omega) only [f_M_fault, kd_t (cs_K0 h.g1.ce.cs), cs_P0_0 h.g1.ce.cs, kd_t (cs_K1 h.g1.ce.cs), cs_P1_0 h.g1.ce.cs, kd_t (cs_K2 h.g1.ce.cs), cs_N2 h.g1.ce.cs, cs_P0_1 h.g1.ce.cs, kd_t (cs_K3 h.g1.ce.cs), cs_N3 h.g1.ce.cs, cs_P0_3 h.g1.ce.cs, kd_t (cs_K4 h.g1.ce.cs), cs_N4 h.g1.ce.cs, cs_P0_5 h.g1.ce.cs, kd_t (cs_K5 h.g1.ce.cs), cs_N5 h.g1.ce.cs, cs_P0_6 h.g1.ce.cs, kd_t (cs_K6 h.g1.ce.cs), cs_N6 h.g1.ce.cs, cs_P0_8 h.g1.ce.cs, kd_t (cs_K7 h.g1.ce.cs), cs_N7 h.g1.ce.cs, cs_P0_9 h.g1.ce.cs, kd_t (cs_K8 h.g1.ce.cs), cs_N8 h.g1.ce.cs, cs_P0_11 h.g1.ce.cs, kd_t (cs_K9 h.g1.ce.cs), cs_P9_0 h.g1.ce.cs, cs_P9_1 h.g1.ce.cs, kd_t (cs_K10 h.g1.ce.cs), cs_N10 h.g1.ce.cs, cs_P9_3 h.g1.ce.cs, kd_t (cs_K11 h.g1.ce.cs), cs_P11_0 h.g1.ce.cs, kd_t (cs_K12 h.g1.ce.cs), cs_N12 h.g1.ce.cs, cs_P0_12 h.g1.ce.cs, kd_t (cs_K13 h.g1.ce.cs), cs_P13_0 h.g1.ce.cs, kd_t (cs_K14 h.g1.ce.cs), cs_N14 h.g1.ce.cs, cs_P13_2 h.g1.ce.cs, kd_t (cs_K15 h.g1.ce.cs), cs_N15 h.g1.ce.cs, cs_P13_4 h.g1.ce.cs, kd_t (cs_K16 h.g1.ce.cs), cs_N16 h.g1.ce.cs, cs_P0_16 h.g1.ce.cs, kd_t (cs_K17 h.g1.ce.cs), cs_N17 h.g1.ce.cs, cs_P0_17 h.g1.ce.cs, kd_t (cs_K18 h.g1.ce.cs), cs_N18 h.g1.ce.cs, cs_P7_0 h.g1.ce.cs, cs_P7_1 h.g1.ce.cs, cs_P7_2 h.g1.ce.cs, lt_t, nn_t, bd_t, bdD_t, bdP_t, nI_clamp, gi_n, nI_add, nI_1, pk_mul, b2_eq0, b2_01, nb_t, if_true, if_false, ni_le, ni_eq, ni_lt, h.g2.fa]
theorem st_outcome (h : IV S d x s A q) : ∃ r e, f_M_outcome S d x = some r ∧ f_R_outcome S d (x + 28) = some (r, e) ∧ IV S e x s A q := by
  refine ⟨q.2.1, _, ?_, (r_outcome h.rp.ri).trans (by rw [h.rp.oc]), iv_w0 h⟩
  simp (maxSteps := 1000000) (disch := omega) only [f_M_outcome, kd_t (cs_K0 h.g1.ce.cs), cs_P0_0 h.g1.ce.cs, kd_t (cs_K1 h.g1.ce.cs), cs_P1_0 h.g1.ce.cs, kd_t (cs_K2 h.g1.ce.cs), cs_N2 h.g1.ce.cs, cs_P0_1 h.g1.ce.cs, kd_t (cs_K3 h.g1.ce.cs), cs_N3 h.g1.ce.cs, cs_P0_3 h.g1.ce.cs, kd_t (cs_K4 h.g1.ce.cs), cs_N4 h.g1.ce.cs, cs_P0_5 h.g1.ce.cs, kd_t (cs_K5 h.g1.ce.cs), cs_N5 h.g1.ce.cs, cs_P0_6 h.g1.ce.cs, kd_t (cs_K6 h.g1.ce.cs), cs_N6 h.g1.ce.cs, cs_P0_8 h.g1.ce.cs, kd_t (cs_K7 h.g1.ce.cs), cs_N7 h.g1.ce.cs, cs_P0_9 h.g1.ce.cs, kd_t (cs_K8 h.g1.ce.cs), cs_N8 h.g1.ce.cs, cs_P0_11 h.g1.ce.cs, kd_t (cs_K9 h.g1.ce.cs), cs_P9_0 h.g1.ce.cs, cs_P9_1 h.g1.ce.cs, kd_t (cs_K10 h.g1.ce.cs), cs_N10 h.g1.ce.cs, cs_P9_3 h.g1.ce.cs, kd_t (cs_K11 h.g1.ce.cs), cs_P11_0 h.g1.ce.cs, kd_t (cs_K12 h.g1.ce.cs), cs_N12 h.g1.ce.cs, cs_P0_12 h.g1.ce.cs, kd_t (cs_K13 h.g1.ce.cs), cs_P13_0 h.g1.ce.cs, kd_t (cs_K14 h.g1.ce.cs), cs_N14 h.g1.ce.cs, cs_P13_2 h.g1.ce.cs, kd_t (cs_K15 h.g1.ce.cs), cs_N15 h.g1.ce.cs, cs_P13_4 h.g1.ce.cs, kd_t (cs_K16 h.g1.ce.cs), cs_N16 h.g1.ce.cs, cs_P0_16 h.g1.ce.cs, kd_t (cs_K17 h.g1.ce.cs), cs_N17 h.g1.ce.cs, cs_P0_17 h.g1.ce.cs, kd_t (cs_K18 h.g1.ce.cs), cs_N18 h.g1.ce.cs, cs_P7_0 h.g1.ce.cs, cs_P7_1 h.g1.ce.cs, cs_P7_2 h.g1.ce.cs, lt_t, nn_t, bd_t, bdD_t, bdP_t, nI_clamp, gi_n, nI_add, nI_1, pk_mul, b2_eq0, b2_01, nb_t, if_true, if_false, ni_le, ni_eq, ni_lt, h.g2.oc]
theorem st_seen (h : IV S d x s A q) (v : Int32) : ∃ r e, f_M_seen S d x v = some r ∧ f_R_seen S d (x + 28) v = some (r, e) ∧ IV S e x s A q := by
  have hcs := h.g1.ce.cs
  cases c1 : cIn 0 (nI 9) v with
  | false =>
    refine ⟨-1, _, ?_, r_seen_n h.rp.ri ?_, iv_w0 h⟩
    · simp only [f_M_seen, c_within, show (9 : Int32) = nI 9 from rfl, c1, bd_t, b2_eq0]
      rw [if_pos trivial]
    · unfold cIn at c1
      rw [Bool.and_eq_false_iff, decide_eq_false_iff_not, decide_eq_false_iff_not] at c1
      rcases c1 with c | c
      · exact .inl (Int32.not_le.mp c)
      · refine .inr ?_
        have h9 := Int32.not_lt.mp c
        exact Int32.lt_of_lt_of_le (by decide) h9
  | true =>
    obtain ⟨j, -, hj, rfl⟩ := cIn_of (lo := 0) (hi := 9) c1 (by omega) (by omega)
    refine ⟨q.2.2.1 j, _, ?_, (r_seen_y h.rp.ri hj).trans (by rw [h.rp.sn j hj]), iv_w0 h⟩
    simp only [f_M_seen, c_within, show (9 : Int32) = nI 9 from rfl, c1, bd_t, b2_eq0]
    simp (maxSteps := 1000000) (disch := omega) only [f_M_seen, kd_t (cs_K0 hcs), cs_P0_0 hcs, kd_t (cs_K1 hcs), cs_P1_0 hcs, kd_t (cs_K2 hcs), cs_N2 hcs, cs_P0_1 hcs, kd_t (cs_K3 hcs), cs_N3 hcs, cs_P0_3 hcs, kd_t (cs_K4 hcs), cs_N4 hcs, cs_P0_5 hcs, kd_t (cs_K5 hcs), cs_N5 hcs, cs_P0_6 hcs, kd_t (cs_K6 hcs), cs_N6 hcs, cs_P0_8 hcs, kd_t (cs_K7 hcs), cs_N7 hcs, cs_P0_9 hcs, kd_t (cs_K8 hcs), cs_N8 hcs, cs_P0_11 hcs, kd_t (cs_K9 hcs), cs_P9_0 hcs, cs_P9_1 hcs, kd_t (cs_K10 hcs), cs_N10 hcs, cs_P9_3 hcs, kd_t (cs_K11 hcs), cs_P11_0 hcs, kd_t (cs_K12 hcs), cs_N12 hcs, cs_P0_12 hcs, kd_t (cs_K13 hcs), cs_P13_0 hcs, kd_t (cs_K14 hcs), cs_N14 hcs, cs_P13_2 hcs, kd_t (cs_K15 hcs), cs_N15 hcs, cs_P13_4 hcs, kd_t (cs_K16 hcs), cs_N16 hcs, cs_P0_16 hcs, kd_t (cs_K17 hcs), cs_N17 hcs, cs_P0_17 hcs, kd_t (cs_K18 hcs), cs_N18 hcs, cs_P7_0 hcs, cs_P7_1 hcs, cs_P7_2 hcs, lt_t, nn_t, bd_t, bdD_t, bdP_t, nI_clamp, gi_n, nI_add, nI_1, pk_mul, b2_eq0, b2_01, nb_t, if_true, if_false, ni_le, ni_eq, ni_lt, h.g2.sn j hj]
    rw [if_neg (by decide)]
theorem st_value (h : IV S d x s A q) (v1 v2 : Int32) : ∃ r e, f_M_value S d x v1 v2 = some r ∧ f_R_value S d (x + 28) v1 v2 = some (r, e) ∧ IV S e x s A q := by
  have hcs := h.g1.ce.cs
  have hO := h.b.objects
  cases c1 : cIn 0 (nI (s 18 0)) v1 with
  | false =>
    refine ⟨-1, _, ?_, r_value_n h.rp.ri ?_, iv_w0 h⟩
    · simp (maxSteps := 1000000) (disch := omega) only [f_M_value, kd_t (cs_K0 hcs), cs_P0_0 hcs, kd_t (cs_K1 hcs), cs_P1_0 hcs, kd_t (cs_K2 hcs), cs_N2 hcs, cs_P0_1 hcs, kd_t (cs_K3 hcs), cs_N3 hcs, cs_P0_3 hcs, kd_t (cs_K4 hcs), cs_N4 hcs, cs_P0_5 hcs, kd_t (cs_K5 hcs), cs_N5 hcs, cs_P0_6 hcs, kd_t (cs_K6 hcs), cs_N6 hcs, cs_P0_8 hcs, kd_t (cs_K7 hcs), cs_N7 hcs, cs_P0_9 hcs, kd_t (cs_K8 hcs), cs_N8 hcs, cs_P0_11 hcs, kd_t (cs_K9 hcs), cs_P9_0 hcs, cs_P9_1 hcs, kd_t (cs_K10 hcs), cs_N10 hcs, cs_P9_3 hcs, kd_t (cs_K11 hcs), cs_P11_0 hcs, kd_t (cs_K12 hcs), cs_N12 hcs, cs_P0_12 hcs, kd_t (cs_K13 hcs), cs_P13_0 hcs, kd_t (cs_K14 hcs), cs_N14 hcs, cs_P13_2 hcs, kd_t (cs_K15 hcs), cs_N15 hcs, cs_P13_4 hcs, kd_t (cs_K16 hcs), cs_N16 hcs, cs_P0_16 hcs, kd_t (cs_K17 hcs), cs_N17 hcs, cs_P0_17 hcs, kd_t (cs_K18 hcs), cs_N18 hcs, cs_P7_0 hcs, cs_P7_1 hcs, cs_P7_2 hcs, lt_t, nn_t, bd_t, bdD_t, bdP_t, nI_clamp, gi_n, nI_add, nI_1, pk_mul, b2_eq0, b2_01, nb_t, if_true, if_false, ni_le, ni_eq, ni_lt, h.g2.o1, c_within, c1]
    · unfold cIn at c1
      rw [Bool.and_eq_false_iff, decide_eq_false_iff_not, decide_eq_false_iff_not] at c1
      rcases c1 with c | c
      · exact .inl (Int32.not_le.mp c)
      · exact .inr (.inl (Int32.not_lt.mp c))
  | true =>
    obtain ⟨j, -, hj, rfl⟩ := cIn_of (lo := 0) c1 (by omega) (by omega)
    by_cases q0 : v2 = 0
    · subst q0
      refine ⟨Int32.toInt64 (nI (s 19 j)), _, ?_, r_value_0 h.rp.ri h.b hj, iv_w0 h⟩
      simp (maxSteps := 1000000) (disch := omega) only [f_M_value, kd_t (cs_K0 hcs), cs_P0_0 hcs, kd_t (cs_K1 hcs), cs_P1_0 hcs, kd_t (cs_K2 hcs), cs_N2 hcs, cs_P0_1 hcs, kd_t (cs_K3 hcs), cs_N3 hcs, cs_P0_3 hcs, kd_t (cs_K4 hcs), cs_N4 hcs, cs_P0_5 hcs, kd_t (cs_K5 hcs), cs_N5 hcs, cs_P0_6 hcs, kd_t (cs_K6 hcs), cs_N6 hcs, cs_P0_8 hcs, kd_t (cs_K7 hcs), cs_N7 hcs, cs_P0_9 hcs, kd_t (cs_K8 hcs), cs_N8 hcs, cs_P0_11 hcs, kd_t (cs_K9 hcs), cs_P9_0 hcs, cs_P9_1 hcs, kd_t (cs_K10 hcs), cs_N10 hcs, cs_P9_3 hcs, kd_t (cs_K11 hcs), cs_P11_0 hcs, kd_t (cs_K12 hcs), cs_N12 hcs, cs_P0_12 hcs, kd_t (cs_K13 hcs), cs_P13_0 hcs, kd_t (cs_K14 hcs), cs_N14 hcs, cs_P13_2 hcs, kd_t (cs_K15 hcs), cs_N15 hcs, cs_P13_4 hcs, kd_t (cs_K16 hcs), cs_N16 hcs, cs_P0_16 hcs, kd_t (cs_K17 hcs), cs_N17 hcs, cs_P0_17 hcs, kd_t (cs_K18 hcs), cs_N18 hcs, cs_P7_0 hcs, cs_P7_1 hcs, cs_P7_2 hcs, lt_t, nn_t, bd_t, bdD_t, bdP_t, nI_clamp, gi_n, nI_add, nI_1, pk_mul, b2_eq0, b2_01, nb_t, if_true, if_false, ni_le, ni_eq, ni_lt, h.g2.o1, c_within, c1, h.g2.o2 j hj]
      rw [if_neg (by decide)]
    · by_cases q1 : v2 = 1
      · subst q1
        refine ⟨q.1 j, _, ?_, (r_value_1 h.rp.ri h.b hj).trans (by rw [h.rp.ov j (by omega)]), iv_w0 h⟩
        simp (maxSteps := 1000000) (disch := omega) only [f_M_value, kd_t (cs_K0 hcs), cs_P0_0 hcs, kd_t (cs_K1 hcs), cs_P1_0 hcs, kd_t (cs_K2 hcs), cs_N2 hcs, cs_P0_1 hcs, kd_t (cs_K3 hcs), cs_N3 hcs, cs_P0_3 hcs, kd_t (cs_K4 hcs), cs_N4 hcs, cs_P0_5 hcs, kd_t (cs_K5 hcs), cs_N5 hcs, cs_P0_6 hcs, kd_t (cs_K6 hcs), cs_N6 hcs, cs_P0_8 hcs, kd_t (cs_K7 hcs), cs_N7 hcs, cs_P0_9 hcs, kd_t (cs_K8 hcs), cs_N8 hcs, cs_P0_11 hcs, kd_t (cs_K9 hcs), cs_P9_0 hcs, cs_P9_1 hcs, kd_t (cs_K10 hcs), cs_N10 hcs, cs_P9_3 hcs, kd_t (cs_K11 hcs), cs_P11_0 hcs, kd_t (cs_K12 hcs), cs_N12 hcs, cs_P0_12 hcs, kd_t (cs_K13 hcs), cs_P13_0 hcs, kd_t (cs_K14 hcs), cs_N14 hcs, cs_P13_2 hcs, kd_t (cs_K15 hcs), cs_N15 hcs, cs_P13_4 hcs, kd_t (cs_K16 hcs), cs_N16 hcs, cs_P0_16 hcs, kd_t (cs_K17 hcs), cs_N17 hcs, cs_P0_17 hcs, kd_t (cs_K18 hcs), cs_N18 hcs, cs_P7_0 hcs, cs_P7_1 hcs, cs_P7_2 hcs, lt_t, nn_t, bd_t, bdD_t, bdP_t, nI_clamp, gi_n, nI_add, nI_1, pk_mul, b2_eq0, b2_01, nb_t, if_true, if_false, ni_le, ni_eq, ni_lt, h.g2.o1, c_within, c1, h.g2.o3 j hj]
        rw [if_neg (by decide), if_neg (by decide)]
      · refine ⟨-1, _, ?_, r_value_n h.rp.ri ?_, iv_w0 h⟩
        · simp (maxSteps := 1000000) (disch := omega) only [f_M_value, kd_t (cs_K0 hcs), cs_P0_0 hcs, kd_t (cs_K1 hcs), cs_P1_0 hcs, kd_t (cs_K2 hcs), cs_N2 hcs, cs_P0_1 hcs, kd_t (cs_K3 hcs), cs_N3 hcs, cs_P0_3 hcs, kd_t (cs_K4 hcs), cs_N4 hcs, cs_P0_5 hcs, kd_t (cs_K5 hcs), cs_N5 hcs, cs_P0_6 hcs, kd_t (cs_K6 hcs), cs_N6 hcs, cs_P0_8 hcs, kd_t (cs_K7 hcs), cs_N7 hcs, cs_P0_9 hcs, kd_t (cs_K8 hcs), cs_N8 hcs, cs_P0_11 hcs, kd_t (cs_K9 hcs), cs_P9_0 hcs, cs_P9_1 hcs, kd_t (cs_K10 hcs), cs_N10 hcs, cs_P9_3 hcs, kd_t (cs_K11 hcs), cs_P11_0 hcs, kd_t (cs_K12 hcs), cs_N12 hcs, cs_P0_12 hcs, kd_t (cs_K13 hcs), cs_P13_0 hcs, kd_t (cs_K14 hcs), cs_N14 hcs, cs_P13_2 hcs, kd_t (cs_K15 hcs), cs_N15 hcs, cs_P13_4 hcs, kd_t (cs_K16 hcs), cs_N16 hcs, cs_P0_16 hcs, kd_t (cs_K17 hcs), cs_N17 hcs, cs_P0_17 hcs, kd_t (cs_K18 hcs), cs_N18 hcs, cs_P7_0 hcs, cs_P7_1 hcs, cs_P7_2 hcs, lt_t, nn_t, bd_t, bdD_t, bdP_t, nI_clamp, gi_n, nI_add, nI_1, pk_mul, b2_eq0, b2_01, nb_t, if_true, if_false, ni_le, ni_eq, ni_lt, h.g2.o1, c_within, c1, q0, q1]
          rw [if_neg (by decide)]
        · by_cases c2 : v2 < 0
          · exact .inr (.inr (.inl c2))
          · refine .inr (.inr (.inr ?_))
            rcases pk_ix v2 (n := 2) (by omega) with w | w | ⟨a, ha, rfl⟩
            · exact absurd w c2
            · exact Int32.lt_of_lt_of_le (by decide) w
            · exfalso
              rcases (show a = 0 ∨ a = 1 by omega) with rfl | rfl
              · exact q0 rfl
              · exact q1 rfl
theorem c0_f {n : Nat} {v : Int32} (h : cIn 0 (nI n) v = false) : v < 0 ∨ nI n ≤ v := by
  unfold cIn at h
  rw [Bool.and_eq_false_iff, decide_eq_false_iff_not, decide_eq_false_iff_not] at h
  rcases h with c | c
  · exact .inl (Int32.not_le.mp c)
  · exact .inr (Int32.not_lt.mp c)
theorem st_about (h : IV S d x s A q) (v1 v2 : Int32) : ∃ r e, f_M_about S d x v1 v2 = some r ∧ f_R_about S d (x + 28) v1 v2 = some (r, e) ∧ IV S e x s A q := by
  have hcs := h.g1.ce.cs
  have hS := h.b.stands
  have st1 := h.g1.st1
  cases c1 : cIn 0 (nI (s 21 0)) v1 with
  | false =>
    refine ⟨-1, _, ?_, r_about_n h.rp.ri (.inl c1), iv_w0 h⟩
    simp (maxSteps := 1000000) (disch := omega) only [f_M_about, kd_t (cs_K0 hcs), cs_P0_0 hcs, kd_t (cs_K1 hcs), cs_P1_0 hcs, kd_t (cs_K2 hcs), cs_N2 hcs, cs_P0_1 hcs, kd_t (cs_K3 hcs), cs_N3 hcs, cs_P0_3 hcs, kd_t (cs_K4 hcs), cs_N4 hcs, cs_P0_5 hcs, kd_t (cs_K5 hcs), cs_N5 hcs, cs_P0_6 hcs, kd_t (cs_K6 hcs), cs_N6 hcs, cs_P0_8 hcs, kd_t (cs_K7 hcs), cs_N7 hcs, cs_P0_9 hcs, kd_t (cs_K8 hcs), cs_N8 hcs, cs_P0_11 hcs, kd_t (cs_K9 hcs), cs_P9_0 hcs, cs_P9_1 hcs, kd_t (cs_K10 hcs), cs_N10 hcs, cs_P9_3 hcs, kd_t (cs_K11 hcs), cs_P11_0 hcs, kd_t (cs_K12 hcs), cs_N12 hcs, cs_P0_12 hcs, kd_t (cs_K13 hcs), cs_P13_0 hcs, kd_t (cs_K14 hcs), cs_N14 hcs, cs_P13_2 hcs, kd_t (cs_K15 hcs), cs_N15 hcs, cs_P13_4 hcs, kd_t (cs_K16 hcs), cs_N16 hcs, cs_P0_16 hcs, kd_t (cs_K17 hcs), cs_N17 hcs, cs_P0_17 hcs, kd_t (cs_K18 hcs), cs_N18 hcs, cs_P7_0 hcs, cs_P7_1 hcs, cs_P7_2 hcs, lt_t, nn_t, bd_t, bdD_t, bdP_t, nI_clamp, gi_n, nI_add, nI_1, pk_mul, b2_eq0, b2_01, nb_t, if_true, if_false, ni_le, ni_eq, ni_lt, st1, c_within, c1]
  | true =>
    obtain ⟨c, -, hc, rfl⟩ := cIn_of (lo := 0) c1 (by omega) (by omega)
    have si := h.g1.st2 c hc
    have sv := h.sv.ok c hc
    have ra := r_about_0 h.rp.ri h.b hc
    by_cases q0 : v2 = 0
    · subst q0
      refine ⟨nI (s 24 c), _, ?_, ra.1, iv_w0 h⟩
      simp (maxSteps := 1000000) (disch := omega) only [f_M_about, kd_t (cs_K0 hcs), cs_P0_0 hcs, kd_t (cs_K1 hcs), cs_P1_0 hcs, kd_t (cs_K2 hcs), cs_N2 hcs, cs_P0_1 hcs, kd_t (cs_K3 hcs), cs_N3 hcs, cs_P0_3 hcs, kd_t (cs_K4 hcs), cs_N4 hcs, cs_P0_5 hcs, kd_t (cs_K5 hcs), cs_N5 hcs, cs_P0_6 hcs, kd_t (cs_K6 hcs), cs_N6 hcs, cs_P0_8 hcs, kd_t (cs_K7 hcs), cs_N7 hcs, cs_P0_9 hcs, kd_t (cs_K8 hcs), cs_N8 hcs, cs_P0_11 hcs, kd_t (cs_K9 hcs), cs_P9_0 hcs, cs_P9_1 hcs, kd_t (cs_K10 hcs), cs_N10 hcs, cs_P9_3 hcs, kd_t (cs_K11 hcs), cs_P11_0 hcs, kd_t (cs_K12 hcs), cs_N12 hcs, cs_P0_12 hcs, kd_t (cs_K13 hcs), cs_P13_0 hcs, kd_t (cs_K14 hcs), cs_N14 hcs, cs_P13_2 hcs, kd_t (cs_K15 hcs), cs_N15 hcs, cs_P13_4 hcs, kd_t (cs_K16 hcs), cs_N16 hcs, cs_P0_16 hcs, kd_t (cs_K17 hcs), cs_N17 hcs, cs_P0_17 hcs, kd_t (cs_K18 hcs), cs_N18 hcs, cs_P7_0 hcs, cs_P7_1 hcs, cs_P7_2 hcs, lt_t, nn_t, bd_t, bdD_t, bdP_t, nI_clamp, gi_n, nI_add, nI_1, pk_mul, b2_eq0, b2_01, nb_t, if_true, if_false, ni_le, ni_eq, ni_lt, st1, c_within, c1, si.p, kd_t si.k, si.g2]
      rw [if_neg (by decide)]
    · by_cases q1 : v2 = 1
      · subst q1
        refine ⟨nI (s 25 c), _, ?_, ra.2.1, iv_w0 h⟩
        simp (maxSteps := 1000000) (disch := omega) only [f_M_about, kd_t (cs_K0 hcs), cs_P0_0 hcs, kd_t (cs_K1 hcs), cs_P1_0 hcs, kd_t (cs_K2 hcs), cs_N2 hcs, cs_P0_1 hcs, kd_t (cs_K3 hcs), cs_N3 hcs, cs_P0_3 hcs, kd_t (cs_K4 hcs), cs_N4 hcs, cs_P0_5 hcs, kd_t (cs_K5 hcs), cs_N5 hcs, cs_P0_6 hcs, kd_t (cs_K6 hcs), cs_N6 hcs, cs_P0_8 hcs, kd_t (cs_K7 hcs), cs_N7 hcs, cs_P0_9 hcs, kd_t (cs_K8 hcs), cs_N8 hcs, cs_P0_11 hcs, kd_t (cs_K9 hcs), cs_P9_0 hcs, cs_P9_1 hcs, kd_t (cs_K10 hcs), cs_N10 hcs, cs_P9_3 hcs, kd_t (cs_K11 hcs), cs_P11_0 hcs, kd_t (cs_K12 hcs), cs_N12 hcs, cs_P0_12 hcs, kd_t (cs_K13 hcs), cs_P13_0 hcs, kd_t (cs_K14 hcs), cs_N14 hcs, cs_P13_2 hcs, kd_t (cs_K15 hcs), cs_N15 hcs, cs_P13_4 hcs, kd_t (cs_K16 hcs), cs_N16 hcs, cs_P0_16 hcs, kd_t (cs_K17 hcs), cs_N17 hcs, cs_P0_17 hcs, kd_t (cs_K18 hcs), cs_N18 hcs, cs_P7_0 hcs, cs_P7_1 hcs, cs_P7_2 hcs, lt_t, nn_t, bd_t, bdD_t, bdP_t, nI_clamp, gi_n, nI_add, nI_1, pk_mul, b2_eq0, b2_01, nb_t, if_true, if_false, ni_le, ni_eq, ni_lt, st1, c_within, c1, si.p, kd_t si.k, si.g3]
        rw [if_neg (by decide), if_neg (by decide)]
      · by_cases q4 : v2 = 4
        · subst q4
          refine ⟨nI (s 22 c), _, ?_, ra.2.2, iv_w0 h⟩
          simp (maxSteps := 1000000) (disch := omega) only [f_M_about, kd_t (cs_K0 hcs), cs_P0_0 hcs, kd_t (cs_K1 hcs), cs_P1_0 hcs, kd_t (cs_K2 hcs), cs_N2 hcs, cs_P0_1 hcs, kd_t (cs_K3 hcs), cs_N3 hcs, cs_P0_3 hcs, kd_t (cs_K4 hcs), cs_N4 hcs, cs_P0_5 hcs, kd_t (cs_K5 hcs), cs_N5 hcs, cs_P0_6 hcs, kd_t (cs_K6 hcs), cs_N6 hcs, cs_P0_8 hcs, kd_t (cs_K7 hcs), cs_N7 hcs, cs_P0_9 hcs, kd_t (cs_K8 hcs), cs_N8 hcs, cs_P0_11 hcs, kd_t (cs_K9 hcs), cs_P9_0 hcs, cs_P9_1 hcs, kd_t (cs_K10 hcs), cs_N10 hcs, cs_P9_3 hcs, kd_t (cs_K11 hcs), cs_P11_0 hcs, kd_t (cs_K12 hcs), cs_N12 hcs, cs_P0_12 hcs, kd_t (cs_K13 hcs), cs_P13_0 hcs, kd_t (cs_K14 hcs), cs_N14 hcs, cs_P13_2 hcs, kd_t (cs_K15 hcs), cs_N15 hcs, cs_P13_4 hcs, kd_t (cs_K16 hcs), cs_N16 hcs, cs_P0_16 hcs, kd_t (cs_K17 hcs), cs_N17 hcs, cs_P0_17 hcs, kd_t (cs_K18 hcs), cs_N18 hcs, cs_P7_0 hcs, cs_P7_1 hcs, cs_P7_2 hcs, lt_t, nn_t, bd_t, bdD_t, bdP_t, nI_clamp, gi_n, nI_add, nI_1, pk_mul, b2_eq0, b2_01, nb_t, if_true, if_false, ni_le, ni_eq, ni_lt, st1, c_within, c1, si.p, kd_t si.k, si.g0]
          rw [if_neg (by decide), if_neg (by decide), if_neg (by decide), if_neg (by decide), if_neg (by decide)]
        · have ru := r_about_u h.rp.ri h.b hc sv.1 sv.2
          by_cases q2 : v2 = 2
          · subst q2
            obtain ⟨e, fe, ce⟩ := ru.1
            refine ⟨nI (dsc s (nI (s 23 c))).length, e, ?_, fe, iv_rf h (rp_ch (rp_w0 h.rp) ce (ri_ch (rp_w0 h.rp).ri ce (fun a j p => by unfold PU at p; omega)) (fun c => by unfold PU; omega)) (rf_t (rf_w (by omega)) (rf_PU ce))⟩
            simp (maxSteps := 1000000) (disch := omega) only [f_M_about, kd_t (cs_K0 hcs), cs_P0_0 hcs, kd_t (cs_K1 hcs), cs_P1_0 hcs, kd_t (cs_K2 hcs), cs_N2 hcs, cs_P0_1 hcs, kd_t (cs_K3 hcs), cs_N3 hcs, cs_P0_3 hcs, kd_t (cs_K4 hcs), cs_N4 hcs, cs_P0_5 hcs, kd_t (cs_K5 hcs), cs_N5 hcs, cs_P0_6 hcs, kd_t (cs_K6 hcs), cs_N6 hcs, cs_P0_8 hcs, kd_t (cs_K7 hcs), cs_N7 hcs, cs_P0_9 hcs, kd_t (cs_K8 hcs), cs_N8 hcs, cs_P0_11 hcs, kd_t (cs_K9 hcs), cs_P9_0 hcs, cs_P9_1 hcs, kd_t (cs_K10 hcs), cs_N10 hcs, cs_P9_3 hcs, kd_t (cs_K11 hcs), cs_P11_0 hcs, kd_t (cs_K12 hcs), cs_N12 hcs, cs_P0_12 hcs, kd_t (cs_K13 hcs), cs_P13_0 hcs, kd_t (cs_K14 hcs), cs_N14 hcs, cs_P13_2 hcs, kd_t (cs_K15 hcs), cs_N15 hcs, cs_P13_4 hcs, kd_t (cs_K16 hcs), cs_N16 hcs, cs_P0_16 hcs, kd_t (cs_K17 hcs), cs_N17 hcs, cs_P0_17 hcs, kd_t (cs_K18 hcs), cs_N18 hcs, cs_P7_0 hcs, cs_P7_1 hcs, cs_P7_2 hcs, lt_t, nn_t, bd_t, bdD_t, bdP_t, nI_clamp, gi_n, nI_add, nI_1, pk_mul, b2_eq0, b2_01, nb_t, if_true, if_false, ni_le, ni_eq, ni_lt, st1, c_within, c1, si.p, kd_t si.k, si.p4, kd_t si.k1, si.n1]
            rw [if_neg (by decide), if_neg (by decide), if_neg (by decide)]; rfl
          · by_cases q3 : v2 = 3
            · subst q3
              obtain ⟨e, fe, ce⟩ := ru.2
              refine ⟨nI (uBy (run ([], []) (uT s c))).length, e, ?_, fe, iv_rf h (rp_ch (rp_w0 h.rp) ce (ri_ch (rp_w0 h.rp).ri ce (fun a j p => by unfold PU at p; omega)) (fun c => by unfold PU; omega)) (rf_t (rf_w (by omega)) (rf_PU ce))⟩
              simp (maxSteps := 1000000) (disch := omega) only [f_M_about, kd_t (cs_K0 hcs), cs_P0_0 hcs, kd_t (cs_K1 hcs), cs_P1_0 hcs, kd_t (cs_K2 hcs), cs_N2 hcs, cs_P0_1 hcs, kd_t (cs_K3 hcs), cs_N3 hcs, cs_P0_3 hcs, kd_t (cs_K4 hcs), cs_N4 hcs, cs_P0_5 hcs, kd_t (cs_K5 hcs), cs_N5 hcs, cs_P0_6 hcs, kd_t (cs_K6 hcs), cs_N6 hcs, cs_P0_8 hcs, kd_t (cs_K7 hcs), cs_N7 hcs, cs_P0_9 hcs, kd_t (cs_K8 hcs), cs_N8 hcs, cs_P0_11 hcs, kd_t (cs_K9 hcs), cs_P9_0 hcs, cs_P9_1 hcs, kd_t (cs_K10 hcs), cs_N10 hcs, cs_P9_3 hcs, kd_t (cs_K11 hcs), cs_P11_0 hcs, kd_t (cs_K12 hcs), cs_N12 hcs, cs_P0_12 hcs, kd_t (cs_K13 hcs), cs_P13_0 hcs, kd_t (cs_K14 hcs), cs_N14 hcs, cs_P13_2 hcs, kd_t (cs_K15 hcs), cs_N15 hcs, cs_P13_4 hcs, kd_t (cs_K16 hcs), cs_N16 hcs, cs_P0_16 hcs, kd_t (cs_K17 hcs), cs_N17 hcs, cs_P0_17 hcs, kd_t (cs_K18 hcs), cs_N18 hcs, cs_P7_0 hcs, cs_P7_1 hcs, cs_P7_2 hcs, lt_t, nn_t, bd_t, bdD_t, bdP_t, nI_clamp, gi_n, nI_add, nI_1, pk_mul, b2_eq0, b2_01, nb_t, if_true, if_false, ni_le, ni_eq, ni_lt, st1, c_within, c1, si.p, kd_t si.k, si.p5, kd_t si.k5, si.n5]
              rw [if_neg (by decide), if_neg (by decide), if_neg (by decide), if_neg (by decide)]; rfl
            · refine ⟨-1, _, ?_, r_about_n h.rp.ri (.inr ⟨q0, q1, q2, q3, q4⟩), iv_w0 h⟩
              simp (maxSteps := 1000000) (disch := omega) only [f_M_about, kd_t (cs_K0 hcs), cs_P0_0 hcs, kd_t (cs_K1 hcs), cs_P1_0 hcs, kd_t (cs_K2 hcs), cs_N2 hcs, cs_P0_1 hcs, kd_t (cs_K3 hcs), cs_N3 hcs, cs_P0_3 hcs, kd_t (cs_K4 hcs), cs_N4 hcs, cs_P0_5 hcs, kd_t (cs_K5 hcs), cs_N5 hcs, cs_P0_6 hcs, kd_t (cs_K6 hcs), cs_N6 hcs, cs_P0_8 hcs, kd_t (cs_K7 hcs), cs_N7 hcs, cs_P0_9 hcs, kd_t (cs_K8 hcs), cs_N8 hcs, cs_P0_11 hcs, kd_t (cs_K9 hcs), cs_P9_0 hcs, cs_P9_1 hcs, kd_t (cs_K10 hcs), cs_N10 hcs, cs_P9_3 hcs, kd_t (cs_K11 hcs), cs_P11_0 hcs, kd_t (cs_K12 hcs), cs_N12 hcs, cs_P0_12 hcs, kd_t (cs_K13 hcs), cs_P13_0 hcs, kd_t (cs_K14 hcs), cs_N14 hcs, cs_P13_2 hcs, kd_t (cs_K15 hcs), cs_N15 hcs, cs_P13_4 hcs, kd_t (cs_K16 hcs), cs_N16 hcs, cs_P0_16 hcs, kd_t (cs_K17 hcs), cs_N17 hcs, cs_P0_17 hcs, kd_t (cs_K18 hcs), cs_N18 hcs, cs_P7_0 hcs, cs_P7_1 hcs, cs_P7_2 hcs, lt_t, nn_t, bd_t, bdD_t, bdP_t, nI_clamp, gi_n, nI_add, nI_1, pk_mul, b2_eq0, b2_01, nb_t, if_true, if_false, ni_le, ni_eq, ni_lt, st1, c_within, c1, si.p, q0, q1, q2, q3, q4]
              rw [if_neg (by decide)]
end st
