theorem rng {lo hi : Nat} {v : Int32} (h1 : nI lo ≤ v) (h2 : v ≤ nI hi) (hh : hi + 1 < 2 ^ 31) (hl : lo < 2 ^ 31) : ∃ a, lo ≤ a ∧ a ≤ hi ∧ v = nI a := by
  rcases pk_ix v (n := hi + 1) hh with q | q | ⟨a, ha, rfl⟩
  · exact absurd (Int32.lt_of_le_of_lt h1 q) (nI_pos hl)
  · have := Int32.le_trans q h2
    rw [nI_leI (by omega) (by omega)] at this
    omega
  · rw [nI_leI hl (by omega)] at h1
    exact ⟨a, h1, by omega, rfl⟩
theorem lg_ix {v : Int64} {n : Nat} (hn : n < 2 ^ 31) (h1 : ¬ lg_cmp v 0 < 0) (h2 : ¬ 0 ≤ lg_cmp v (Int32.toInt64 (nI n))) : ∃ j, j < n ∧ v.toInt32 = nI j := by
  rw [lg_cmp_lt, Int64.not_lt, Int64.le_iff_toInt_le] at h1
  rw [lg_cmp_ge, Int64.not_le, Int64.lt_iff_toInt_lt, Int32.toInt_toInt64] at h2
  have hz : (0 : Int64).toInt = 0 := by decide
  rw [hz] at h1
  have e : ∀ k, k < 2 ^ 31 → (nI k).toInt = (k : Int) := by
    intro k hk
    exact Int32.toInt_ofNat_of_lt hk
  rw [e n hn] at h2
  obtain ⟨j, hj⟩ : ∃ j : Nat, v.toInt = (j : Int) := ⟨v.toInt.toNat, by omega⟩
  refine ⟨j, by omega, ?_⟩
  apply Int32.toInt_inj.mp
  rw [Int64.toInt_toInt32, hj, e j (by omega)]
  rw [Int.bmod_eq_of_le] <;> omega
section ref
variable {S : gS} {d e : gD} {m : Nat} {s s' : Nat → Nat → Nat} {q : (Nat → Int64) × Int64 × (Nat → Int64) × (Nat → Int32)}
theorem pd_21 (c : Nat) : ¬ PD m (m + 21) c := by unfold PD; omega
theorem pc_21 (c : Nat) : ¬ PC m (m + 21) c := by unfold PC; omega
theorem rf_PD (g : Ch (PD m) d e) : Rf m d e := rf_ch g (fun a j p => by unfold PD at p; omega)
theorem rf_PC (g : Ch (PC m) d e) : Rf m d e := rf_ch g (fun a j p => by unfold PC at p; omega)
theorem rf_PU (g : Ch (PU m) d e) : Rf m d e := rf_ch g (fun a j p => by unfold PU at p; omega)
theorem ds_at {v : Int32} (b : BI s) (ho : okL s v) (D : DS e m s v) {k : Nat} (hk : k < (dsc s v).length) : dI e (m + 29) k = nI ((ord s (dsc s v)).getD k 0) ∧ (ord s (dsc s v)).getD k 0 < (dsc s v).length ∧ dI e (m + 25) ((ord s (dsc s v)).getD k 0) = nI ((perm s (dsc s v)).getD k df).1 ∧ dI e (m + 27) ((ord s (dsc s v)).getD k 0) = nI ((perm s (dsc s v)).getD k df).2.length ∧ Row e (m + 26) (16 * (ord s (dsc s v)).getD k 0) ((perm s (dsc s v)).getD k df).2 ∧ vx s ((perm s (dsc s v)).getD k df).1 ∧ cl ((perm s (dsc s v)).getD k df).2 ∧ (perm s (dsc s v)).getD k df = (dsc s v).getD ((ord s (dsc s v)).getD k 0) df := by
  have hof := ord_full (s := s) (fl := dsc s v)
  have hj : (ord s (dsc s v)).getD k 0 < (dsc s v).length := (hof.2 _).mp (getD_mem (by omega))
  have hr := D.2 k (by omega)
  rw [Nat.zero_add] at hr
  have hf := D.1.2 _ hj
  have g := GF_dscK b ho _ (Nat.le_refl _)
  have hp := perm_vx b g (i := k) (by rw [perm_len]; exact hk)
  rw [show dscK s v (ln v) = dsc s v from rfl] at hp
  refine ⟨hr, hj, ?_, ?_, ?_, hp.1, hp.2, perm_at hk⟩
  · rw [perm_at hk]; exact hf.1
  · rw [perm_at hk]; exact hf.2.1
  · rw [perm_at hk]; exact hf.2.2
theorem r_told_k (h : RP S d m s q) (b : BI s) {c : Nat} (hc : c < s 21 0) (ho : okL s (nI (s 23 c))) {v2 v3 : Int32} (hk : cIn 0 (nI (dsc s (nI (s 23 c))).length) v2 = false) : ∃ e, f_R_told S d m (nI c) v2 v3 = some (-1, e) ∧ RP S e m s q ∧ Rf m d e := by
  have hS := b.stands
  have h2 := rp_w0 (v := 0) h
  obtain ⟨e, fe, ce, De⟩ := r_describe h2.ri b ho
  refine ⟨e, ?_, rp_ch h2 ce (ri_PD h2.ri ce) pd_21, rf_t (rf_w (by omega)) (rf_PD ce)⟩
  simp (maxSteps := 1000000) (disch := omega) only [f_R_told, kd_t h2.ri.rs.1, rs_P13 h2.ri.rs, kd_t (rs_K13 h2.ri.rs), rs_N13 h2.ri.rs, ri_13 h2.ri, rs_P14 h2.ri.rs, kd_t (rs_K14 h2.ri.rs), rs_N14 h2.ri.rs, ri_14 h2.ri, rs_P15 h2.ri.rs, kd_t (rs_K15 h2.ri.rs), rs_N15 h2.ri.rs, ri_15 h2.ri, rs_P23 h2.ri.rs, kd_t (rs_K23 h2.ri.rs), rs_N23 h2.ri.rs, ri_23 h2.ri, rs_P32 h2.ri.rs, kd_t (rs_K32 h2.ri.rs), rs_N32 h2.ri.rs, rs_P36 h2.ri.rs, kd_t (rs_K36 h2.ri.rs), rs_N36 h2.ri.rs, lt_t, nn_t, bd_t, bdD_t, bdP_t, nI_clamp, gi_n, nI_add, nI_1, pk_mul, b2_eq0, b2_01, nb_t, if_true, if_false, ni_le, ni_eq, ni_lt, r_isStand h2.ri, c0_of b hc, fe, De.1.1]
  rw [if_neg (by decide)]
  unfold cIn at hk
  rw [Bool.and_eq_false_iff, decide_eq_false_iff_not, decide_eq_false_iff_not] at hk
  by_cases q1 : v2 < 0
  · rw [if_pos q1]
  · rw [if_neg q1, if_neg (by
      rcases hk with hk | hk
      · exact fun _ => hk (Int32.not_lt.mp q1)
      · exact hk)]
theorem r_told_y (h : RP S d m s q) (b : BI s) {c k : Nat} (hc : c < s 21 0) (ho : okL s (nI (s 23 c))) (hk : k < (dsc s (nI (s 23 c))).length) (v3 : Int32) : ∃ e, f_R_told S d m (nI c) (nI k) v3 = some (tdV s ((perm s (dsc s (nI (s 23 c)))).getD k df) (ct s ((perm s (dsc s (nI (s 23 c)))).getD k df).2) v3, e) ∧ RP S e m s q ∧ Rf m d e := by
  have hS := b.stands
  have h2 := rp_w0 (v := 0) h
  obtain ⟨e, fe, ce, De⟩ := r_describe h2.ri b ho
  have he := rp_ch h2 ce (ri_PD h2.ri ce) pd_21
  have hg := GF_dscK b ho _ (Nat.le_refl _)
  rw [show dscK s (nI (s 23 c)) (ln (nI (s 23 c))) = dsc s (nI (s 23 c)) from rfl] at hg
  have hlen := GF_len hg
  obtain ⟨a1, a2, a3, a4, a5, a6, a7, a8⟩ := ds_at b ho De hk
  generalize hj : (ord s (dsc s (nI (s 23 c)))).getD k 0 = j at a1 a2 a3 a4 a5 a8
  generalize hp : (perm s (dsc s (nI (s 23 c)))).getD k df = p at a3 a4 a5 a6 a7 a8
  have p75 := vx_lt b a6
  have lB := cl_len a7
  have rfe := rf_t (rf_w (m := m) (d := d) (a := m) (k := 0) (v := 0) (by omega)) (rf_PD ce)
  obtain ⟨e2, f2, c2, w2⟩ := r_catchFor he.ri b De.1 hg.2.1 (by omega) a2
  rw [← a8] at w2
  have he2 := rp_ch he c2 (ri_PC he.ri c2) pc_21
  have lc := cl_len (cl_ct (s := s) a7)
  have main : ∀ r e3, (RP S e3 m s q ∧ Rf m d e3) → f_R_told S d m (nI c) (nI k) v3 = some (r, e3) → r = tdV s p (ct s p.2) v3 → ∃ e, f_R_told S d m (nI c) (nI k) v3 = some (tdV s p (ct s p.2) v3, e) ∧ RP S e m s q ∧ Rf m d e := by
    intro r e3 h3 hf hr
    exact ⟨e3, by rw [hf, hr], h3.1, h3.2⟩
  have ev0 : f_R_told S d m (nI c) (nI k) v3 = if v3 = 0 then some (nI (s 13 p.1), e) else if v3 = 1 then some (nI (s 14 p.1), e) else if v3 < 2 then f_R_told_J105 S m e v3 (nI j) (nI p.1) else if 4 < v3 then f_R_told_J105 S m e v3 (nI j) (nI p.1) else lt_ (sP S m 15) fun x24 => nn x24 fun a25 => kd S a25 50 <| gi (((3 * nI p.1) + v3) - 2) (sN S a25) <| lt_ (dI e a25 (((3 * nI p.1) + v3) - 2 : Int32).toNatClampNeg) fun x28 => some (x28, e) := by
    simp (maxSteps := 1000000) (disch := omega) only [f_R_told, kd_t he.ri.rs.1, rs_P13 he.ri.rs, kd_t (rs_K13 he.ri.rs), rs_N13 he.ri.rs, ri_13 he.ri, rs_P14 he.ri.rs, kd_t (rs_K14 he.ri.rs), rs_N14 he.ri.rs, ri_14 he.ri, rs_P15 he.ri.rs, kd_t (rs_K15 he.ri.rs), rs_N15 he.ri.rs, ri_15 he.ri, rs_P23 he.ri.rs, kd_t (rs_K23 he.ri.rs), rs_N23 he.ri.rs, ri_23 he.ri, rs_P32 he.ri.rs, kd_t (rs_K32 he.ri.rs), rs_N32 he.ri.rs, rs_P36 he.ri.rs, kd_t (rs_K36 he.ri.rs), rs_N36 he.ri.rs, lt_t, nn_t, bd_t, bdD_t, bdP_t, nI_clamp, gi_n, nI_add, nI_1, pk_mul, b2_eq0, b2_01, nb_t, if_true, if_false, ni_le, ni_eq, ni_lt, r_isStand h2.ri, c0_of b hc, ri_23 h2.ri, fe, De.1.1, a1, a3]
    rw [if_neg (by decide), if_neg (nI_pos (by omega)), if_pos hk]
  unfold tdV at main ⊢
  by_cases q0 : v3 = 0
  · rw [if_pos q0] at main ev0 ⊢; exact ⟨e, ev0, he, rfe⟩
  · rw [if_neg q0] at main ev0 ⊢
    by_cases q1 : v3 = 1
    · rw [if_pos q1] at main ev0 ⊢; exact ⟨e, ev0, he, rfe⟩
    · rw [if_neg q1] at main ev0 ⊢
      by_cases q2 : 2 ≤ v3 ∧ v3 ≤ 4
      · rw [if_pos q2]
        rw [if_neg (Int32.not_lt.mpr q2.1), if_neg (Int32.not_lt.mpr q2.2)] at ev0
        obtain ⟨a, ha1, ha2, rfl⟩ := rng (lo := 2) (hi := 4) q2.1 q2.2 (by omega) (by omega)
        have e1 : (3 * nI p.1 + nI a) - 2 = nI (3 * p.1 + (a - 2)) := by
          rw [l3_m, nI_add, l2_s _ (by omega)]; congr 1; omega
        rw [ev0, e1]
        rw [nI_clamp (show a < 2 ^ 31 by omega)]
        refine ⟨e, ?_, he, rfe⟩
        simp (maxSteps := 1000000) (disch := omega) only [f_R_told, kd_t he.ri.rs.1, rs_P13 he.ri.rs, kd_t (rs_K13 he.ri.rs), rs_N13 he.ri.rs, ri_13 he.ri, rs_P14 he.ri.rs, kd_t (rs_K14 he.ri.rs), rs_N14 he.ri.rs, ri_14 he.ri, rs_P15 he.ri.rs, kd_t (rs_K15 he.ri.rs), rs_N15 he.ri.rs, ri_15 he.ri, rs_P23 he.ri.rs, kd_t (rs_K23 he.ri.rs), rs_N23 he.ri.rs, ri_23 he.ri, rs_P32 he.ri.rs, kd_t (rs_K32 he.ri.rs), rs_N32 he.ri.rs, rs_P36 he.ri.rs, kd_t (rs_K36 he.ri.rs), rs_N36 he.ri.rs, lt_t, nn_t, bd_t, bdD_t, bdP_t, nI_clamp, gi_n, nI_add, nI_1, pk_mul, b2_eq0, b2_01, nb_t, if_true, if_false, ni_le, ni_eq, ni_lt, rs_P15 he.ri.rs, ri_15 he.ri, kd_t (rs_K15 he.ri.rs), rs_N15 he.ri.rs]
      · rw [if_neg q2]
        have ev1 : f_R_told S d m (nI c) (nI k) v3 = f_R_told_J105 S m e v3 (nI j) (nI p.1) := by
          rw [ev0]
          by_cases r1 : v3 < 2
          · rw [if_pos r1]
          · rw [if_neg r1, if_pos]
            exact Int32.not_le.mp (fun c => q2 ⟨Int32.not_lt.mp r1, c⟩)
        rw [ev1]
        simp only [f_R_told_J105, r_owner p75, r_numberOf p75, bd_t]
        by_cases q5 : v3 = 5
        · rw [if_pos q5, if_pos q5]; exact ⟨e, rfl, he, rfe⟩
        · rw [if_neg q5, if_neg q5]
          by_cases q6 : v3 = 6
          · rw [if_pos q6, if_pos q6]; exact ⟨e, rfl, he, rfe⟩
          · rw [if_neg q6, if_neg q6]
            by_cases q16 : 16 ≤ v3 ∧ v3 < 32
            · rw [if_pos q16, if_neg (Int32.not_lt.mpr q16.1), if_neg (Int32.not_le.mpr q16.2)]
              obtain ⟨a, ha1, ha2, rfl⟩ := rng (lo := 16) (hi := 31) q16.1 (by
                rcases pk_ix v3 (n := 32) (by omega) with w | w | ⟨a, ha, rfl⟩
                · exact Int32.le_of_lt (Int32.lt_of_lt_of_le w (by decide))
                · exact absurd q16.2 (Int32.not_lt.mpr w)
                · rw [nI_leI (by omega) (by omega)]; omega) (by omega) (by omega)
              refine ⟨e, ?_, he, rfe⟩
              have e1 : (16 * nI j + nI a) - 16 = nI (16 * j + (a - 16)) := by
                rw [l16_m, nI_add, l16_s _ (by omega)]; congr 1; omega
              rw [nI_clamp (show a < 2 ^ 31 by omega)]
              by_cases r : p.2.length ≤ a - 16
              · simp (maxSteps := 1000000) (disch := omega) only [f_R_told_J105, kd_t he.ri.rs.1, rs_P33 he.ri.rs, kd_t (rs_K33 he.ri.rs), rs_N33 he.ri.rs, rs_P34 he.ri.rs, kd_t (rs_K34 he.ri.rs), rs_N34 he.ri.rs, lt_t, nn_t, bd_t, bdD_t, bdP_t, nI_clamp, gi_n, nI_add, nI_1, pk_mul, b2_eq0, b2_01, nb_t, if_true, if_false, ni_le, ni_eq, ni_lt, a4, l16_s]
                rw [if_pos r, List.getD_eq_getElem?_getD, List.getElem?_eq_none r]; rfl
              · have hb := a5 (a - 16) (by omega)
                simp (maxSteps := 1000000) (disch := omega) only [f_R_told_J105, kd_t he.ri.rs.1, rs_P33 he.ri.rs, kd_t (rs_K33 he.ri.rs), rs_N33 he.ri.rs, rs_P34 he.ri.rs, kd_t (rs_K34 he.ri.rs), rs_N34 he.ri.rs, lt_t, nn_t, bd_t, bdD_t, bdP_t, nI_clamp, gi_n, nI_add, nI_1, pk_mul, b2_eq0, b2_01, nb_t, if_true, if_false, ni_le, ni_eq, ni_lt, a4, l16_s, e1, hb]
                rw [if_neg r]
            · rw [if_neg q16]
              have ev2 : (if v3 < 16 then f_R_told_J174 S m e v3 (nI j) else if 32 ≤ v3 then f_R_told_J174 S m e v3 (nI j) else kd S m 10 <| lt_ (sP S m 34) fun x2 => nn x2 fun a3 => kd S a3 50 <| gi (nI j) (sN S a3) <| lt_ (dI e a3 (nI j).toNatClampNeg) fun x6 => if x6 ≤ (v3 - 16) then some (0, e) else lt_ (sP S m 33) fun x7 => nn x7 fun a8 => kd S a8 50 <| gi (((16 * nI j) + v3) - 16) (sN S a8) <| lt_ (dI e a8 (((16 * nI j) + v3) - 16 : Int32).toNatClampNeg) fun x11 => some (x11, e)) = f_R_told_J174 S m e v3 (nI j) := by
                by_cases r1 : v3 < 16
                · rw [if_pos r1]
                · rw [if_neg r1, if_pos]
                  exact Int32.not_lt.mp (fun c => q16 ⟨Int32.not_lt.mp r1, c⟩)
              rw [ev2]
              by_cases q32 : 32 ≤ v3 ∧ v3 ≤ 47
              · rw [if_pos q32]
                obtain ⟨a, ha1, ha2, rfl⟩ := rng (lo := 32) (hi := 47) q32.1 q32.2 (by omega) (by omega)
                rw [nI_clamp (show a < 2 ^ 31 by omega)]
                refine ⟨e2, ?_, he2, rf_t rfe (rf_PC c2)⟩
                by_cases r : (ct s p.2).length ≤ a - 32
                · simp (maxSteps := 1000000) (disch := omega) only [f_R_told_J174, kd_t he2.ri.rs.1, rs_P38 he2.ri.rs, kd_t (rs_K38 he2.ri.rs), rs_N38 he2.ri.rs, lt_t, nn_t, bd_t, bdD_t, bdP_t, nI_clamp, gi_n, nI_add, nI_1, pk_mul, b2_eq0, b2_01, nb_t, if_true, if_false, ni_le, ni_eq, ni_lt, f2, w2.1, l32_s, l32_lt, l47_le]
                  rw [if_neg (by omega), if_pos (by omega), if_pos r, List.getD_eq_getElem?_getD, List.getElem?_eq_none r]; rfl
                · have hb := w2.2 (a - 32) (by omega)
                  rw [Nat.zero_add] at hb
                  simp (maxSteps := 1000000) (disch := omega) only [f_R_told_J174, kd_t he2.ri.rs.1, rs_P38 he2.ri.rs, kd_t (rs_K38 he2.ri.rs), rs_N38 he2.ri.rs, lt_t, nn_t, bd_t, bdD_t, bdP_t, nI_clamp, gi_n, nI_add, nI_1, pk_mul, b2_eq0, b2_01, nb_t, if_true, if_false, ni_le, ni_eq, ni_lt, f2, w2.1, l32_s, l32_lt, l47_le, hb]
                  rw [if_neg (by omega), if_pos (by omega), if_neg r]
              · rw [if_neg q32]
                refine ⟨e, ?_, he, rfe⟩
                simp only [f_R_told_J174]
                by_cases r1 : v3 < 32
                · rw [if_pos r1]
                · rw [if_neg r1, if_neg (fun c => q32 ⟨Int32.not_lt.mp r1, c⟩)]
end ref
