theorem uT_w {s : Nat → Nat → Nat} {c : Nat} : uT s c = wT s (perm s (dsc s (nI (s 23 c)))) (s 24 c) (s 25 c) (nI (s 23 c)) := by
  unfold uT wT
  rw [perm_len, MT_perm _ (Nat.le_refl _)]
  simp only [List.append_assoc, List.cons_append, List.nil_append]
theorem okT_w {s : Nat → Nat → Nat} (b : BI s) {D : List (Nat × List Nat)} {pk nm : Nat} {v : Int32} (hv : ∀ i, i < D.length → vx s (D.getD i df).1 ∧ cl (D.getD i df).2) (hD : D.length < 256) (hl : ∀ k, k < ln v → ub v k < 47) (hpk : pk < 256) (hnm : nm < 256) : okT (wT s D pk nm v) := by
  have hMT : ∀ k, k ≤ D.length → okT (MT s D k) := by
    intro k
    induction k with
    | zero => intro _; exact okT_n
    | succ k ih => intro hk; exact okT_a (ih (by omega)) (okT_m b (hv k (by omega)).1 (hv k (by omega)).2 (cl_ct (hv k (by omega)).2))
  have := ln_le v
  unfold wT
  exact okT_a (okT_0 hpk) (okT_a (okT_0 hnm) (okT_a (okT_a (okT_0 (by omega)) (okT_ls hl _ (Nat.le_refl _))) (okT_a (okT_0 (by omega)) (hMT _ (Nat.le_refl _)))))
theorem uBy_256 {s : Nat → Nat → Nat} (b : BI s) {c : Nat} (ho : okL s (nI (s 23 c))) (h40 : (dsc s (nI (s 23 c))).length ≤ 40) (hp : s 24 c < 256 ∧ s 25 c < 256) : ∀ v, v ∈ uBy (run ([], []) (uT s c)) → v < 256 := by
  have hF := b.faces
  have g := GF_dscK b ho _ (Nat.le_refl _)
  rw [show dscK s (nI (s 23 c)) (ln (nI (s 23 c))) = dsc s (nI (s 23 c)) from rfl] at g
  have hok : okT (uT s c) := by
    rw [uT_w]
    exact okT_w b (fun i hi => perm_vx b g hi) (by rw [perm_len]; omega) (fun k hk => by have := ho k hk; omega) hp.1 hp.2
  have g0 : GP ([] : List (Nat × Nat × Nat)) := ⟨fun k hk => absurd hk List.not_mem_nil, trivial⟩
  have gT : GP (run ([], []) (uT s c)).1 := GP_run (fun k hk => (hok k hk).1) g0
  have hpl := GP_len gT
  have b256 := run_256 _ ([], []) hok g0 (fun v hv => absurd hv List.not_mem_nil)
  intro v hv
  unfold uBy at hv
  rcases List.mem_append.mp hv with w | w
  · simp only [List.mem_cons, List.not_mem_nil, or_false] at w
    omega
  · rcases List.mem_append.mp w with w | w
    · exact fB_256 gT.1 v w
    · exact b256 v w
section st
variable {S : gS} {d : gD} {x : Nat} {s : Nat → Nat → Nat} {A : Nat → Nat → Nat} {q : (Nat → Int64) × Int64 × (Nat → Int64) × (Nat → Int32)}
theorem c_hasMethod (h : G1 S d x s A q.2.2.2) (b : BI s) {c : Nat} (hc : c < s 21 0) (v2 : Int32) : f_M_hasMethod S d x (nI c) v2 = some (b2 (cIn 0 (nI (dsc s (nI (s 23 c))).length) v2)) := by
  have hS := b.stands
  have si := h.st2 c hc
  simp (maxSteps := 1000000) (disch := omega) only [f_M_hasMethod, kd_t (cs_K0 h.ce.cs), cs_P0_0 h.ce.cs, kd_t (cs_K1 h.ce.cs), cs_P1_0 h.ce.cs, kd_t (cs_K2 h.ce.cs), cs_N2 h.ce.cs, cs_P0_1 h.ce.cs, kd_t (cs_K3 h.ce.cs), cs_N3 h.ce.cs, cs_P0_3 h.ce.cs, kd_t (cs_K4 h.ce.cs), cs_N4 h.ce.cs, cs_P0_5 h.ce.cs, kd_t (cs_K5 h.ce.cs), cs_N5 h.ce.cs, cs_P0_6 h.ce.cs, kd_t (cs_K6 h.ce.cs), cs_N6 h.ce.cs, cs_P0_8 h.ce.cs, kd_t (cs_K7 h.ce.cs), cs_N7 h.ce.cs, cs_P0_9 h.ce.cs, kd_t (cs_K8 h.ce.cs), cs_N8 h.ce.cs, cs_P0_11 h.ce.cs, kd_t (cs_K9 h.ce.cs), cs_P9_0 h.ce.cs, cs_P9_1 h.ce.cs, kd_t (cs_K10 h.ce.cs), cs_N10 h.ce.cs, cs_P9_3 h.ce.cs, kd_t (cs_K11 h.ce.cs), cs_P11_0 h.ce.cs, kd_t (cs_K12 h.ce.cs), cs_N12 h.ce.cs, cs_P0_12 h.ce.cs, kd_t (cs_K13 h.ce.cs), cs_P13_0 h.ce.cs, kd_t (cs_K14 h.ce.cs), cs_N14 h.ce.cs, cs_P13_2 h.ce.cs, kd_t (cs_K15 h.ce.cs), cs_N15 h.ce.cs, cs_P13_4 h.ce.cs, kd_t (cs_K16 h.ce.cs), cs_N16 h.ce.cs, cs_P0_16 h.ce.cs, kd_t (cs_K17 h.ce.cs), cs_N17 h.ce.cs, cs_P0_17 h.ce.cs, kd_t (cs_K18 h.ce.cs), cs_N18 h.ce.cs, cs_P7_0 h.ce.cs, cs_P7_1 h.ce.cs, cs_P7_2 h.ce.cs, lt_t, nn_t, bd_t, bdD_t, bdP_t, nI_clamp, gi_n, nI_add, nI_1, pk_mul, b2_eq0, b2_01, nb_t, if_true, if_false, ni_le, ni_eq, ni_lt, h.st1, c_within, c0_of b hc, si.p, kd_t si.k, si.p4, kd_t si.k1, si.n1]
  rw [if_neg (by decide), show Int32.ofNat (dsc s (nI (s 23 c))).length = nI (dsc s (nI (s 23 c))).length from rfl]
  cases cIn 0 (nI (dsc s (nI (s 23 c))).length) v2 <;> rfl
theorem c_hasMethod_n (h : G1 S d x s A q.2.2.2) {v1 v2 : Int32} (c1 : cIn 0 (nI (s 21 0)) v1 = false) : f_M_hasMethod S d x v1 v2 = some 0 := by
  simp (maxSteps := 1000000) (disch := omega) only [f_M_hasMethod, kd_t (cs_K0 h.ce.cs), cs_P0_0 h.ce.cs, kd_t (cs_K1 h.ce.cs), cs_P1_0 h.ce.cs, kd_t (cs_K2 h.ce.cs), cs_N2 h.ce.cs, cs_P0_1 h.ce.cs, kd_t (cs_K3 h.ce.cs), cs_N3 h.ce.cs, cs_P0_3 h.ce.cs, kd_t (cs_K4 h.ce.cs), cs_N4 h.ce.cs, cs_P0_5 h.ce.cs, kd_t (cs_K5 h.ce.cs), cs_N5 h.ce.cs, cs_P0_6 h.ce.cs, kd_t (cs_K6 h.ce.cs), cs_N6 h.ce.cs, cs_P0_8 h.ce.cs, kd_t (cs_K7 h.ce.cs), cs_N7 h.ce.cs, cs_P0_9 h.ce.cs, kd_t (cs_K8 h.ce.cs), cs_N8 h.ce.cs, cs_P0_11 h.ce.cs, kd_t (cs_K9 h.ce.cs), cs_P9_0 h.ce.cs, cs_P9_1 h.ce.cs, kd_t (cs_K10 h.ce.cs), cs_N10 h.ce.cs, cs_P9_3 h.ce.cs, kd_t (cs_K11 h.ce.cs), cs_P11_0 h.ce.cs, kd_t (cs_K12 h.ce.cs), cs_N12 h.ce.cs, cs_P0_12 h.ce.cs, kd_t (cs_K13 h.ce.cs), cs_P13_0 h.ce.cs, kd_t (cs_K14 h.ce.cs), cs_N14 h.ce.cs, cs_P13_2 h.ce.cs, kd_t (cs_K15 h.ce.cs), cs_N15 h.ce.cs, cs_P13_4 h.ce.cs, kd_t (cs_K16 h.ce.cs), cs_N16 h.ce.cs, cs_P0_16 h.ce.cs, kd_t (cs_K17 h.ce.cs), cs_N17 h.ce.cs, cs_P0_17 h.ce.cs, kd_t (cs_K18 h.ce.cs), cs_N18 h.ce.cs, cs_P7_0 h.ce.cs, cs_P7_1 h.ce.cs, cs_P7_2 h.ce.cs, lt_t, nn_t, bd_t, bdD_t, bdP_t, nI_clamp, gi_n, nI_add, nI_1, pk_mul, b2_eq0, b2_01, nb_t, if_true, if_false, ni_le, ni_eq, ni_lt, h.st1, c_within, c1]
theorem st_told (h : IV S d x s A q) (v1 v2 v3 : Int32) : ∃ r e, f_M_told S d x v1 v2 v3 = some r ∧ f_R_told S d (x + 28) v1 v2 v3 = some (r, e) ∧ IV S e x s A q := by
  have hcs := h.g1.ce.cs
  have hS := h.b.stands
  cases c1 : cIn 0 (nI (s 21 0)) v1 with
  | false =>
    refine ⟨-1, _, ?_, r_told_n h.rp c1, iv_w0 h⟩
    simp (maxSteps := 1000000) (disch := omega) only [f_M_told, kd_t (cs_K0 hcs), cs_P0_0 hcs, kd_t (cs_K1 hcs), cs_P1_0 hcs, kd_t (cs_K2 hcs), cs_N2 hcs, cs_P0_1 hcs, kd_t (cs_K3 hcs), cs_N3 hcs, cs_P0_3 hcs, kd_t (cs_K4 hcs), cs_N4 hcs, cs_P0_5 hcs, kd_t (cs_K5 hcs), cs_N5 hcs, cs_P0_6 hcs, kd_t (cs_K6 hcs), cs_N6 hcs, cs_P0_8 hcs, kd_t (cs_K7 hcs), cs_N7 hcs, cs_P0_9 hcs, kd_t (cs_K8 hcs), cs_N8 hcs, cs_P0_11 hcs, kd_t (cs_K9 hcs), cs_P9_0 hcs, cs_P9_1 hcs, kd_t (cs_K10 hcs), cs_N10 hcs, cs_P9_3 hcs, kd_t (cs_K11 hcs), cs_P11_0 hcs, kd_t (cs_K12 hcs), cs_N12 hcs, cs_P0_12 hcs, kd_t (cs_K13 hcs), cs_P13_0 hcs, kd_t (cs_K14 hcs), cs_N14 hcs, cs_P13_2 hcs, kd_t (cs_K15 hcs), cs_N15 hcs, cs_P13_4 hcs, kd_t (cs_K16 hcs), cs_N16 hcs, cs_P0_16 hcs, kd_t (cs_K17 hcs), cs_N17 hcs, cs_P0_17 hcs, kd_t (cs_K18 hcs), cs_N18 hcs, cs_P7_0 hcs, cs_P7_1 hcs, cs_P7_2 hcs, lt_t, nn_t, bd_t, bdD_t, bdP_t, nI_clamp, gi_n, nI_add, nI_1, pk_mul, b2_eq0, b2_01, nb_t, if_true, if_false, ni_le, ni_eq, ni_lt, c_hasMethod_n h.g1 c1]
  | true =>
    obtain ⟨c, -, hc, rfl⟩ := cIn_of (lo := 0) c1 (by omega) (by omega)
    have si := h.g1.st2 c hc
    have sv := h.sv.ok c hc
    cases c2 : cIn 0 (nI (dsc s (nI (s 23 c))).length) v2 with
    | false =>
      obtain ⟨e, fe, re, rf⟩ := r_told_k h.rp h.b hc sv.1 c2 (v3 := v3)
      refine ⟨-1, e, ?_, fe, iv_rf h re rf⟩
      simp (maxSteps := 1000000) (disch := omega) only [f_M_told, kd_t (cs_K0 hcs), cs_P0_0 hcs, kd_t (cs_K1 hcs), cs_P1_0 hcs, kd_t (cs_K2 hcs), cs_N2 hcs, cs_P0_1 hcs, kd_t (cs_K3 hcs), cs_N3 hcs, cs_P0_3 hcs, kd_t (cs_K4 hcs), cs_N4 hcs, cs_P0_5 hcs, kd_t (cs_K5 hcs), cs_N5 hcs, cs_P0_6 hcs, kd_t (cs_K6 hcs), cs_N6 hcs, cs_P0_8 hcs, kd_t (cs_K7 hcs), cs_N7 hcs, cs_P0_9 hcs, kd_t (cs_K8 hcs), cs_N8 hcs, cs_P0_11 hcs, kd_t (cs_K9 hcs), cs_P9_0 hcs, cs_P9_1 hcs, kd_t (cs_K10 hcs), cs_N10 hcs, cs_P9_3 hcs, kd_t (cs_K11 hcs), cs_P11_0 hcs, kd_t (cs_K12 hcs), cs_N12 hcs, cs_P0_12 hcs, kd_t (cs_K13 hcs), cs_P13_0 hcs, kd_t (cs_K14 hcs), cs_N14 hcs, cs_P13_2 hcs, kd_t (cs_K15 hcs), cs_N15 hcs, cs_P13_4 hcs, kd_t (cs_K16 hcs), cs_N16 hcs, cs_P0_16 hcs, kd_t (cs_K17 hcs), cs_N17 hcs, cs_P0_17 hcs, kd_t (cs_K18 hcs), cs_N18 hcs, cs_P7_0 hcs, cs_P7_1 hcs, cs_P7_2 hcs, lt_t, nn_t, bd_t, bdD_t, bdP_t, nI_clamp, gi_n, nI_add, nI_1, pk_mul, b2_eq0, b2_01, nb_t, if_true, if_false, ni_le, ni_eq, ni_lt, c_hasMethod h.g1 h.b hc, c2]
    | true =>
      obtain ⟨k, -, hk, rfl⟩ := cIn_of (lo := 0) c2 (by omega) (by omega)
      obtain ⟨e, fe, re, rf⟩ := r_told_y h.rp h.b hc sv.1 hk v3
      refine ⟨_, e, ?_, fe, iv_rf h re rf⟩
      have g := GF_dscK h.b sv.1 _ (Nat.le_refl _)
      rw [show dscK s (nI (s 23 c)) (ln (nI (s 23 c))) = dsc s (nI (s 23 c)) from rfl] at g
      have pv := perm_vx h.b g (i := k) (by rw [perm_len]; exact hk)
      obtain ⟨m1, m2, m3, m4, m5, m6, m7⟩ := si.me k hk
      generalize (perm s (dsc s (nI (s 23 c)))).getD k df = p at pv m5 m6 m7
      have o := h.g1.ce.M.1 _ pv.1
      have lB := cl_len pv.2
      have lc := cl_len (cl_ct (s := s) pv.2)
      have ev0 : f_M_told S d x (nI c) (nI k) v3 = if v3 < 32 then f_M_told_J56 S d x v3 (some (A 3 (40 * c + k))) (some (A 1 p.1)) else if 47 < v3 then f_M_told_J56 S d x v3 (some (A 3 (40 * c + k))) (some (A 1 p.1)) else bd (f_Rw_at S d (A 3 (40 * c + k) + 3) (v3 - 32)) fun x22 => some x22 := by
        simp (maxSteps := 1000000) (disch := omega) only [f_M_told, kd_t (cs_K0 hcs), cs_P0_0 hcs, kd_t (cs_K1 hcs), cs_P1_0 hcs, kd_t (cs_K2 hcs), cs_N2 hcs, cs_P0_1 hcs, kd_t (cs_K3 hcs), cs_N3 hcs, cs_P0_3 hcs, kd_t (cs_K4 hcs), cs_N4 hcs, cs_P0_5 hcs, kd_t (cs_K5 hcs), cs_N5 hcs, cs_P0_6 hcs, kd_t (cs_K6 hcs), cs_N6 hcs, cs_P0_8 hcs, kd_t (cs_K7 hcs), cs_N7 hcs, cs_P0_9 hcs, kd_t (cs_K8 hcs), cs_N8 hcs, cs_P0_11 hcs, kd_t (cs_K9 hcs), cs_P9_0 hcs, cs_P9_1 hcs, kd_t (cs_K10 hcs), cs_N10 hcs, cs_P9_3 hcs, kd_t (cs_K11 hcs), cs_P11_0 hcs, kd_t (cs_K12 hcs), cs_N12 hcs, cs_P0_12 hcs, kd_t (cs_K13 hcs), cs_P13_0 hcs, kd_t (cs_K14 hcs), cs_N14 hcs, cs_P13_2 hcs, kd_t (cs_K15 hcs), cs_N15 hcs, cs_P13_4 hcs, kd_t (cs_K16 hcs), cs_N16 hcs, cs_P0_16 hcs, kd_t (cs_K17 hcs), cs_N17 hcs, cs_P0_17 hcs, kd_t (cs_K18 hcs), cs_N18 hcs, cs_P7_0 hcs, cs_P7_1 hcs, cs_P7_2 hcs, lt_t, nn_t, bd_t, bdD_t, bdP_t, nI_clamp, gi_n, nI_add, nI_1, pk_mul, b2_eq0, b2_01, nb_t, if_true, if_false, ni_le, ni_eq, ni_lt, c_hasMethod h.g1 h.b hc, c2, si.p, kd_t si.k, si.p4, kd_t si.k1, si.n1, m1, kd_t m2.k, m5, m2.p2, kd_t m2.r2.k]
        rw [if_neg (by decide)]
      have j81 : ∀ r, r = (if v3 = 0 then nI (s 13 p.1) else if v3 = 1 then nI (s 14 p.1) else if 2 ≤ v3 ∧ v3 ≤ 4 then nI (s 15 (3 * p.1 + (v3.toNatClampNeg - 2))) else if v3 = 5 then nI (ow p.1) else if v3 = 6 then nI (nu p.1) else -1) → f_M_told_J81 S d x v3 (some (A 1 p.1)) = some r := by
        intro r hr
        rw [hr]
        have j136 : 2 ≤ v3 ∧ v3 ≤ 4 → f_M_told_J136 S d x v3 (some (A 1 p.1)) = some (nI (s 15 (3 * p.1 + (v3.toNatClampNeg - 2)))) := by
          rintro ⟨w1, w2⟩
          obtain ⟨a, ha1, ha2, rfl⟩ := rng (lo := 2) (hi := 4) w1 w2 (by omega) (by omega)
          simp only [f_M_told_J136, nn_t, kd_t o.k, lt_t, o.g3, l2_s a (show 2 ≤ a by omega), c_byteOf (pkp s p.1) (show a - 2 < 4 by omega), bd_t, pkp_ub h.b pv.1 (a - 2) (by omega), nI_clamp (show a < 2 ^ 31 by omega)]
        simp only [f_M_told_J81, nn_t, kd_t o.k, lt_t, o.g2, o.g4, o.g0, o.g1]
        by_cases q0 : v3 = 0
        · rw [if_pos q0, if_pos q0]
        · rw [if_neg q0, if_neg q0]
          by_cases q1 : v3 = 1
          · rw [if_pos q1, if_pos q1]
          · rw [if_neg q1, if_neg q1]
            by_cases q24 : 2 ≤ v3 ∧ v3 ≤ 4
            · rw [if_pos q24]
              have j := j136 q24
              obtain ⟨a, ha1, ha2, rfl⟩ := rng (lo := 2) (hi := 4) q24.1 q24.2 (by omega) (by omega)
              rcases (show a = 2 ∨ a = 3 ∨ a = 4 by omega) with rfl | rfl | rfl
              · rw [if_pos (show nI 2 = (2 : Int32) from rfl)]; exact j
              · rw [if_neg (show ¬ nI 3 = (2 : Int32) by decide), if_pos (show nI 3 = (3 : Int32) from rfl)]; exact j
              · rw [if_neg (show ¬ nI 4 = (2 : Int32) by decide), if_neg (show ¬ nI 4 = (3 : Int32) by decide), if_pos (show nI 4 = (4 : Int32) from rfl)]; exact j
            · have n2 : ¬ v3 = 2 := fun e => q24 (by rw [e]; decide)
              have n3 : ¬ v3 = 3 := fun e => q24 (by rw [e]; decide)
              have n4 : ¬ v3 = 4 := fun e => q24 (by rw [e]; decide)
              rw [if_neg n2, if_neg n3, if_neg n4, if_neg q24]
              by_cases q5 : v3 = 5
              · rw [if_pos q5, if_pos q5]
              · rw [if_neg q5, if_neg q5]
                by_cases q6 : v3 = 6
                · rw [if_pos q6, if_pos q6]
                · rw [if_neg q6, if_neg q6]
      have big : ∀ a : Nat, 16 ≤ a → a < 2 ^ 31 → v3 = nI a → ¬ v3 = 0 ∧ ¬ v3 = 1 ∧ ¬ (2 ≤ v3 ∧ v3 ≤ 4) ∧ ¬ v3 = 5 ∧ ¬ v3 = 6 := by
        rintro a h1 h2 rfl
        refine ⟨?_, ?_, ?_, ?_, ?_⟩
        · rw [l0_e _ h2]; omega
        · rw [l1_e _ h2]; omega
        · rintro ⟨-, w⟩; rw [l4_le _ h2] at w; omega
        · rw [l5_e _ h2]; omega
        · rw [l6_e _ h2]; omega
      rw [ev0]
      unfold tdV
      by_cases q32 : 32 ≤ v3 ∧ v3 ≤ 47
      · obtain ⟨a, ha1, ha2, ea⟩ := rng (lo := 32) (hi := 47) q32.1 q32.2 (by omega) (by omega)
        obtain ⟨b0, b1, b24, b5, b6⟩ := big a (by omega) (by omega) ea
        rw [if_neg (Int32.not_lt.mpr q32.1), if_neg (Int32.not_lt.mpr q32.2), if_neg b0, if_neg b1, if_neg b24, if_neg b5, if_neg b6, if_neg (fun w => absurd w.2 (Int32.not_lt.mpr q32.1)), if_pos q32, ea, l32_s _ (by omega), c_at m2.r2 (Nat.le_refl _) m7 lc (by omega), bd_t, nI_clamp (by omega)]
      · have e56 : (if v3 < 32 then f_M_told_J56 S d x v3 (some (A 3 (40 * c + k))) (some (A 1 p.1)) else if 47 < v3 then f_M_told_J56 S d x v3 (some (A 3 (40 * c + k))) (some (A 1 p.1)) else bd (f_Rw_at S d (A 3 (40 * c + k) + 3) (v3 - 32)) fun x22 => some x22) = f_M_told_J56 S d x v3 (some (A 3 (40 * c + k))) (some (A 1 p.1)) := by
          by_cases w : v3 < 32
          · rw [if_pos w]
          · rw [if_neg w, if_pos (Int32.not_le.mp (fun u => q32 ⟨Int32.not_lt.mp w, u⟩))]
        rw [e56, if_neg q32]
        by_cases q16 : 16 ≤ v3 ∧ v3 < 32
        · obtain ⟨a, ha1, ha2, ea⟩ := rng (lo := 16) (hi := 31) q16.1 (by
            rcases pk_ix v3 (n := 32) (by omega) with w | w | ⟨a, ha, rfl⟩
            · exact Int32.le_of_lt (Int32.lt_of_lt_of_le w (by decide))
            · exact absurd q16.2 (Int32.not_lt.mpr w)
            · rw [nI_leI (by omega) (by omega)]; omega) (by omega) (by omega)
          obtain ⟨b0, b1, b24, b5, b6⟩ := big a (by omega) (by omega) ea
          rw [if_neg b0, if_neg b1, if_neg b24, if_neg b5, if_neg b6, if_pos q16]
          have n31 : ¬ (31 : Int32) < v3 := by rw [ea, l31_gt _ (by omega)]; omega
          simp only [f_M_told_J56]
          rw [if_neg (Int32.not_lt.mpr q16.1), if_neg n31]
          simp only [nn_t, kd_t m2.k, lt_t, m2.p1, kd_t m2.r1.k]
          rw [ea, l16_s _ (by omega), c_at m2.r1 (Nat.le_refl _) m6 lB (by omega), bd_t, nI_clamp (by omega)]
        · have e81 : f_M_told_J56 S d x v3 (some (A 3 (40 * c + k))) (some (A 1 p.1)) = f_M_told_J81 S d x v3 (some (A 1 p.1)) := by
            simp only [f_M_told_J56]
            by_cases w : v3 < 16
            · rw [if_pos w]
            · rw [if_neg w, if_pos]
              have w32 := Int32.not_lt.mp (fun u => q16 ⟨Int32.not_lt.mp w, u⟩)
              exact Int32.lt_of_lt_of_le (by decide) w32
          rw [e81]
          apply j81
          by_cases q0 : v3 = 0
          · rw [if_pos q0, if_pos q0]
          · rw [if_neg q0, if_neg q0]
            by_cases q1 : v3 = 1
            · rw [if_pos q1, if_pos q1]
            · rw [if_neg q1, if_neg q1]
              by_cases q24 : 2 ≤ v3 ∧ v3 ≤ 4
              · rw [if_pos q24, if_pos q24]
              · rw [if_neg q24, if_neg q24]
                by_cases q5 : v3 = 5
                · rw [if_pos q5, if_pos q5]
                · rw [if_neg q5, if_neg q5]
                  by_cases q6 : v3 = 6
                  · rw [if_pos q6, if_pos q6]
                  · rw [if_neg q6, if_neg q6, if_neg q16]
theorem cIn0_t {n i : Nat} (hn : n < 2 ^ 31) (h : i < n) : cIn 0 (nI n) (nI i) = true := by
  have := cIn_nI (lo := 0) (hi := n) (a := i) (by omega) hn (by omega)
  rw [show nI 0 = 0 from rfl] at this
  rw [this]; simp [h]
theorem st_octet (h : IV S d x s A q) (v1 v2 : Int32) : ∃ r e, f_M_octet S d x v1 v2 = some r ∧ f_R_octet S d (x + 28) v1 v2 = some (r, e) ∧ IV S e x s A q := by
  have hcs := h.g1.ce.cs
  have hS := h.b.stands
  have st1 := h.g1.st1
  cases c1 : cIn 0 (nI (s 21 0)) v1 with
  | false =>
    refine ⟨-1, _, ?_, r_octet_n h.rp.ri (.inl c1), iv_w0 h⟩
    simp (maxSteps := 1000000) (disch := omega) only [f_M_octet, kd_t (cs_K0 hcs), cs_P0_0 hcs, kd_t (cs_K1 hcs), cs_P1_0 hcs, kd_t (cs_K2 hcs), cs_N2 hcs, cs_P0_1 hcs, kd_t (cs_K3 hcs), cs_N3 hcs, cs_P0_3 hcs, kd_t (cs_K4 hcs), cs_N4 hcs, cs_P0_5 hcs, kd_t (cs_K5 hcs), cs_N5 hcs, cs_P0_6 hcs, kd_t (cs_K6 hcs), cs_N6 hcs, cs_P0_8 hcs, kd_t (cs_K7 hcs), cs_N7 hcs, cs_P0_9 hcs, kd_t (cs_K8 hcs), cs_N8 hcs, cs_P0_11 hcs, kd_t (cs_K9 hcs), cs_P9_0 hcs, cs_P9_1 hcs, kd_t (cs_K10 hcs), cs_N10 hcs, cs_P9_3 hcs, kd_t (cs_K11 hcs), cs_P11_0 hcs, kd_t (cs_K12 hcs), cs_N12 hcs, cs_P0_12 hcs, kd_t (cs_K13 hcs), cs_P13_0 hcs, kd_t (cs_K14 hcs), cs_N14 hcs, cs_P13_2 hcs, kd_t (cs_K15 hcs), cs_N15 hcs, cs_P13_4 hcs, kd_t (cs_K16 hcs), cs_N16 hcs, cs_P0_16 hcs, kd_t (cs_K17 hcs), cs_N17 hcs, cs_P0_17 hcs, kd_t (cs_K18 hcs), cs_N18 hcs, cs_P7_0 hcs, cs_P7_1 hcs, cs_P7_2 hcs, lt_t, nn_t, bd_t, bdD_t, bdP_t, nI_clamp, gi_n, nI_add, nI_1, pk_mul, b2_eq0, b2_01, nb_t, if_true, if_false, ni_le, ni_eq, ni_lt, st1, c_within, c1]
  | true =>
    obtain ⟨c, -, hc, rfl⟩ := cIn_of (lo := 0) c1 (by omega) (by omega)
    have si := h.g1.st2 c hc
    have sv := h.sv.ok c hc
    have h256 := uBy_256 h.b sv.1 sv.2 (h.sv.pk c hc)
    have hlen : (uBy (run ([], []) (uT s c))).length < 2 ^ 31 := by
      have hul := uT_len h.b sv.1 sv.2
      have hF := h.b.faces
      have g := GF_dscK h.b sv.1 _ (Nat.le_refl _)
      rw [show dscK s (nI (s 23 c)) (ln (nI (s 23 c))) = dsc s (nI (s 23 c)) from rfl] at g
      have hok : okT (uT s c) := by
        rw [uT_w]
        exact okT_w h.b (fun i hi => perm_vx h.b g hi) (by rw [perm_len]; omega) (fun k hk => by have := sv.1 k hk; omega) (h.sv.pk c hc).1 (h.sv.pk c hc).2
      have g0 : GP ([] : List (Nat × Nat × Nat)) := ⟨fun k hk => absurd hk List.not_mem_nil, trivial⟩
      have gT : GP (run ([], []) (uT s c)).1 := GP_run (fun k hk => (hok k hk).1) g0
      have := fB_500 gT
      have hr := run_len (uT s c) ([], [])
      rw [uBy_len, hr, ← fB_len]
      show 3 + _ + (0 + _) < 2 ^ 31
      omega
    cases c2 : cIn 0 (nI (uBy (run ([], []) (uT s c))).length) v2 with
    | false =>
      have ev : f_M_octet S d x (nI c) v2 = some (-1) := by
        simp (maxSteps := 1000000) (disch := omega) only [f_M_octet, kd_t (cs_K0 hcs), cs_P0_0 hcs, kd_t (cs_K1 hcs), cs_P1_0 hcs, kd_t (cs_K2 hcs), cs_N2 hcs, cs_P0_1 hcs, kd_t (cs_K3 hcs), cs_N3 hcs, cs_P0_3 hcs, kd_t (cs_K4 hcs), cs_N4 hcs, cs_P0_5 hcs, kd_t (cs_K5 hcs), cs_N5 hcs, cs_P0_6 hcs, kd_t (cs_K6 hcs), cs_N6 hcs, cs_P0_8 hcs, kd_t (cs_K7 hcs), cs_N7 hcs, cs_P0_9 hcs, kd_t (cs_K8 hcs), cs_N8 hcs, cs_P0_11 hcs, kd_t (cs_K9 hcs), cs_P9_0 hcs, cs_P9_1 hcs, kd_t (cs_K10 hcs), cs_N10 hcs, cs_P9_3 hcs, kd_t (cs_K11 hcs), cs_P11_0 hcs, kd_t (cs_K12 hcs), cs_N12 hcs, cs_P0_12 hcs, kd_t (cs_K13 hcs), cs_P13_0 hcs, kd_t (cs_K14 hcs), cs_N14 hcs, cs_P13_2 hcs, kd_t (cs_K15 hcs), cs_N15 hcs, cs_P13_4 hcs, kd_t (cs_K16 hcs), cs_N16 hcs, cs_P0_16 hcs, kd_t (cs_K17 hcs), cs_N17 hcs, cs_P0_17 hcs, kd_t (cs_K18 hcs), cs_N18 hcs, cs_P7_0 hcs, cs_P7_1 hcs, cs_P7_2 hcs, lt_t, nn_t, bd_t, bdD_t, bdP_t, nI_clamp, gi_n, nI_add, nI_1, pk_mul, b2_eq0, b2_01, nb_t, if_true, if_false, ni_le, ni_eq, ni_lt, st1, c_within, c1, si.p, kd_t si.k, si.p5, kd_t si.k5, si.n5]
        rw [if_neg (by decide), show Int32.ofNat (uBy (run ([], []) (uT s c))).length = nI (uBy (run ([], []) (uT s c))).length from rfl, c2, if_pos rfl]
      by_cases w : v2 < 0
      · exact ⟨-1, _, ev, r_octet_n h.rp.ri (.inr w), iv_w0 h⟩
      · rcases pk_ix v2 (n := 2 ^ 31 - 1) (by omega) with u | u | ⟨i, hi, rfl⟩
        · exact absurd u w
        · have : v2 = nI (2 ^ 31 - 1) := by
            apply Int32.le_antisymm _ u
            have := Int32.le_iff_toInt_le (x := v2) (y := nI (2 ^ 31 - 1))
            rw [this]
            have h1 := Int32.toInt_le v2
            have h2 : (nI (2 ^ 31 - 1)).toInt = 2147483647 := by decide
            rw [h2]
            have h3 : Int32.maxValue.toInt = 2147483647 := by decide
            omega
          subst this
          obtain ⟨e, fe, ce⟩ := r_octet_y h.rp.ri h.b hc (i := 2 ^ 31 - 1) (by omega) sv.1 sv.2
          refine ⟨-1, e, ev, ?_, iv_rf h (rp_ch (rp_w0 h.rp) ce (ri_ch (rp_w0 h.rp).ri ce (fun a j p => by unfold PU at p; omega)) (fun c => by unfold PU; omega)) (rf_t (rf_w (by omega)) (rf_PU ce))⟩
          rw [fe]
          unfold oB
          rw [if_neg]
          intro hlt
          rw [cIn0_t hlen hlt] at c2
          exact absurd c2 (by decide)
        · obtain ⟨e, fe, ce⟩ := r_octet_y h.rp.ri h.b hc (i := i) (by omega) sv.1 sv.2
          refine ⟨-1, e, ev, ?_, iv_rf h (rp_ch (rp_w0 h.rp) ce (ri_ch (rp_w0 h.rp).ri ce (fun a j p => by unfold PU at p; omega)) (fun c => by unfold PU; omega)) (rf_t (rf_w (by omega)) (rf_PU ce))⟩
          rw [fe]
          unfold oB
          rw [if_neg]
          intro hlt
          rw [cIn0_t hlen hlt] at c2
          exact absurd c2 (by decide)
    | true =>
      obtain ⟨i, -, hi, rfl⟩ := cIn_of (lo := 0) c2 (by omega) (by omega)
      obtain ⟨e, fe, ce⟩ := r_octet_y h.rp.ri h.b hc (i := i) (by omega) sv.1 sv.2
      refine ⟨nI ((uBy (run ([], []) (uT s c))).getD i 0), e, ?_, ?_, iv_rf h (rp_ch (rp_w0 h.rp) ce (ri_ch (rp_w0 h.rp).ri ce (fun a j p => by unfold PU at p; omega)) (fun c => by unfold PU; omega)) (rf_t (rf_w (by omega)) (rf_PU ce))⟩
      · simp (maxSteps := 1000000) (disch := omega) only [f_M_octet, kd_t (cs_K0 hcs), cs_P0_0 hcs, kd_t (cs_K1 hcs), cs_P1_0 hcs, kd_t (cs_K2 hcs), cs_N2 hcs, cs_P0_1 hcs, kd_t (cs_K3 hcs), cs_N3 hcs, cs_P0_3 hcs, kd_t (cs_K4 hcs), cs_N4 hcs, cs_P0_5 hcs, kd_t (cs_K5 hcs), cs_N5 hcs, cs_P0_6 hcs, kd_t (cs_K6 hcs), cs_N6 hcs, cs_P0_8 hcs, kd_t (cs_K7 hcs), cs_N7 hcs, cs_P0_9 hcs, kd_t (cs_K8 hcs), cs_N8 hcs, cs_P0_11 hcs, kd_t (cs_K9 hcs), cs_P9_0 hcs, cs_P9_1 hcs, kd_t (cs_K10 hcs), cs_N10 hcs, cs_P9_3 hcs, kd_t (cs_K11 hcs), cs_P11_0 hcs, kd_t (cs_K12 hcs), cs_N12 hcs, cs_P0_12 hcs, kd_t (cs_K13 hcs), cs_P13_0 hcs, kd_t (cs_K14 hcs), cs_N14 hcs, cs_P13_2 hcs, kd_t (cs_K15 hcs), cs_N15 hcs, cs_P13_4 hcs, kd_t (cs_K16 hcs), cs_N16 hcs, cs_P0_16 hcs, kd_t (cs_K17 hcs), cs_N17 hcs, cs_P0_17 hcs, kd_t (cs_K18 hcs), cs_N18 hcs, cs_P7_0 hcs, cs_P7_1 hcs, cs_P7_2 hcs, lt_t, nn_t, bd_t, bdD_t, bdP_t, nI_clamp, gi_n, nI_add, nI_1, pk_mul, b2_eq0, b2_01, nb_t, if_true, if_false, ni_le, ni_eq, ni_lt, st1, c_within, c1, si.p, kd_t si.k, si.p5, kd_t si.k5, si.n5, show Int32.ofNat (uBy (run ([], []) (uT s c))).length = nI (uBy (run ([], []) (uT s c))).length from rfl, c2, si.by_ i hi, (by8_ok _ (h256 _ (getD_mem hi))).1]
        rw [if_neg (by decide), if_neg (by decide)]
      · rw [fe]; unfold oB; rw [if_pos hi]
end st
