section cls
variable {S : gS} {d : gD} {x : Nat} {s : Nat → Nat → Nat} {A : Nat → Nat → Nat} {U : Nat → Prop} {D : List (Nat × List Nat)}
def DV (S : gS) (d : gD) (x : Nat) (s : Nat → Nat → Nat) (A : Nat → Nat → Nat) (U : Nat → Prop) (D : List (Nat × List Nat)) : Prop := (BI s) ∧ (CE S d x s A) ∧ (CT d x s) ∧ (DK S x U) ∧ (DC S d x A D) ∧ (∀ i, i < D.length → vx s (D.getD i df).1 ∧ cl (D.getD i df).2) ∧ (D.length ≤ 75)
theorem DV.b {S : gS} {d : gD} {x : Nat} {s : Nat → Nat → Nat} {A : Nat → Nat → Nat} {U : Nat → Prop} {D : List (Nat × List Nat)} (h : DV S d x s A U D) : BI s := h.1
theorem DV.ce {S : gS} {d : gD} {x : Nat} {s : Nat → Nat → Nat} {A : Nat → Nat → Nat} {U : Nat → Prop} {D : List (Nat × List Nat)} (h : DV S d x s A U D) : CE S d x s A := h.2.1
theorem DV.t {S : gS} {d : gD} {x : Nat} {s : Nat → Nat → Nat} {A : Nat → Nat → Nat} {U : Nat → Prop} {D : List (Nat × List Nat)} (h : DV S d x s A U D) : CT d x s := h.2.2.1
theorem DV.K {S : gS} {d : gD} {x : Nat} {s : Nat → Nat → Nat} {A : Nat → Nat → Nat} {U : Nat → Prop} {D : List (Nat × List Nat)} (h : DV S d x s A U D) : DK S x U := h.2.2.2.1
theorem DV.C {S : gS} {d : gD} {x : Nat} {s : Nat → Nat → Nat} {A : Nat → Nat → Nat} {U : Nat → Prop} {D : List (Nat × List Nat)} (h : DV S d x s A U D) : DC S d x A D := h.2.2.2.2.1
theorem DV.v {S : gS} {d : gD} {x : Nat} {s : Nat → Nat → Nat} {A : Nat → Nat → Nat} {U : Nat → Prop} {D : List (Nat × List Nat)} (h : DV S d x s A U D) : ∀ i, i < D.length → vx s (D.getD i df).1 ∧ cl (D.getD i df).2 := h.2.2.2.2.2.1
theorem DV.n {S : gS} {d : gD} {x : Nat} {s : Nat → Nat → Nat} {A : Nat → Nat → Nat} {U : Nat → Prop} {D : List (Nat × List Nat)} (h : DV S d x s A U D) : D.length ≤ 75 := h.2.2.2.2.2.2
theorem dv_at (h : DV S d x s A U D) {i : Nat} (hi : i < D.length) : ∃ v, sP S (x + 10) i = some v ∧ sK S v = 7 ∧ sP S v 0 = some (A 1 (D.getD i df).1) ∧ OM S d x s (A 1 (D.getD i df).1) (D.getD i df).1 := by
  have hn := h.n
  obtain ⟨v, e1, e2, -⟩ := h.C.c i hi
  exact ⟨v, e1, (h.K.sl i v (by omega) e1).1.k, e2, h.ce.M.1 _ (h.v i hi).1⟩
theorem c_pl {r : Nat} (hr : r < 2 ^ 31) : f_M_isPlain S d (nI r) = some (b2 (pln r)) := by
  rw [c_plain]
  unfold pln
  simp only [l1_ge r hr, l6_le r hr]
theorem c_endOfSig (h : DV S d x s A U D) {i : Nat} (hi : i < D.length) : f_Dr_endOfSignature S d (x + 9) (nI i) = some (nI (eos s D i)) := by
  have hn := h.n
  have hcs := h.ce.cs
  obtain ⟨v, e1, e2, e3, o⟩ := dv_at h hi
  have n1 := h.C.n
  unfold f_Dr_endOfSignature
  rw [l1_a]
  have hap : (fun (k : Nat) (K : Int32 → Int32 → Option Int32) => K (nI i) (nI (i + 1 + k))) 0 (itr (f_Dr_endOfSignature_B4 S d (x + 9)) (fun _ _ => none) fu) = some (nI (eos s D i)) := by
    refine itr_f (B := f_Dr_endOfSignature_B4 S d (x + 9)) (fun k K => K (nI i) (nI (i + 1 + k))) (fun t => !sgF s D (i + 1 + t) i) (D.length - (i + 1)) _ (by omega) ?_ ?_ ?_
    · intro k hk hp K hK
      obtain ⟨w, g1, g2, g3, o2⟩ := dv_at h (show i + 1 + k < D.length by omega)
      rw [Bool.not_eq_false'] at hp
      simp (maxSteps := 1000000) (disch := omega) only [f_Dr_endOfSignature_B4, kd_t (cs_K0 hcs), cs_P0_0 hcs, kd_t (cs_K1 hcs), cs_P1_0 hcs, kd_t (cs_K2 hcs), cs_N2 hcs, cs_P0_1 hcs, kd_t (cs_K3 hcs), cs_N3 hcs, cs_P0_3 hcs, kd_t (cs_K4 hcs), cs_N4 hcs, cs_P0_5 hcs, kd_t (cs_K5 hcs), cs_N5 hcs, cs_P0_6 hcs, kd_t (cs_K6 hcs), cs_N6 hcs, cs_P0_8 hcs, kd_t (cs_K7 hcs), cs_N7 hcs, cs_P0_9 hcs, kd_t (cs_K8 hcs), cs_N8 hcs, cs_P0_11 hcs, kd_t (cs_K9 hcs), cs_P9_0 hcs, cs_P9_1 hcs, kd_t (cs_K10 hcs), cs_N10 hcs, cs_P9_3 hcs, kd_t (cs_K11 hcs), cs_P11_0 hcs, kd_t (cs_K12 hcs), cs_N12 hcs, cs_P0_12 hcs, kd_t (cs_K13 hcs), cs_P13_0 hcs, kd_t (cs_K14 hcs), cs_N14 hcs, cs_P13_2 hcs, kd_t (cs_K15 hcs), cs_N15 hcs, cs_P13_4 hcs, kd_t (cs_K16 hcs), cs_N16 hcs, cs_P0_16 hcs, kd_t (cs_K17 hcs), cs_N17 hcs, cs_P0_17 hcs, kd_t (cs_K18 hcs), cs_N18 hcs, cs_P7_0 hcs, cs_P7_1 hcs, cs_P7_2 hcs, l0_e, l0_le, l0_ge, l0_lt, l0_gt, l1_m, l1_a, l1_b, l1_s, l1_e, l1_le, l1_ge, l1_lt, l1_gt, lt_t, nn_t, bd_t, bdD_t, bdP_t, nI_clamp, gi_n, nI_add, nI_1, pk_mul, b2_eq0, b2_01, nb_t, if_true, if_false, ni_le, ni_eq, ni_lt, n1, e1, kd_t e2, e3, g1, kd_t g2, g3, kd_t o2.k, c_hasSig h.b o2 o (h.v _ (show i + 1 + k < D.length by omega)).1 (h.v i hi).1]
      rw [if_neg (by omega), if_neg (by rw [show sg s (D.getD (i + 1 + k) df).1 (D.getD i df).1 = true from hp]; decide)]
      exact hK
    · intro k hk hp he K
      obtain ⟨w, g1, g2, g3, o2⟩ := dv_at h (show i + 1 + k < D.length by omega)
      rw [Bool.not_eq_true'] at hp
      simp (maxSteps := 1000000) (disch := omega) only [f_Dr_endOfSignature_B4, kd_t (cs_K0 hcs), cs_P0_0 hcs, kd_t (cs_K1 hcs), cs_P1_0 hcs, kd_t (cs_K2 hcs), cs_N2 hcs, cs_P0_1 hcs, kd_t (cs_K3 hcs), cs_N3 hcs, cs_P0_3 hcs, kd_t (cs_K4 hcs), cs_N4 hcs, cs_P0_5 hcs, kd_t (cs_K5 hcs), cs_N5 hcs, cs_P0_6 hcs, kd_t (cs_K6 hcs), cs_N6 hcs, cs_P0_8 hcs, kd_t (cs_K7 hcs), cs_N7 hcs, cs_P0_9 hcs, kd_t (cs_K8 hcs), cs_N8 hcs, cs_P0_11 hcs, kd_t (cs_K9 hcs), cs_P9_0 hcs, cs_P9_1 hcs, kd_t (cs_K10 hcs), cs_N10 hcs, cs_P9_3 hcs, kd_t (cs_K11 hcs), cs_P11_0 hcs, kd_t (cs_K12 hcs), cs_N12 hcs, cs_P0_12 hcs, kd_t (cs_K13 hcs), cs_P13_0 hcs, kd_t (cs_K14 hcs), cs_N14 hcs, cs_P13_2 hcs, kd_t (cs_K15 hcs), cs_N15 hcs, cs_P13_4 hcs, kd_t (cs_K16 hcs), cs_N16 hcs, cs_P0_16 hcs, kd_t (cs_K17 hcs), cs_N17 hcs, cs_P0_17 hcs, kd_t (cs_K18 hcs), cs_N18 hcs, cs_P7_0 hcs, cs_P7_1 hcs, cs_P7_2 hcs, l0_e, l0_le, l0_ge, l0_lt, l0_gt, l1_m, l1_a, l1_b, l1_s, l1_e, l1_le, l1_ge, l1_lt, l1_gt, lt_t, nn_t, bd_t, bdD_t, bdP_t, nI_clamp, gi_n, nI_add, nI_1, pk_mul, b2_eq0, b2_01, nb_t, if_true, if_false, ni_le, ni_eq, ni_lt, n1, e1, kd_t e2, e3, g1, kd_t g2, g3, kd_t o2.k, c_hasSig h.b o2 o (h.v _ (show i + 1 + k < D.length by omega)).1 (h.v i hi).1]
      rw [if_neg (by omega), if_pos (show sg s (D.getD (i + 1 + k) df).1 (D.getD i df).1 = false from hp)]
      unfold eos; rw [he]
    · intro he K
      simp (maxSteps := 1000000) (disch := omega) only [f_Dr_endOfSignature_B4, kd_t (cs_K0 hcs), cs_P0_0 hcs, kd_t (cs_K1 hcs), cs_P1_0 hcs, kd_t (cs_K2 hcs), cs_N2 hcs, cs_P0_1 hcs, kd_t (cs_K3 hcs), cs_N3 hcs, cs_P0_3 hcs, kd_t (cs_K4 hcs), cs_N4 hcs, cs_P0_5 hcs, kd_t (cs_K5 hcs), cs_N5 hcs, cs_P0_6 hcs, kd_t (cs_K6 hcs), cs_N6 hcs, cs_P0_8 hcs, kd_t (cs_K7 hcs), cs_N7 hcs, cs_P0_9 hcs, kd_t (cs_K8 hcs), cs_N8 hcs, cs_P0_11 hcs, kd_t (cs_K9 hcs), cs_P9_0 hcs, cs_P9_1 hcs, kd_t (cs_K10 hcs), cs_N10 hcs, cs_P9_3 hcs, kd_t (cs_K11 hcs), cs_P11_0 hcs, kd_t (cs_K12 hcs), cs_N12 hcs, cs_P0_12 hcs, kd_t (cs_K13 hcs), cs_P13_0 hcs, kd_t (cs_K14 hcs), cs_N14 hcs, cs_P13_2 hcs, kd_t (cs_K15 hcs), cs_N15 hcs, cs_P13_4 hcs, kd_t (cs_K16 hcs), cs_N16 hcs, cs_P0_16 hcs, kd_t (cs_K17 hcs), cs_N17 hcs, cs_P0_17 hcs, kd_t (cs_K18 hcs), cs_N18 hcs, cs_P7_0 hcs, cs_P7_1 hcs, cs_P7_2 hcs, l0_e, l0_le, l0_ge, l0_lt, l0_gt, l1_m, l1_a, l1_b, l1_s, l1_e, l1_le, l1_ge, l1_lt, l1_gt, lt_t, nn_t, bd_t, bdD_t, bdP_t, nI_clamp, gi_n, nI_add, nI_1, pk_mul, b2_eq0, b2_01, nb_t, if_true, if_false, ni_le, ni_eq, ni_lt, n1]
      rw [if_pos (by omega)]
      unfold eos; rw [he]
  exact hap
theorem c_isBelowAll (h : DV S d x s A U D) {r i e : Nat} (hie : i ≤ e) (he : e ≤ D.length) : f_Dr_isBelowAll S d (x + 9) (nI r) (nI i) (nI e) = some (b2 (!anyb (fun u => !bN s r (rsF s D (i + u))) (e - i))) := by
  have hn := h.n
  have hcs := h.ce.cs
  unfold f_Dr_isBelowAll
  have hap : (fun (k : Nat) (K : Int32 → Int32 → Int32 → Option Int32) => K (nI r) (nI e) (nI (i + k))) 0 (itr (f_Dr_isBelowAll_B3 S d (x + 9)) (fun _ _ _ => none) fu) = some (b2 (!anyb (fun u => !bN s r (rsF s D (i + u))) (e - i))) := by
    refine itr_f (B := f_Dr_isBelowAll_B3 S d (x + 9)) (fun k K => K (nI r) (nI e) (nI (i + k))) (fun u => !bN s r (rsF s D (i + u))) (e - i) _ (by omega) ?_ ?_ ?_
    · intro k hk hp K hK
      obtain ⟨w, g1, g2, g3, o2⟩ := dv_at h (show i + k < D.length by omega)
      rw [Bool.not_eq_false'] at hp
      simp (maxSteps := 1000000) (disch := omega) only [f_Dr_isBelowAll_B3, kd_t (cs_K0 hcs), cs_P0_0 hcs, kd_t (cs_K1 hcs), cs_P1_0 hcs, kd_t (cs_K2 hcs), cs_N2 hcs, cs_P0_1 hcs, kd_t (cs_K3 hcs), cs_N3 hcs, cs_P0_3 hcs, kd_t (cs_K4 hcs), cs_N4 hcs, cs_P0_5 hcs, kd_t (cs_K5 hcs), cs_N5 hcs, cs_P0_6 hcs, kd_t (cs_K6 hcs), cs_N6 hcs, cs_P0_8 hcs, kd_t (cs_K7 hcs), cs_N7 hcs, cs_P0_9 hcs, kd_t (cs_K8 hcs), cs_N8 hcs, cs_P0_11 hcs, kd_t (cs_K9 hcs), cs_P9_0 hcs, cs_P9_1 hcs, kd_t (cs_K10 hcs), cs_N10 hcs, cs_P9_3 hcs, kd_t (cs_K11 hcs), cs_P11_0 hcs, kd_t (cs_K12 hcs), cs_N12 hcs, cs_P0_12 hcs, kd_t (cs_K13 hcs), cs_P13_0 hcs, kd_t (cs_K14 hcs), cs_N14 hcs, cs_P13_2 hcs, kd_t (cs_K15 hcs), cs_N15 hcs, cs_P13_4 hcs, kd_t (cs_K16 hcs), cs_N16 hcs, cs_P0_16 hcs, kd_t (cs_K17 hcs), cs_N17 hcs, cs_P0_17 hcs, kd_t (cs_K18 hcs), cs_N18 hcs, cs_P7_0 hcs, cs_P7_1 hcs, cs_P7_2 hcs, l0_e, l0_le, l0_ge, l0_lt, l0_gt, l1_m, l1_a, l1_b, l1_s, l1_e, l1_le, l1_ge, l1_lt, l1_gt, lt_t, nn_t, bd_t, bdD_t, bdP_t, nI_clamp, gi_n, nI_add, nI_1, pk_mul, b2_eq0, b2_01, nb_t, if_true, if_false, ni_le, ni_eq, ni_lt, g1, kd_t g2, g3, kd_t o2.k, o2.g4, c_isBelow hcs h.t h.b]
      rw [if_neg (by omega), if_neg (by rw [show bw s (nI r) (nI (s 14 (D.getD (i + k) df).1)) = true from hp]; decide)]
      exact hK
    · intro k hk hp he' K
      obtain ⟨w, g1, g2, g3, o2⟩ := dv_at h (show i + k < D.length by omega)
      rw [Bool.not_eq_true'] at hp
      simp (maxSteps := 1000000) (disch := omega) only [f_Dr_isBelowAll_B3, kd_t (cs_K0 hcs), cs_P0_0 hcs, kd_t (cs_K1 hcs), cs_P1_0 hcs, kd_t (cs_K2 hcs), cs_N2 hcs, cs_P0_1 hcs, kd_t (cs_K3 hcs), cs_N3 hcs, cs_P0_3 hcs, kd_t (cs_K4 hcs), cs_N4 hcs, cs_P0_5 hcs, kd_t (cs_K5 hcs), cs_N5 hcs, cs_P0_6 hcs, kd_t (cs_K6 hcs), cs_N6 hcs, cs_P0_8 hcs, kd_t (cs_K7 hcs), cs_N7 hcs, cs_P0_9 hcs, kd_t (cs_K8 hcs), cs_N8 hcs, cs_P0_11 hcs, kd_t (cs_K9 hcs), cs_P9_0 hcs, cs_P9_1 hcs, kd_t (cs_K10 hcs), cs_N10 hcs, cs_P9_3 hcs, kd_t (cs_K11 hcs), cs_P11_0 hcs, kd_t (cs_K12 hcs), cs_N12 hcs, cs_P0_12 hcs, kd_t (cs_K13 hcs), cs_P13_0 hcs, kd_t (cs_K14 hcs), cs_N14 hcs, cs_P13_2 hcs, kd_t (cs_K15 hcs), cs_N15 hcs, cs_P13_4 hcs, kd_t (cs_K16 hcs), cs_N16 hcs, cs_P0_16 hcs, kd_t (cs_K17 hcs), cs_N17 hcs, cs_P0_17 hcs, kd_t (cs_K18 hcs), cs_N18 hcs, cs_P7_0 hcs, cs_P7_1 hcs, cs_P7_2 hcs, l0_e, l0_le, l0_ge, l0_lt, l0_gt, l1_m, l1_a, l1_b, l1_s, l1_e, l1_le, l1_ge, l1_lt, l1_gt, lt_t, nn_t, bd_t, bdD_t, bdP_t, nI_clamp, gi_n, nI_add, nI_1, pk_mul, b2_eq0, b2_01, nb_t, if_true, if_false, ni_le, ni_eq, ni_lt, g1, kd_t g2, g3, kd_t o2.k, o2.g4, c_isBelow hcs h.t h.b]
      rw [if_neg (by omega), if_pos (show bw s (nI r) (nI (s 14 (D.getD (i + k) df).1)) = false from hp)]
      unfold anyb; rw [he', decide_eq_true hk]; rfl
    · intro he' K
      simp (maxSteps := 1000000) (disch := omega) only [f_Dr_isBelowAll_B3, kd_t (cs_K0 hcs), cs_P0_0 hcs, kd_t (cs_K1 hcs), cs_P1_0 hcs, kd_t (cs_K2 hcs), cs_N2 hcs, cs_P0_1 hcs, kd_t (cs_K3 hcs), cs_N3 hcs, cs_P0_3 hcs, kd_t (cs_K4 hcs), cs_N4 hcs, cs_P0_5 hcs, kd_t (cs_K5 hcs), cs_N5 hcs, cs_P0_6 hcs, kd_t (cs_K6 hcs), cs_N6 hcs, cs_P0_8 hcs, kd_t (cs_K7 hcs), cs_N7 hcs, cs_P0_9 hcs, kd_t (cs_K8 hcs), cs_N8 hcs, cs_P0_11 hcs, kd_t (cs_K9 hcs), cs_P9_0 hcs, cs_P9_1 hcs, kd_t (cs_K10 hcs), cs_N10 hcs, cs_P9_3 hcs, kd_t (cs_K11 hcs), cs_P11_0 hcs, kd_t (cs_K12 hcs), cs_N12 hcs, cs_P0_12 hcs, kd_t (cs_K13 hcs), cs_P13_0 hcs, kd_t (cs_K14 hcs), cs_N14 hcs, cs_P13_2 hcs, kd_t (cs_K15 hcs), cs_N15 hcs, cs_P13_4 hcs, kd_t (cs_K16 hcs), cs_N16 hcs, cs_P0_16 hcs, kd_t (cs_K17 hcs), cs_N17 hcs, cs_P0_17 hcs, kd_t (cs_K18 hcs), cs_N18 hcs, cs_P7_0 hcs, cs_P7_1 hcs, cs_P7_2 hcs, l0_e, l0_le, l0_ge, l0_lt, l0_gt, l1_m, l1_a, l1_b, l1_s, l1_e, l1_le, l1_ge, l1_lt, l1_gt, lt_t, nn_t, bd_t, bdD_t, bdP_t, nI_clamp, gi_n, nI_add, nI_1, pk_mul, b2_eq0, b2_01, nb_t, if_true, if_false, ni_le, ni_eq, ni_lt]
      rw [if_pos (by omega)]
      unfold anyb; rw [he', decide_eq_false (Nat.lt_irrefl _)]; rfl
  exact hap
noncomputable def lwT (s : Nat → Nat → Nat) (D : List (Nat × List Nat)) (i e t : Nat) : Bool := !anyb (fun u => !bN s (rsF s D (i + t)) (rsF s D (i + u))) (e - i)
def plT (s : Nat → Nat → Nat) (D : List (Nat × List Nat)) (i t : Nat) : Bool := decide (rsF s D (i + t) < 7)
theorem c_raWithin (h : DV S d x s A U D) {i e : Nat} (hie : i < e) (he : e ≤ D.length) : f_Dr_resultsAgreeWithin S d (x + 9) (nI i) (nI e) = some (b2 (decide (e - i = 1) || (!anyb (plT s D i) (e - i) && anyb (lwT s D i e) (e - i)))) := by
  have hn := h.n
  have hcs := h.ce.cs
  unfold f_Dr_resultsAgreeWithin
  rw [pk_sub (show i ≤ e by omega)]
  by_cases q : e - i = 1
  · rw [if_pos (by rw [q]; rfl), decide_eq_true q]; rfl
  · rw [if_neg (fun c => q (by rw [l1_e _ (by omega)] at c; exact c)), decide_eq_false q, Bool.false_or]
    have hap : (fun (k : Nat) (K : Int32 → Int32 → Int32 → Int32 → Option Int32) => K (nI i) (nI e) (b2 (anyb (lwT s D i e) k)) (nI (i + k))) 0 (itr (f_Dr_resultsAgreeWithin_B14 S d (x + 9)) (fun _ _ _ _ => none) fu) = some (b2 (!anyb (plT s D i) (e - i) && anyb (lwT s D i e) (e - i))) := by
      refine itr_f (B := f_Dr_resultsAgreeWithin_B14 S d (x + 9)) (fun k K => K (nI i) (nI e) (b2 (anyb (lwT s D i e) k)) (nI (i + k))) (plT s D i) (e - i) _ (by omega) ?_ ?_ ?_
      · intro k hk hp K hK
        obtain ⟨w, g1, g2, g3, o2⟩ := dv_at h (show i + k < D.length by omega)
        have hr := h.b.resT (D.getD (i + k) df).1
        have hp2 : ¬ s 14 (D.getD (i + k) df).1 < 7 := by unfold plT rsF at hp; simpa using hp
        have hpl : pln (s 14 (D.getD (i + k) df).1) = false := by
          unfold pln
          rw [Bool.and_eq_false_iff]; right
          exact decide_eq_false (by omega)
        have hba := c_isBelowAll h (r := s 14 (D.getD (i + k) df).1) (show i ≤ e by omega) he
        simp (maxSteps := 1000000) (disch := omega) only [f_Dr_resultsAgreeWithin_B14, f_Dr_resultsAgreeWithin_J70, f_Dr_resultsAgreeWithin_J65, kd_t (cs_K0 hcs), cs_P0_0 hcs, kd_t (cs_K1 hcs), cs_P1_0 hcs, kd_t (cs_K2 hcs), cs_N2 hcs, cs_P0_1 hcs, kd_t (cs_K3 hcs), cs_N3 hcs, cs_P0_3 hcs, kd_t (cs_K4 hcs), cs_N4 hcs, cs_P0_5 hcs, kd_t (cs_K5 hcs), cs_N5 hcs, cs_P0_6 hcs, kd_t (cs_K6 hcs), cs_N6 hcs, cs_P0_8 hcs, kd_t (cs_K7 hcs), cs_N7 hcs, cs_P0_9 hcs, kd_t (cs_K8 hcs), cs_N8 hcs, cs_P0_11 hcs, kd_t (cs_K9 hcs), cs_P9_0 hcs, cs_P9_1 hcs, kd_t (cs_K10 hcs), cs_N10 hcs, cs_P9_3 hcs, kd_t (cs_K11 hcs), cs_P11_0 hcs, kd_t (cs_K12 hcs), cs_N12 hcs, cs_P0_12 hcs, kd_t (cs_K13 hcs), cs_P13_0 hcs, kd_t (cs_K14 hcs), cs_N14 hcs, cs_P13_2 hcs, kd_t (cs_K15 hcs), cs_N15 hcs, cs_P13_4 hcs, kd_t (cs_K16 hcs), cs_N16 hcs, cs_P0_16 hcs, kd_t (cs_K17 hcs), cs_N17 hcs, cs_P0_17 hcs, kd_t (cs_K18 hcs), cs_N18 hcs, cs_P7_0 hcs, cs_P7_1 hcs, cs_P7_2 hcs, l0_e, l0_le, l0_ge, l0_lt, l0_gt, l1_m, l1_a, l1_b, l1_s, l1_e, l1_le, l1_ge, l1_lt, l1_gt, lt_t, nn_t, bd_t, bdD_t, bdP_t, nI_clamp, gi_n, nI_add, nI_1, pk_mul, b2_eq0, b2_01, nb_t, if_true, if_false, ni_le, ni_eq, ni_lt, g1, kd_t g2, g3, kd_t o2.k, o2.g4, c_pl (show s 14 (D.getD (i + k) df).1 < 2 ^ 31 by omega), hpl, hba]
        rw [if_neg (by omega), if_neg (by omega)]
        rw [anyb_s] at hK
        have el : lwT s D i e k = !anyb (fun u => !bN s (s 14 (D.getD (i + k) df).1) (rsF s D (i + u))) (e - i) := rfl
        rw [← el]
        cases q1 : anyb (lwT s D i e) k with
        | true => rw [q1] at hK; rw [if_neg (by decide)]; exact hK
        | false =>
          rw [q1] at hK
          rw [if_pos rfl]
          cases q2 : lwT s D i e k with
          | true => rw [q2] at hK; rw [if_neg (by decide)]; exact hK
          | false => rw [q2] at hK; rw [if_pos rfl]; exact hK
      · intro k hk hp he' K
        obtain ⟨w, g1, g2, g3, o2⟩ := dv_at h (show i + k < D.length by omega)
        have hr := h.b.resT (D.getD (i + k) df).1
        have hp2 : s 14 (D.getD (i + k) df).1 < 7 := by unfold plT rsF at hp; simpa using hp
        simp (maxSteps := 1000000) (disch := omega) only [f_Dr_resultsAgreeWithin_B14, kd_t (cs_K0 hcs), cs_P0_0 hcs, kd_t (cs_K1 hcs), cs_P1_0 hcs, kd_t (cs_K2 hcs), cs_N2 hcs, cs_P0_1 hcs, kd_t (cs_K3 hcs), cs_N3 hcs, cs_P0_3 hcs, kd_t (cs_K4 hcs), cs_N4 hcs, cs_P0_5 hcs, kd_t (cs_K5 hcs), cs_N5 hcs, cs_P0_6 hcs, kd_t (cs_K6 hcs), cs_N6 hcs, cs_P0_8 hcs, kd_t (cs_K7 hcs), cs_N7 hcs, cs_P0_9 hcs, kd_t (cs_K8 hcs), cs_N8 hcs, cs_P0_11 hcs, kd_t (cs_K9 hcs), cs_P9_0 hcs, cs_P9_1 hcs, kd_t (cs_K10 hcs), cs_N10 hcs, cs_P9_3 hcs, kd_t (cs_K11 hcs), cs_P11_0 hcs, kd_t (cs_K12 hcs), cs_N12 hcs, cs_P0_12 hcs, kd_t (cs_K13 hcs), cs_P13_0 hcs, kd_t (cs_K14 hcs), cs_N14 hcs, cs_P13_2 hcs, kd_t (cs_K15 hcs), cs_N15 hcs, cs_P13_4 hcs, kd_t (cs_K16 hcs), cs_N16 hcs, cs_P0_16 hcs, kd_t (cs_K17 hcs), cs_N17 hcs, cs_P0_17 hcs, kd_t (cs_K18 hcs), cs_N18 hcs, cs_P7_0 hcs, cs_P7_1 hcs, cs_P7_2 hcs, l0_e, l0_le, l0_ge, l0_lt, l0_gt, lt_t, nn_t, bd_t, bdD_t, bdP_t, nI_clamp, gi_n, nI_add, nI_1, pk_mul, b2_eq0, b2_01, nb_t, if_true, if_false, ni_le, ni_eq, ni_lt, g1, kd_t g2, g3, kd_t o2.k, o2.g4, c_pl (show s 14 (D.getD (i + k) df).1 < 2 ^ 31 by omega)]
        rw [if_neg (by omega)]
        have ean : anyb (plT s D i) (e - i) = true := by unfold anyb; rw [he', decide_eq_true hk]
        rw [ean]
        by_cases q0 : s 14 (D.getD (i + k) df).1 = 0
        · rw [if_pos q0]; rfl
        · rw [if_neg q0, if_neg]
          · rfl
          · unfold pln; rw [decide_eq_true (show 1 ≤ s 14 (D.getD (i + k) df).1 by omega), decide_eq_true (show s 14 (D.getD (i + k) df).1 ≤ 6 by omega)]; decide
      · intro he' K
        simp (maxSteps := 1000000) (disch := omega) only [f_Dr_resultsAgreeWithin_B14, kd_t (cs_K0 hcs), cs_P0_0 hcs, kd_t (cs_K1 hcs), cs_P1_0 hcs, kd_t (cs_K2 hcs), cs_N2 hcs, cs_P0_1 hcs, kd_t (cs_K3 hcs), cs_N3 hcs, cs_P0_3 hcs, kd_t (cs_K4 hcs), cs_N4 hcs, cs_P0_5 hcs, kd_t (cs_K5 hcs), cs_N5 hcs, cs_P0_6 hcs, kd_t (cs_K6 hcs), cs_N6 hcs, cs_P0_8 hcs, kd_t (cs_K7 hcs), cs_N7 hcs, cs_P0_9 hcs, kd_t (cs_K8 hcs), cs_N8 hcs, cs_P0_11 hcs, kd_t (cs_K9 hcs), cs_P9_0 hcs, cs_P9_1 hcs, kd_t (cs_K10 hcs), cs_N10 hcs, cs_P9_3 hcs, kd_t (cs_K11 hcs), cs_P11_0 hcs, kd_t (cs_K12 hcs), cs_N12 hcs, cs_P0_12 hcs, kd_t (cs_K13 hcs), cs_P13_0 hcs, kd_t (cs_K14 hcs), cs_N14 hcs, cs_P13_2 hcs, kd_t (cs_K15 hcs), cs_N15 hcs, cs_P13_4 hcs, kd_t (cs_K16 hcs), cs_N16 hcs, cs_P0_16 hcs, kd_t (cs_K17 hcs), cs_N17 hcs, cs_P0_17 hcs, kd_t (cs_K18 hcs), cs_N18 hcs, cs_P7_0 hcs, cs_P7_1 hcs, cs_P7_2 hcs, l0_e, l0_le, l0_ge, l0_lt, l0_gt, lt_t, nn_t, bd_t, bdD_t, bdP_t, nI_clamp, gi_n, nI_add, nI_1, pk_mul, b2_eq0, b2_01, nb_t, if_true, if_false, ni_le, ni_eq, ni_lt, nb_t (b2_01 _)]
        rw [if_pos (by omega)]
        have ean : anyb (plT s D i) (e - i) = false := by unfold anyb; rw [he', decide_eq_false (Nat.lt_irrefl _)]
        rw [ean]; rfl
    exact hap
noncomputable def bdT' (s : Nat → Nat → Nat) (D : List (Nat × List Nat)) (i : Nat) : Bool := (decide (i = 0) || !sgF s D i (i - 1)) && !(decide (eos s D i - i = 1) || (!anyb (plT s D i) (eos s D i - i) && anyb (lwT s D i (eos s D i)) (eos s D i - i)))
theorem bdT_iff {i : Nat} : bdT' s D i = true ↔ Bad s D i := by
  unfold bdT' Bad frs
  rw [Bool.and_eq_true, Bool.or_eq_true, decide_eq_true_iff, Bool.not_eq_true', Bool.not_eq_true', Bool.or_eq_false_iff, decide_eq_false_iff_not, Bool.and_eq_false_iff, Bool.not_eq_false']
  have e1 : anyb (plT s D i) (eos s D i - i) = true ↔ ∃ t, i ≤ t ∧ t < eos s D i ∧ rsF s D t < 7 := by
    rw [anyb_iff]
    constructor
    · rintro ⟨j, h1, h2⟩
      exact ⟨i + j, by omega, by omega, by unfold plT at h2; simpa using h2⟩
    · rintro ⟨t, h1, h2, h3⟩
      exact ⟨t - i, by omega, by unfold plT; rw [show i + (t - i) = t by omega]; exact decide_eq_true h3⟩
  have e3 : ∀ t, lwT s D i (eos s D i) t = true ↔ ∀ u, i ≤ u → u < eos s D i → bN s (rsF s D (i + t)) (rsF s D u) = true := by
    intro t
    unfold lwT
    rw [Bool.not_eq_true', ← Bool.not_eq_true, anyb_iff]
    constructor
    · intro h u h1 h2
      cases c : bN s (rsF s D (i + t)) (rsF s D u) with
      | true => rfl
      | false => exact absurd ⟨u - i, by omega, by rw [show i + (u - i) = u by omega, c]; rfl⟩ h
    · rintro h ⟨j, h1, h2⟩
      rw [h (i + j) (by omega) (by omega)] at h2
      exact absurd h2 (by decide)
  have e2 : anyb (lwT s D i (eos s D i)) (eos s D i - i) = false ↔ ¬ ∃ t, (i ≤ t ∧ t < eos s D i) ∧ ∀ u, i ≤ u → u < eos s D i → bN s (rsF s D t) (rsF s D u) = true := by
    rw [← Bool.not_eq_true, anyb_iff]
    apply not_congr
    constructor
    · rintro ⟨j, h1, h2⟩
      exact ⟨i + j, ⟨by omega, by omega⟩, (e3 j).mp h2⟩
    · rintro ⟨t, h1, h2⟩
      refine ⟨t - i, by omega, (e3 _).mpr ?_⟩
      rw [show i + (t - i) = t by omega]; exact h2
  rw [e1, e2]
theorem c_resultsAgree0 (h : DV S d x s A U D) : f_Dr_resultsAgree S d (x + 9) = some (b2 (!anyb (bdT' s D) D.length)) := by
  have hn := h.n
  have hcs := h.ce.cs
  have n1 := h.C.n
  have c45 : ∀ k, k < D.length → ∀ K, f_Dr_resultsAgree_J45 S d (x + 9) K (nI k) 1 = if (decide (eos s D k - k = 1) || (!anyb (plT s D k) (eos s D k - k) && anyb (lwT s D k (eos s D k)) (eos s D k - k))) = false then some 0 else K (nI (k + 1)) := by
    intro k hk K
    have hle := eos_le (s := s) hk
    simp (maxSteps := 1000000) (disch := omega) only [f_Dr_resultsAgree_J45, f_Dr_resultsAgree_J65, kd_t (cs_K0 hcs), cs_P0_0 hcs, kd_t (cs_K1 hcs), cs_P1_0 hcs, kd_t (cs_K2 hcs), cs_N2 hcs, cs_P0_1 hcs, kd_t (cs_K3 hcs), cs_N3 hcs, cs_P0_3 hcs, kd_t (cs_K4 hcs), cs_N4 hcs, cs_P0_5 hcs, kd_t (cs_K5 hcs), cs_N5 hcs, cs_P0_6 hcs, kd_t (cs_K6 hcs), cs_N6 hcs, cs_P0_8 hcs, kd_t (cs_K7 hcs), cs_N7 hcs, cs_P0_9 hcs, kd_t (cs_K8 hcs), cs_N8 hcs, cs_P0_11 hcs, kd_t (cs_K9 hcs), cs_P9_0 hcs, cs_P9_1 hcs, kd_t (cs_K10 hcs), cs_N10 hcs, cs_P9_3 hcs, kd_t (cs_K11 hcs), cs_P11_0 hcs, kd_t (cs_K12 hcs), cs_N12 hcs, cs_P0_12 hcs, kd_t (cs_K13 hcs), cs_P13_0 hcs, kd_t (cs_K14 hcs), cs_N14 hcs, cs_P13_2 hcs, kd_t (cs_K15 hcs), cs_N15 hcs, cs_P13_4 hcs, kd_t (cs_K16 hcs), cs_N16 hcs, cs_P0_16 hcs, kd_t (cs_K17 hcs), cs_N17 hcs, cs_P0_17 hcs, kd_t (cs_K18 hcs), cs_N18 hcs, cs_P7_0 hcs, cs_P7_1 hcs, cs_P7_2 hcs, l0_e, l0_le, l0_ge, l0_lt, l0_gt, l1_m, l1_a, l1_b, l1_s, l1_e, l1_le, l1_ge, l1_lt, l1_gt, lt_t, nn_t, bd_t, bdD_t, bdP_t, nI_clamp, gi_n, nI_add, nI_1, pk_mul, b2_eq0, b2_01, nb_t, if_true, if_false, ni_le, ni_eq, ni_lt, c_endOfSig h hk, c_raWithin h hle.1 hle.2]
    rw [if_neg (by decide)]
  have c45' : ∀ k K, f_Dr_resultsAgree_J45 S d (x + 9) K (nI k) 0 = K (nI (k + 1)) := by
    intro k K
    simp (maxSteps := 1000000) (disch := omega) only [f_Dr_resultsAgree_J45, f_Dr_resultsAgree_J65, kd_t (cs_K0 hcs), cs_P0_0 hcs, kd_t (cs_K1 hcs), cs_P1_0 hcs, kd_t (cs_K2 hcs), cs_N2 hcs, cs_P0_1 hcs, kd_t (cs_K3 hcs), cs_N3 hcs, cs_P0_3 hcs, kd_t (cs_K4 hcs), cs_N4 hcs, cs_P0_5 hcs, kd_t (cs_K5 hcs), cs_N5 hcs, cs_P0_6 hcs, kd_t (cs_K6 hcs), cs_N6 hcs, cs_P0_8 hcs, kd_t (cs_K7 hcs), cs_N7 hcs, cs_P0_9 hcs, kd_t (cs_K8 hcs), cs_N8 hcs, cs_P0_11 hcs, kd_t (cs_K9 hcs), cs_P9_0 hcs, cs_P9_1 hcs, kd_t (cs_K10 hcs), cs_N10 hcs, cs_P9_3 hcs, kd_t (cs_K11 hcs), cs_P11_0 hcs, kd_t (cs_K12 hcs), cs_N12 hcs, cs_P0_12 hcs, kd_t (cs_K13 hcs), cs_P13_0 hcs, kd_t (cs_K14 hcs), cs_N14 hcs, cs_P13_2 hcs, kd_t (cs_K15 hcs), cs_N15 hcs, cs_P13_4 hcs, kd_t (cs_K16 hcs), cs_N16 hcs, cs_P0_16 hcs, kd_t (cs_K17 hcs), cs_N17 hcs, cs_P0_17 hcs, kd_t (cs_K18 hcs), cs_N18 hcs, cs_P7_0 hcs, cs_P7_1 hcs, cs_P7_2 hcs, l0_e, l0_le, l0_ge, l0_lt, l0_gt, l1_m, l1_a, l1_b, l1_s, l1_e, l1_le, l1_ge, l1_lt, l1_gt, lt_t, nn_t, bd_t, bdD_t, bdP_t, nI_clamp, gi_n, nI_add, nI_1, pk_mul, b2_eq0, b2_01, nb_t, if_true, if_false, ni_le, ni_eq, ni_lt]
  have body : ∀ k, k < D.length → ∀ K, f_Dr_resultsAgree_B2 S d (x + 9) K (nI k) = if bdT' s D k then some 0 else K (nI (k + 1)) := by
    intro k hk K
    obtain ⟨v, e1, e2, e3, o⟩ := dv_at h hk
    by_cases q0 : k = 0
    · simp (maxSteps := 1000000) (disch := omega) only [f_Dr_resultsAgree_B2, f_Dr_resultsAgree_J40, kd_t (cs_K0 hcs), cs_P0_0 hcs, kd_t (cs_K1 hcs), cs_P1_0 hcs, kd_t (cs_K2 hcs), cs_N2 hcs, cs_P0_1 hcs, kd_t (cs_K3 hcs), cs_N3 hcs, cs_P0_3 hcs, kd_t (cs_K4 hcs), cs_N4 hcs, cs_P0_5 hcs, kd_t (cs_K5 hcs), cs_N5 hcs, cs_P0_6 hcs, kd_t (cs_K6 hcs), cs_N6 hcs, cs_P0_8 hcs, kd_t (cs_K7 hcs), cs_N7 hcs, cs_P0_9 hcs, kd_t (cs_K8 hcs), cs_N8 hcs, cs_P0_11 hcs, kd_t (cs_K9 hcs), cs_P9_0 hcs, cs_P9_1 hcs, kd_t (cs_K10 hcs), cs_N10 hcs, cs_P9_3 hcs, kd_t (cs_K11 hcs), cs_P11_0 hcs, kd_t (cs_K12 hcs), cs_N12 hcs, cs_P0_12 hcs, kd_t (cs_K13 hcs), cs_P13_0 hcs, kd_t (cs_K14 hcs), cs_N14 hcs, cs_P13_2 hcs, kd_t (cs_K15 hcs), cs_N15 hcs, cs_P13_4 hcs, kd_t (cs_K16 hcs), cs_N16 hcs, cs_P0_16 hcs, kd_t (cs_K17 hcs), cs_N17 hcs, cs_P0_17 hcs, kd_t (cs_K18 hcs), cs_N18 hcs, cs_P7_0 hcs, cs_P7_1 hcs, cs_P7_2 hcs, l0_e, l0_le, l0_ge, l0_lt, l0_gt, l1_m, l1_a, l1_b, l1_s, l1_e, l1_le, l1_ge, l1_lt, l1_gt, lt_t, nn_t, bd_t, bdD_t, bdP_t, nI_clamp, gi_n, nI_add, nI_1, pk_mul, b2_eq0, b2_01, nb_t, if_true, if_false, ni_le, ni_eq, ni_lt, n1]
      rw [if_neg (by omega), if_pos q0, c45 k hk]
      unfold bdT'
      rw [decide_eq_true q0, Bool.true_or, Bool.true_and]
      cases (decide (eos s D k - k = 1) || (!anyb (plT s D k) (eos s D k - k) && anyb (lwT s D k (eos s D k)) (eos s D k - k))) <;> rfl
    · obtain ⟨w, g1, g2, g3, o2⟩ := dv_at h (show k - 1 < D.length by omega)
      simp (maxSteps := 1000000) (disch := omega) only [f_Dr_resultsAgree_B2, f_Dr_resultsAgree_J40, kd_t (cs_K0 hcs), cs_P0_0 hcs, kd_t (cs_K1 hcs), cs_P1_0 hcs, kd_t (cs_K2 hcs), cs_N2 hcs, cs_P0_1 hcs, kd_t (cs_K3 hcs), cs_N3 hcs, cs_P0_3 hcs, kd_t (cs_K4 hcs), cs_N4 hcs, cs_P0_5 hcs, kd_t (cs_K5 hcs), cs_N5 hcs, cs_P0_6 hcs, kd_t (cs_K6 hcs), cs_N6 hcs, cs_P0_8 hcs, kd_t (cs_K7 hcs), cs_N7 hcs, cs_P0_9 hcs, kd_t (cs_K8 hcs), cs_N8 hcs, cs_P0_11 hcs, kd_t (cs_K9 hcs), cs_P9_0 hcs, cs_P9_1 hcs, kd_t (cs_K10 hcs), cs_N10 hcs, cs_P9_3 hcs, kd_t (cs_K11 hcs), cs_P11_0 hcs, kd_t (cs_K12 hcs), cs_N12 hcs, cs_P0_12 hcs, kd_t (cs_K13 hcs), cs_P13_0 hcs, kd_t (cs_K14 hcs), cs_N14 hcs, cs_P13_2 hcs, kd_t (cs_K15 hcs), cs_N15 hcs, cs_P13_4 hcs, kd_t (cs_K16 hcs), cs_N16 hcs, cs_P0_16 hcs, kd_t (cs_K17 hcs), cs_N17 hcs, cs_P0_17 hcs, kd_t (cs_K18 hcs), cs_N18 hcs, cs_P7_0 hcs, cs_P7_1 hcs, cs_P7_2 hcs, l0_e, l0_le, l0_ge, l0_lt, l0_gt, l1_m, l1_a, l1_b, l1_s, l1_e, l1_le, l1_ge, l1_lt, l1_gt, lt_t, nn_t, bd_t, bdD_t, bdP_t, nI_clamp, gi_n, nI_add, nI_1, pk_mul, b2_eq0, b2_01, nb_t, if_true, if_false, ni_le, ni_eq, ni_lt, n1, e1, kd_t e2, e3, kd_t o.k, g1, kd_t g2, g3, c_hasSig h.b o o2 (h.v k hk).1 (h.v _ (show k - 1 < D.length by omega)).1]
      rw [if_neg (by omega), if_neg q0]
      unfold bdT'
      rw [decide_eq_false q0, Bool.false_or]
      have es : sgF s D k (k - 1) = sg s (D.getD k df).1 (D.getD (k - 1) df).1 := rfl
      rw [es]
      cases sg s (D.getD k df).1 (D.getD (k - 1) df).1 with
      | false =>
        rw [if_pos rfl, c45 k hk]
        cases (decide (eos s D k - k = 1) || (!anyb (plT s D k) (eos s D k - k) && anyb (lwT s D k (eos s D k)) (eos s D k - k))) <;> rfl
      | true =>
        rw [if_neg (by decide), c45']
        rfl
  unfold f_Dr_resultsAgree
  refine itr_f (B := f_Dr_resultsAgree_B2 S d (x + 9)) (fun k K => K (nI k)) (bdT' s D) D.length _ (by omega) ?_ ?_ ?_
  · intro k hk hp K hK
    rw [body k hk, hp, if_neg (by decide)]; exact hK
  · intro k hk hp he K
    rw [body k hk, hp, if_pos rfl]
    unfold anyb; rw [he, decide_eq_true hk]; rfl
  · intro he K
    simp (maxSteps := 1000000) (disch := omega) only [f_Dr_resultsAgree_B2, kd_t (cs_K0 hcs), cs_P0_0 hcs, kd_t (cs_K1 hcs), cs_P1_0 hcs, kd_t (cs_K2 hcs), cs_N2 hcs, cs_P0_1 hcs, kd_t (cs_K3 hcs), cs_N3 hcs, cs_P0_3 hcs, kd_t (cs_K4 hcs), cs_N4 hcs, cs_P0_5 hcs, kd_t (cs_K5 hcs), cs_N5 hcs, cs_P0_6 hcs, kd_t (cs_K6 hcs), cs_N6 hcs, cs_P0_8 hcs, kd_t (cs_K7 hcs), cs_N7 hcs, cs_P0_9 hcs, kd_t (cs_K8 hcs), cs_N8 hcs, cs_P0_11 hcs, kd_t (cs_K9 hcs), cs_P9_0 hcs, cs_P9_1 hcs, kd_t (cs_K10 hcs), cs_N10 hcs, cs_P9_3 hcs, kd_t (cs_K11 hcs), cs_P11_0 hcs, kd_t (cs_K12 hcs), cs_N12 hcs, cs_P0_12 hcs, kd_t (cs_K13 hcs), cs_P13_0 hcs, kd_t (cs_K14 hcs), cs_N14 hcs, cs_P13_2 hcs, kd_t (cs_K15 hcs), cs_N15 hcs, cs_P13_4 hcs, kd_t (cs_K16 hcs), cs_N16 hcs, cs_P0_16 hcs, kd_t (cs_K17 hcs), cs_N17 hcs, cs_P0_17 hcs, kd_t (cs_K18 hcs), cs_N18 hcs, cs_P7_0 hcs, cs_P7_1 hcs, cs_P7_2 hcs, l0_e, l0_le, l0_ge, l0_lt, l0_gt, l1_m, l1_a, l1_b, l1_s, l1_e, l1_le, l1_ge, l1_lt, l1_gt, lt_t, nn_t, bd_t, bdD_t, bdP_t, nI_clamp, gi_n, nI_add, nI_1, pk_mul, b2_eq0, b2_01, nb_t, if_true, if_false, ni_le, ni_eq, ni_lt, n1]
    rw [if_pos (Nat.le_refl _)]
    unfold anyb; rw [he, decide_eq_false (Nat.lt_irrefl _)]; rfl
theorem c_faultOfDraft {fl : List (Nat × List Nat)} (h : DV S d x s A U (perm s fl)) (h10 : dI d x 10 = nI (s 21 0)) : f_M_faultOfDraft S d x = some (nI (if fst (fun i => wr s fl i) fl.length < fl.length then 4 else if 40 < fl.length then 5 else if s 21 0 = 16 then 6 else 0)) := by
  have hn := h.n
  have hcs := h.ce.cs
  have n1 := h.C.n
  have hst := h.b.stands
  rw [perm_len] at n1 hn
  simp (maxSteps := 1000000) (disch := omega) only [f_M_faultOfDraft, kd_t (cs_K0 hcs), cs_P0_0 hcs, kd_t (cs_K1 hcs), cs_P1_0 hcs, kd_t (cs_K2 hcs), cs_N2 hcs, cs_P0_1 hcs, kd_t (cs_K3 hcs), cs_N3 hcs, cs_P0_3 hcs, kd_t (cs_K4 hcs), cs_N4 hcs, cs_P0_5 hcs, kd_t (cs_K5 hcs), cs_N5 hcs, cs_P0_6 hcs, kd_t (cs_K6 hcs), cs_N6 hcs, cs_P0_8 hcs, kd_t (cs_K7 hcs), cs_N7 hcs, cs_P0_9 hcs, kd_t (cs_K8 hcs), cs_N8 hcs, cs_P0_11 hcs, kd_t (cs_K9 hcs), cs_P9_0 hcs, cs_P9_1 hcs, kd_t (cs_K10 hcs), cs_N10 hcs, cs_P9_3 hcs, kd_t (cs_K11 hcs), cs_P11_0 hcs, kd_t (cs_K12 hcs), cs_N12 hcs, cs_P0_12 hcs, kd_t (cs_K13 hcs), cs_P13_0 hcs, kd_t (cs_K14 hcs), cs_N14 hcs, cs_P13_2 hcs, kd_t (cs_K15 hcs), cs_N15 hcs, cs_P13_4 hcs, kd_t (cs_K16 hcs), cs_N16 hcs, cs_P0_16 hcs, kd_t (cs_K17 hcs), cs_N17 hcs, cs_P0_17 hcs, kd_t (cs_K18 hcs), cs_N18 hcs, cs_P7_0 hcs, cs_P7_1 hcs, cs_P7_2 hcs, l0_e, l0_le, l0_ge, l0_lt, l0_gt, l4_m, l4_a, l4_b, l4_s, l4_e, l4_le, l4_ge, l4_lt, l4_gt, l5_m, l5_a, l5_b, l5_s, l5_e, l5_le, l5_ge, l5_lt, l5_gt, l6_m, l6_a, l6_b, l6_s, l6_e, l6_le, l6_ge, l6_lt, l6_gt, l16_m, l16_a, l16_b, l16_s, l16_e, l16_le, l16_ge, l16_lt, l16_gt, l40_m, l40_a, l40_b, l40_s, l40_e, l40_le, l40_ge, l40_lt, l40_gt, lt_t, nn_t, bd_t, bdD_t, bdP_t, nI_clamp, gi_n, nI_add, nI_1, pk_mul, b2_eq0, b2_01, nb_t, if_true, if_false, ni_le, ni_eq, ni_lt, c_resultsAgree0 h, n1, h10]
  have hb : anyb (bdT' s (perm s fl)) (perm s fl).length = decide (fst (fun i => wr s fl i) fl.length < fl.length) := by
    have e1 : anyb (bdT' s (perm s fl)) (perm s fl).length = true ↔ ∃ i, i < fl.length ∧ Bad s (perm s fl) i := by
      rw [anyb_iff, perm_len]
      constructor
      · rintro ⟨j, h1, h2⟩; exact ⟨j, h1, bdT_iff.mp h2⟩
      · rintro ⟨j, h1, h2⟩; exact ⟨j, h1, bdT_iff.mpr h2⟩
    have e2 : anyb (fun i => wr s fl i) fl.length = true ↔ ∃ i, i < fl.length ∧ wr s fl i = true := anyb_iff _ _
    rw [bad_iff, ← e2] at e1
    rw [Bool.eq_iff_iff, e1]; rfl
  rw [hb]
  by_cases q : fst (fun i => wr s fl i) fl.length < fl.length
  · rw [decide_eq_true q, if_pos (by rfl), if_pos q]; rfl
  · rw [decide_eq_false q, if_neg (by decide), if_neg q]
    by_cases q2 : 40 < fl.length
    · rw [if_neg (by omega), if_pos q2]; rfl
    · rw [if_pos (by omega), if_neg q2]
      by_cases q3 : s 21 0 = 16
      · rw [if_pos q3, if_pos q3]; rfl
      · rw [if_neg q3, if_neg q3]; rfl
end cls
