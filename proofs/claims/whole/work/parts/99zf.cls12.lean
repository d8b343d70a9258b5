section cls
variable {S : gS} {d : gD} {x : Nat} {s : Nat → Nat → Nat} {A : Nat → Nat → Nat} {U : Nat → Prop} {D : List (Nat × List Nat)}
theorem c_areFaces (h : CS S x) (F : CF S d x s A) (b : BI s) (v : Int32) : f_M_areFaces S d x v = some (b2 (decide (¬ fst (fun k => !isFc s v k) (ln v) < ln v))) := by
  have hl := ln_le v
  have hF := b.faces
  unfold f_M_areFaces
  have cf : ∀ k, cIn 24 (nI (24 + s 5 0)) (nI (ub v k)) = isFc s v k := by
    intro k
    have hu := ub_lt v k
    rw [show (24 : Int32) = nI 24 from rfl, cIn_nI (by omega) (by omega) (by omega)]; rfl
  refine itr_f (B := f_M_areFaces_B2 S d x) (fun k K => K v (nI k)) (fun k => !isFc s v k) (ln v) _ (by omega) ?_ ?_ ?_
  · intro k hk hp K hK
    rw [Bool.not_eq_false'] at hp
    simp (maxSteps := 1000000) (disch := omega) only [f_M_areFaces_B2, kd_t (cs_K0 h), cs_P0_0 h, kd_t (cs_K1 h), cs_P1_0 h, kd_t (cs_K2 h), cs_N2 h, cs_P0_1 h, kd_t (cs_K3 h), cs_N3 h, cs_P0_3 h, kd_t (cs_K4 h), cs_N4 h, cs_P0_5 h, kd_t (cs_K5 h), cs_N5 h, cs_P0_6 h, kd_t (cs_K6 h), cs_N6 h, cs_P0_8 h, kd_t (cs_K7 h), cs_N7 h, cs_P0_9 h, kd_t (cs_K8 h), cs_N8 h, cs_P0_11 h, kd_t (cs_K9 h), cs_P9_0 h, cs_P9_1 h, kd_t (cs_K10 h), cs_N10 h, cs_P9_3 h, kd_t (cs_K11 h), cs_P11_0 h, kd_t (cs_K12 h), cs_N12 h, cs_P0_12 h, kd_t (cs_K13 h), cs_P13_0 h, kd_t (cs_K14 h), cs_N14 h, cs_P13_2 h, kd_t (cs_K15 h), cs_N15 h, cs_P13_4 h, kd_t (cs_K16 h), cs_N16 h, cs_P0_16 h, kd_t (cs_K17 h), cs_N17 h, cs_P0_17 h, kd_t (cs_K18 h), cs_N18 h, cs_P7_0 h, cs_P7_1 h, cs_P7_2 h, l0_e, l0_le, l0_ge, l0_lt, l0_gt, l1_m, l1_a, l1_b, l1_s, l1_e, l1_le, l1_ge, l1_lt, l1_gt, lt_t, nn_t, bd_t, bdD_t, bdP_t, nI_clamp, gi_n, nI_add, nI_1, pk_mul, b2_eq0, b2_01, nb_t, if_true, if_false, ni_le, ni_eq, ni_lt, c_lengthOf v, c_byteOf v (show k < 4 by omega), c_isFace h F, cf, hp]
    rw [if_neg (by omega), if_neg (by decide)]; exact hK
  · intro k hk hp he K
    rw [Bool.not_eq_true'] at hp
    simp (maxSteps := 1000000) (disch := omega) only [f_M_areFaces_B2, kd_t (cs_K0 h), cs_P0_0 h, kd_t (cs_K1 h), cs_P1_0 h, kd_t (cs_K2 h), cs_N2 h, cs_P0_1 h, kd_t (cs_K3 h), cs_N3 h, cs_P0_3 h, kd_t (cs_K4 h), cs_N4 h, cs_P0_5 h, kd_t (cs_K5 h), cs_N5 h, cs_P0_6 h, kd_t (cs_K6 h), cs_N6 h, cs_P0_8 h, kd_t (cs_K7 h), cs_N7 h, cs_P0_9 h, kd_t (cs_K8 h), cs_N8 h, cs_P0_11 h, kd_t (cs_K9 h), cs_P9_0 h, cs_P9_1 h, kd_t (cs_K10 h), cs_N10 h, cs_P9_3 h, kd_t (cs_K11 h), cs_P11_0 h, kd_t (cs_K12 h), cs_N12 h, cs_P0_12 h, kd_t (cs_K13 h), cs_P13_0 h, kd_t (cs_K14 h), cs_N14 h, cs_P13_2 h, kd_t (cs_K15 h), cs_N15 h, cs_P13_4 h, kd_t (cs_K16 h), cs_N16 h, cs_P0_16 h, kd_t (cs_K17 h), cs_N17 h, cs_P0_17 h, kd_t (cs_K18 h), cs_N18 h, cs_P7_0 h, cs_P7_1 h, cs_P7_2 h, l0_e, l0_le, l0_ge, l0_lt, l0_gt, l1_m, l1_a, l1_b, l1_s, l1_e, l1_le, l1_ge, l1_lt, l1_gt, lt_t, nn_t, bd_t, bdD_t, bdP_t, nI_clamp, gi_n, nI_add, nI_1, pk_mul, b2_eq0, b2_01, nb_t, if_true, if_false, ni_le, ni_eq, ni_lt, c_lengthOf v, c_byteOf v (show k < 4 by omega), c_isFace h F, cf, hp]
    rw [if_neg (by omega), he, decide_eq_false (by omega)]; rfl
  · intro he K
    simp (maxSteps := 1000000) (disch := omega) only [f_M_areFaces_B2, kd_t (cs_K0 h), cs_P0_0 h, kd_t (cs_K1 h), cs_P1_0 h, kd_t (cs_K2 h), cs_N2 h, cs_P0_1 h, kd_t (cs_K3 h), cs_N3 h, cs_P0_3 h, kd_t (cs_K4 h), cs_N4 h, cs_P0_5 h, kd_t (cs_K5 h), cs_N5 h, cs_P0_6 h, kd_t (cs_K6 h), cs_N6 h, cs_P0_8 h, kd_t (cs_K7 h), cs_N7 h, cs_P0_9 h, kd_t (cs_K8 h), cs_N8 h, cs_P0_11 h, kd_t (cs_K9 h), cs_P9_0 h, cs_P9_1 h, kd_t (cs_K10 h), cs_N10 h, cs_P9_3 h, kd_t (cs_K11 h), cs_P11_0 h, kd_t (cs_K12 h), cs_N12 h, cs_P0_12 h, kd_t (cs_K13 h), cs_P13_0 h, kd_t (cs_K14 h), cs_N14 h, cs_P13_2 h, kd_t (cs_K15 h), cs_N15 h, cs_P13_4 h, kd_t (cs_K16 h), cs_N16 h, cs_P0_16 h, kd_t (cs_K17 h), cs_N17 h, cs_P0_17 h, kd_t (cs_K18 h), cs_N18 h, cs_P7_0 h, cs_P7_1 h, cs_P7_2 h, l0_e, l0_le, l0_ge, l0_lt, l0_gt, l1_m, l1_a, l1_b, l1_s, l1_e, l1_le, l1_ge, l1_lt, l1_gt, lt_t, nn_t, bd_t, bdD_t, bdP_t, nI_clamp, gi_n, nI_add, nI_1, pk_mul, b2_eq0, b2_01, nb_t, if_true, if_false, ni_le, ni_eq, ni_lt, c_lengthOf v]
    rw [if_pos (Nat.le_refl _), he, decide_eq_true (by omega)]; rfl
theorem c_areVisible (h : CS S x) (L : CL d x s) (F : CF S d x s A) (b : BI s) {v : Int32} (ho : okL s v) {l : Nat} (hl : l < s 1 0) : f_M_areVisible S d x v (nI l) = some (b2 (decide (¬ fst (fun k => !vis s l (fc v k)) (ln v) < ln v))) := by
  have hln := ln_le v
  have hF := b.faces
  unfold f_M_areVisible
  have cv : ∀ k, k < ln v → f_M_isVisible S d x (nI (ub v k)) (nI l) = some (b2 (vis s l (fc v k))) := by
    intro k hk
    have := ho k hk
    have e : ub v k = 24 + fc v k := by unfold fc; omega
    rw [e]
    exact c_isVisible h L F b l (fc v k) hl (by unfold fc; omega)
  refine itr_f (B := f_M_areVisible_B2 S d x) (fun k K => K v (nI l) (nI k)) (fun k => !vis s l (fc v k)) (ln v) _ (by omega) ?_ ?_ ?_
  · intro k hk hp K hK
    rw [Bool.not_eq_false'] at hp
    simp (maxSteps := 1000000) (disch := omega) only [f_M_areVisible_B2, kd_t (cs_K0 h), cs_P0_0 h, kd_t (cs_K1 h), cs_P1_0 h, kd_t (cs_K2 h), cs_N2 h, cs_P0_1 h, kd_t (cs_K3 h), cs_N3 h, cs_P0_3 h, kd_t (cs_K4 h), cs_N4 h, cs_P0_5 h, kd_t (cs_K5 h), cs_N5 h, cs_P0_6 h, kd_t (cs_K6 h), cs_N6 h, cs_P0_8 h, kd_t (cs_K7 h), cs_N7 h, cs_P0_9 h, kd_t (cs_K8 h), cs_N8 h, cs_P0_11 h, kd_t (cs_K9 h), cs_P9_0 h, cs_P9_1 h, kd_t (cs_K10 h), cs_N10 h, cs_P9_3 h, kd_t (cs_K11 h), cs_P11_0 h, kd_t (cs_K12 h), cs_N12 h, cs_P0_12 h, kd_t (cs_K13 h), cs_P13_0 h, kd_t (cs_K14 h), cs_N14 h, cs_P13_2 h, kd_t (cs_K15 h), cs_N15 h, cs_P13_4 h, kd_t (cs_K16 h), cs_N16 h, cs_P0_16 h, kd_t (cs_K17 h), cs_N17 h, cs_P0_17 h, kd_t (cs_K18 h), cs_N18 h, cs_P7_0 h, cs_P7_1 h, cs_P7_2 h, l0_e, l0_le, l0_ge, l0_lt, l0_gt, l1_m, l1_a, l1_b, l1_s, l1_e, l1_le, l1_ge, l1_lt, l1_gt, lt_t, nn_t, bd_t, bdD_t, bdP_t, nI_clamp, gi_n, nI_add, nI_1, pk_mul, b2_eq0, b2_01, nb_t, if_true, if_false, ni_le, ni_eq, ni_lt, c_lengthOf v, c_byteOf v (show k < 4 by omega), cv k hk, hp]
    rw [if_neg (by omega), if_neg (by decide)]; exact hK
  · intro k hk hp he K
    rw [Bool.not_eq_true'] at hp
    simp (maxSteps := 1000000) (disch := omega) only [f_M_areVisible_B2, kd_t (cs_K0 h), cs_P0_0 h, kd_t (cs_K1 h), cs_P1_0 h, kd_t (cs_K2 h), cs_N2 h, cs_P0_1 h, kd_t (cs_K3 h), cs_N3 h, cs_P0_3 h, kd_t (cs_K4 h), cs_N4 h, cs_P0_5 h, kd_t (cs_K5 h), cs_N5 h, cs_P0_6 h, kd_t (cs_K6 h), cs_N6 h, cs_P0_8 h, kd_t (cs_K7 h), cs_N7 h, cs_P0_9 h, kd_t (cs_K8 h), cs_N8 h, cs_P0_11 h, kd_t (cs_K9 h), cs_P9_0 h, cs_P9_1 h, kd_t (cs_K10 h), cs_N10 h, cs_P9_3 h, kd_t (cs_K11 h), cs_P11_0 h, kd_t (cs_K12 h), cs_N12 h, cs_P0_12 h, kd_t (cs_K13 h), cs_P13_0 h, kd_t (cs_K14 h), cs_N14 h, cs_P13_2 h, kd_t (cs_K15 h), cs_N15 h, cs_P13_4 h, kd_t (cs_K16 h), cs_N16 h, cs_P0_16 h, kd_t (cs_K17 h), cs_N17 h, cs_P0_17 h, kd_t (cs_K18 h), cs_N18 h, cs_P7_0 h, cs_P7_1 h, cs_P7_2 h, l0_e, l0_le, l0_ge, l0_lt, l0_gt, l1_m, l1_a, l1_b, l1_s, l1_e, l1_le, l1_ge, l1_lt, l1_gt, lt_t, nn_t, bd_t, bdD_t, bdP_t, nI_clamp, gi_n, nI_add, nI_1, pk_mul, b2_eq0, b2_01, nb_t, if_true, if_false, ni_le, ni_eq, ni_lt, c_lengthOf v, c_byteOf v (show k < 4 by omega), cv k hk, hp]
    rw [if_neg (by omega), he, decide_eq_false (by omega)]; rfl
  · intro he K
    simp (maxSteps := 1000000) (disch := omega) only [f_M_areVisible_B2, kd_t (cs_K0 h), cs_P0_0 h, kd_t (cs_K1 h), cs_P1_0 h, kd_t (cs_K2 h), cs_N2 h, cs_P0_1 h, kd_t (cs_K3 h), cs_N3 h, cs_P0_3 h, kd_t (cs_K4 h), cs_N4 h, cs_P0_5 h, kd_t (cs_K5 h), cs_N5 h, cs_P0_6 h, kd_t (cs_K6 h), cs_N6 h, cs_P0_8 h, kd_t (cs_K7 h), cs_N7 h, cs_P0_9 h, kd_t (cs_K8 h), cs_N8 h, cs_P0_11 h, kd_t (cs_K9 h), cs_P9_0 h, cs_P9_1 h, kd_t (cs_K10 h), cs_N10 h, cs_P9_3 h, kd_t (cs_K11 h), cs_P11_0 h, kd_t (cs_K12 h), cs_N12 h, cs_P0_12 h, kd_t (cs_K13 h), cs_P13_0 h, kd_t (cs_K14 h), cs_N14 h, cs_P13_2 h, kd_t (cs_K15 h), cs_N15 h, cs_P13_4 h, kd_t (cs_K16 h), cs_N16 h, cs_P0_16 h, kd_t (cs_K17 h), cs_N17 h, cs_P0_17 h, kd_t (cs_K18 h), cs_N18 h, cs_P7_0 h, cs_P7_1 h, cs_P7_2 h, l0_e, l0_le, l0_ge, l0_lt, l0_gt, l1_m, l1_a, l1_b, l1_s, l1_e, l1_le, l1_ge, l1_lt, l1_gt, lt_t, nn_t, bd_t, bdD_t, bdP_t, nI_clamp, gi_n, nI_add, nI_1, pk_mul, b2_eq0, b2_01, nb_t, if_true, if_false, ni_le, ni_eq, ni_lt, c_lengthOf v]
    rw [if_pos (Nat.le_refl _), he, decide_eq_true (by omega)]; rfl
theorem twK_any {v : Int32} : ∀ n, twK v n = anyb (fun k => anyb (fun o => decide (fc v o = fc v k)) k) n := by
  intro n
  induction n with
  | zero => rfl
  | succ n ih => unfold twK; rw [anyb_s, ih]
theorem c_hasTwice {v : Int32} (ho : ∀ k, k < ln v → 24 ≤ ub v k) : f_M_hasTwice S d v = some (b2 (twK v (ln v))) := by
  have hln := ln_le v
  have inn : ∀ k, k < ln v → ∀ (kx : Int32 → Int32 → Option Int32) (z : Int32 → Int32 → Int32 → Option Int32), itr (f_M_hasTwice_B12 S d kx) z fu v (nI k) 0 = if anyb (fun o => decide (fc v o = fc v k)) k then some 1 else kx v (nI k) := by
    intro k hk kx z
    have hok := ho k hk
    have huk := ub_lt v k
    refine itr_f (B := f_M_hasTwice_B12 S d kx) (fun o K => K v (nI k) (nI o)) (fun o => decide (fc v o = fc v k)) k _ (by omega) ?_ ?_ ?_
    · intro o ho' hp K hK
      have h2 := ho o (by omega)
      have hu := ub_lt v o
      simp (maxSteps := 1000000) (disch := omega) only [f_M_hasTwice_B12, l1_m, l1_a, l1_b, l1_s, l1_e, l1_le, l1_ge, l1_lt, l1_gt, lt_t, nn_t, bd_t, bdD_t, bdP_t, nI_clamp, gi_n, nI_add, nI_1, pk_mul, b2_eq0, b2_01, nb_t, if_true, if_false, ni_le, ni_eq, ni_lt, c_byteOf v (show o < 4 by omega), c_byteOf v (show k < 4 by omega)]
      rw [if_neg (by omega), if_neg]
      · exact hK
      · unfold fc at hp; simp only [decide_eq_false_iff_not] at hp; omega
    · intro o ho' hp he K
      have h2 := ho o (by omega)
      have hu := ub_lt v o
      simp (maxSteps := 1000000) (disch := omega) only [f_M_hasTwice_B12, l1_m, l1_a, l1_b, l1_s, l1_e, l1_le, l1_ge, l1_lt, l1_gt, lt_t, nn_t, bd_t, bdD_t, bdP_t, nI_clamp, gi_n, nI_add, nI_1, pk_mul, b2_eq0, b2_01, nb_t, if_true, if_false, ni_le, ni_eq, ni_lt, c_byteOf v (show o < 4 by omega), c_byteOf v (show k < 4 by omega)]
      rw [if_neg (by omega), if_pos]
      · unfold anyb; rw [he, decide_eq_true ho']; rfl
      · unfold fc at hp; simp only [decide_eq_true_iff] at hp; omega
    · intro he K
      simp (maxSteps := 1000000) (disch := omega) only [f_M_hasTwice_B12, l1_m, l1_a, l1_b, l1_s, l1_e, l1_le, l1_ge, l1_lt, l1_gt, lt_t, nn_t, bd_t, bdD_t, bdP_t, nI_clamp, gi_n, nI_add, nI_1, pk_mul, b2_eq0, b2_01, nb_t, if_true, if_false, ni_le, ni_eq, ni_lt]
      rw [if_pos (Nat.le_refl _)]
      unfold anyb; rw [he, decide_eq_false (Nat.lt_irrefl _)]; rfl
  unfold f_M_hasTwice
  rw [twK_any]
  refine itr_f (B := f_M_hasTwice_B2 S d) (fun k K => K v (nI k)) (fun k => anyb (fun o => decide (fc v o = fc v k)) k) (ln v) _ (by omega) ?_ ?_ ?_
  · intro k hk hp K hK
    simp (maxSteps := 1000000) (disch := omega) only [f_M_hasTwice_B2, l0_e, l0_le, l0_ge, l0_lt, l0_gt, lt_t, nn_t, bd_t, bdD_t, bdP_t, nI_clamp, gi_n, nI_add, nI_1, pk_mul, b2_eq0, b2_01, nb_t, if_true, if_false, ni_le, ni_eq, ni_lt, c_lengthOf v]
    rw [if_neg (by omega), inn k hk, hp, if_neg (by decide)]
    simp (maxSteps := 1000000) (disch := omega) only [f_M_hasTwice_J38, l1_m, l1_a, l1_b, l1_s, l1_e, l1_le, l1_ge, l1_lt, l1_gt, lt_t, nn_t, bd_t, bdD_t, bdP_t, nI_clamp, gi_n, nI_add, nI_1, pk_mul, b2_eq0, b2_01, nb_t, if_true, if_false, ni_le, ni_eq, ni_lt]
    exact hK
  · intro k hk hp he K
    simp (maxSteps := 1000000) (disch := omega) only [f_M_hasTwice_B2, l0_e, l0_le, l0_ge, l0_lt, l0_gt, lt_t, nn_t, bd_t, bdD_t, bdP_t, nI_clamp, gi_n, nI_add, nI_1, pk_mul, b2_eq0, b2_01, nb_t, if_true, if_false, ni_le, ni_eq, ni_lt, c_lengthOf v]
    rw [if_neg (by omega), inn k hk, hp, if_pos rfl]
    unfold anyb at he ⊢; rw [he, decide_eq_true hk]; rfl
  · intro he K
    simp (maxSteps := 1000000) (disch := omega) only [f_M_hasTwice_B2, l0_e, l0_le, l0_ge, l0_lt, l0_gt, lt_t, nn_t, bd_t, bdD_t, bdP_t, nI_clamp, gi_n, nI_add, nI_1, pk_mul, b2_eq0, b2_01, nb_t, if_true, if_false, ni_le, ni_eq, ni_lt, c_lengthOf v]
    rw [if_pos (Nat.le_refl _)]
    unfold anyb at he ⊢; rw [he, decide_eq_false (Nat.lt_irrefl _)]; rfl
def pkF (s : Nat → Nat → Nat) (v : Int32) : Nat := if fst (fun k => decide (s 9 (fc v k) = 0)) (ln v) < ln v then s 8 (fc v (fst (fun k => decide (s 9 (fc v k) = 0)) (ln v))) else 4
theorem c_packageOf (h : CS S x) (F : CF S d x s A) (b : BI s) {v : Int32} (ho : okL s v) : f_M_packageOf S d x v = some (nI (pkF s v)) := by
  have hln := ln_le v
  have hF := b.faces
  have e1 : ∀ k, k < ln v → nI (ub v k) - 24 = nI (fc v k) := by
    intro k hk
    have := ho k hk
    rw [l24_s _ (by omega)]; rfl
  have lf : ∀ k, k < ln v → fc v k < s 5 0 := fun k hk => by have := ho k hk; unfold fc; omega
  unfold f_M_packageOf
  refine itr_f (B := f_M_packageOf_B2 S d x (f_M_packageOf_J31 S d x)) (fun k K => K v (nI k)) (fun k => decide (s 9 (fc v k) = 0)) (ln v) _ (by omega) ?_ ?_ ?_
  · intro k hk hp K hK
    have hfc := lf k hk
    have f := F.2.1 _ hfc
    have h9 := b.faceOpen (fc v k)
    simp (maxSteps := 1000000) (disch := omega) only [f_M_packageOf_B2, kd_t (cs_K0 h), cs_P0_0 h, kd_t (cs_K1 h), cs_P1_0 h, kd_t (cs_K2 h), cs_N2 h, cs_P0_1 h, kd_t (cs_K3 h), cs_N3 h, cs_P0_3 h, kd_t (cs_K4 h), cs_N4 h, cs_P0_5 h, kd_t (cs_K5 h), cs_N5 h, cs_P0_6 h, kd_t (cs_K6 h), cs_N6 h, cs_P0_8 h, kd_t (cs_K7 h), cs_N7 h, cs_P0_9 h, kd_t (cs_K8 h), cs_N8 h, cs_P0_11 h, kd_t (cs_K9 h), cs_P9_0 h, cs_P9_1 h, kd_t (cs_K10 h), cs_N10 h, cs_P9_3 h, kd_t (cs_K11 h), cs_P11_0 h, kd_t (cs_K12 h), cs_N12 h, cs_P0_12 h, kd_t (cs_K13 h), cs_P13_0 h, kd_t (cs_K14 h), cs_N14 h, cs_P13_2 h, kd_t (cs_K15 h), cs_N15 h, cs_P13_4 h, kd_t (cs_K16 h), cs_N16 h, cs_P0_16 h, kd_t (cs_K17 h), cs_N17 h, cs_P0_17 h, kd_t (cs_K18 h), cs_N18 h, cs_P7_0 h, cs_P7_1 h, cs_P7_2 h, l0_e, l0_le, l0_ge, l0_lt, l0_gt, l1_m, l1_a, l1_b, l1_s, l1_e, l1_le, l1_ge, l1_lt, l1_gt, l4_m, l4_a, l4_b, l4_s, l4_e, l4_le, l4_ge, l4_lt, l4_gt, l24_m, l24_a, l24_b, l24_s, l24_e, l24_le, l24_ge, l24_lt, l24_gt, lt_t, nn_t, bd_t, bdD_t, bdP_t, nI_clamp, gi_n, nI_add, nI_1, pk_mul, b2_eq0, b2_01, nb_t, if_true, if_false, ni_le, ni_eq, ni_lt, c_lengthOf v, c_byteOf v (show k < 4 by omega), e1 k hk, f.p, kd_t f.sh.k, f.g3]
    rw [if_neg (by omega), if_neg (by simpa using hp)]; exact hK
  · intro k hk hp he K
    have hfc := lf k hk
    have f := F.2.1 _ hfc
    have h9 := b.faceOpen (fc v k)
    simp (maxSteps := 1000000) (disch := omega) only [f_M_packageOf_B2, f_M_packageOf_J31, kd_t (cs_K0 h), cs_P0_0 h, kd_t (cs_K1 h), cs_P1_0 h, kd_t (cs_K2 h), cs_N2 h, cs_P0_1 h, kd_t (cs_K3 h), cs_N3 h, cs_P0_3 h, kd_t (cs_K4 h), cs_N4 h, cs_P0_5 h, kd_t (cs_K5 h), cs_N5 h, cs_P0_6 h, kd_t (cs_K6 h), cs_N6 h, cs_P0_8 h, kd_t (cs_K7 h), cs_N7 h, cs_P0_9 h, kd_t (cs_K8 h), cs_N8 h, cs_P0_11 h, kd_t (cs_K9 h), cs_P9_0 h, cs_P9_1 h, kd_t (cs_K10 h), cs_N10 h, cs_P9_3 h, kd_t (cs_K11 h), cs_P11_0 h, kd_t (cs_K12 h), cs_N12 h, cs_P0_12 h, kd_t (cs_K13 h), cs_P13_0 h, kd_t (cs_K14 h), cs_N14 h, cs_P13_2 h, kd_t (cs_K15 h), cs_N15 h, cs_P13_4 h, kd_t (cs_K16 h), cs_N16 h, cs_P0_16 h, kd_t (cs_K17 h), cs_N17 h, cs_P0_17 h, kd_t (cs_K18 h), cs_N18 h, cs_P7_0 h, cs_P7_1 h, cs_P7_2 h, l0_e, l0_le, l0_ge, l0_lt, l0_gt, l1_m, l1_a, l1_b, l1_s, l1_e, l1_le, l1_ge, l1_lt, l1_gt, l4_m, l4_a, l4_b, l4_s, l4_e, l4_le, l4_ge, l4_lt, l4_gt, l24_m, l24_a, l24_b, l24_s, l24_e, l24_le, l24_ge, l24_lt, l24_gt, lt_t, nn_t, bd_t, bdD_t, bdP_t, nI_clamp, gi_n, nI_add, nI_1, pk_mul, b2_eq0, b2_01, nb_t, if_true, if_false, ni_le, ni_eq, ni_lt, c_lengthOf v, c_byteOf v (show k < 4 by omega), e1 k hk, f.p, kd_t f.sh.k, f.g3, f.g2]
    rw [if_neg (by omega), if_pos (by simpa using hp)]
    unfold pkF; rw [he, if_pos hk]
  · intro he K
    simp (maxSteps := 1000000) (disch := omega) only [f_M_packageOf_B2, kd_t (cs_K0 h), cs_P0_0 h, kd_t (cs_K1 h), cs_P1_0 h, kd_t (cs_K2 h), cs_N2 h, cs_P0_1 h, kd_t (cs_K3 h), cs_N3 h, cs_P0_3 h, kd_t (cs_K4 h), cs_N4 h, cs_P0_5 h, kd_t (cs_K5 h), cs_N5 h, cs_P0_6 h, kd_t (cs_K6 h), cs_N6 h, cs_P0_8 h, kd_t (cs_K7 h), cs_N7 h, cs_P0_9 h, kd_t (cs_K8 h), cs_N8 h, cs_P0_11 h, kd_t (cs_K9 h), cs_P9_0 h, cs_P9_1 h, kd_t (cs_K10 h), cs_N10 h, cs_P9_3 h, kd_t (cs_K11 h), cs_P11_0 h, kd_t (cs_K12 h), cs_N12 h, cs_P0_12 h, kd_t (cs_K13 h), cs_P13_0 h, kd_t (cs_K14 h), cs_N14 h, cs_P13_2 h, kd_t (cs_K15 h), cs_N15 h, cs_P13_4 h, kd_t (cs_K16 h), cs_N16 h, cs_P0_16 h, kd_t (cs_K17 h), cs_N17 h, cs_P0_17 h, kd_t (cs_K18 h), cs_N18 h, cs_P7_0 h, cs_P7_1 h, cs_P7_2 h, l0_e, l0_le, l0_ge, l0_lt, l0_gt, l1_m, l1_a, l1_b, l1_s, l1_e, l1_le, l1_ge, l1_lt, l1_gt, l4_m, l4_a, l4_b, l4_s, l4_e, l4_le, l4_ge, l4_lt, l4_gt, l24_m, l24_a, l24_b, l24_s, l24_e, l24_le, l24_ge, l24_lt, l24_gt, lt_t, nn_t, bd_t, bdD_t, bdP_t, nI_clamp, gi_n, nI_add, nI_1, pk_mul, b2_eq0, b2_01, nb_t, if_true, if_false, ni_le, ni_eq, ni_lt, c_lengthOf v]
    rw [if_pos (Nat.le_refl _)]
    unfold pkF; rw [he, if_neg (Nat.lt_irrefl _)]; rfl
theorem c_twoPackages (h : CS S x) (F : CF S d x s A) (b : BI s) {v : Int32} (ho : okL s v) : f_M_isInTwoPackages S d x v = some (b2 (anyb (fun k => decide (s 9 (fc v k) = 0) && !decide (s 8 (fc v k) = pkF s v)) (ln v))) := by
  have hln := ln_le v
  have hF := b.faces
  have e1 : ∀ k, k < ln v → nI (ub v k) - 24 = nI (fc v k) := by
    intro k hk
    have := ho k hk
    rw [l24_s _ (by omega)]; rfl
  have lf : ∀ k, k < ln v → fc v k < s 5 0 := fun k hk => by have := ho k hk; unfold fc; omega
  have hpk : pkF s v < 2 ^ 31 := by
    unfold pkF
    split
    · exact b.lt 8 _
    · omega
  simp (maxSteps := 1000000) (disch := omega) only [f_M_isInTwoPackages, kd_t (cs_K0 h), cs_P0_0 h, kd_t (cs_K1 h), cs_P1_0 h, kd_t (cs_K2 h), cs_N2 h, cs_P0_1 h, kd_t (cs_K3 h), cs_N3 h, cs_P0_3 h, kd_t (cs_K4 h), cs_N4 h, cs_P0_5 h, kd_t (cs_K5 h), cs_N5 h, cs_P0_6 h, kd_t (cs_K6 h), cs_N6 h, cs_P0_8 h, kd_t (cs_K7 h), cs_N7 h, cs_P0_9 h, kd_t (cs_K8 h), cs_N8 h, cs_P0_11 h, kd_t (cs_K9 h), cs_P9_0 h, cs_P9_1 h, kd_t (cs_K10 h), cs_N10 h, cs_P9_3 h, kd_t (cs_K11 h), cs_P11_0 h, kd_t (cs_K12 h), cs_N12 h, cs_P0_12 h, kd_t (cs_K13 h), cs_P13_0 h, kd_t (cs_K14 h), cs_N14 h, cs_P13_2 h, kd_t (cs_K15 h), cs_N15 h, cs_P13_4 h, kd_t (cs_K16 h), cs_N16 h, cs_P0_16 h, kd_t (cs_K17 h), cs_N17 h, cs_P0_17 h, kd_t (cs_K18 h), cs_N18 h, cs_P7_0 h, cs_P7_1 h, cs_P7_2 h, l0_e, l0_le, l0_ge, l0_lt, l0_gt, lt_t, nn_t, bd_t, bdD_t, bdP_t, nI_clamp, gi_n, nI_add, nI_1, pk_mul, b2_eq0, b2_01, nb_t, if_true, if_false, ni_le, ni_eq, ni_lt, c_packageOf h F b ho]
  refine itr_f (B := f_M_isInTwoPackages_B8 S d x) (fun k K => K v (nI (pkF s v)) (nI k)) (fun k => decide (s 9 (fc v k) = 0) && !decide (s 8 (fc v k) = pkF s v)) (ln v) _ (by omega) ?_ ?_ ?_
  · intro k hk hp K hK
    have hfc := lf k hk
    have f := F.2.1 _ hfc
    have h9 := b.faceOpen (fc v k)
    have h8 := b.lt 8 (fc v k)
    simp (maxSteps := 1000000) (disch := omega) only [f_M_isInTwoPackages_B8, f_M_isInTwoPackages_J50, kd_t (cs_K0 h), cs_P0_0 h, kd_t (cs_K1 h), cs_P1_0 h, kd_t (cs_K2 h), cs_N2 h, cs_P0_1 h, kd_t (cs_K3 h), cs_N3 h, cs_P0_3 h, kd_t (cs_K4 h), cs_N4 h, cs_P0_5 h, kd_t (cs_K5 h), cs_N5 h, cs_P0_6 h, kd_t (cs_K6 h), cs_N6 h, cs_P0_8 h, kd_t (cs_K7 h), cs_N7 h, cs_P0_9 h, kd_t (cs_K8 h), cs_N8 h, cs_P0_11 h, kd_t (cs_K9 h), cs_P9_0 h, cs_P9_1 h, kd_t (cs_K10 h), cs_N10 h, cs_P9_3 h, kd_t (cs_K11 h), cs_P11_0 h, kd_t (cs_K12 h), cs_N12 h, cs_P0_12 h, kd_t (cs_K13 h), cs_P13_0 h, kd_t (cs_K14 h), cs_N14 h, cs_P13_2 h, kd_t (cs_K15 h), cs_N15 h, cs_P13_4 h, kd_t (cs_K16 h), cs_N16 h, cs_P0_16 h, kd_t (cs_K17 h), cs_N17 h, cs_P0_17 h, kd_t (cs_K18 h), cs_N18 h, cs_P7_0 h, cs_P7_1 h, cs_P7_2 h, l0_e, l0_le, l0_ge, l0_lt, l0_gt, l1_m, l1_a, l1_b, l1_s, l1_e, l1_le, l1_ge, l1_lt, l1_gt, l24_m, l24_a, l24_b, l24_s, l24_e, l24_le, l24_ge, l24_lt, l24_gt, lt_t, nn_t, bd_t, bdD_t, bdP_t, nI_clamp, gi_n, nI_add, nI_1, pk_mul, b2_eq0, b2_01, nb_t, if_true, if_false, ni_le, ni_eq, ni_lt, c_lengthOf v, c_byteOf v (show k < 4 by omega), e1 k hk, f.p, kd_t f.sh.k, f.g3, f.g2]
    rw [if_neg (by omega)]
    by_cases q1 : s 9 (fc v k) = 0
    · rw [if_pos q1]
      by_cases q2 : s 8 (fc v k) = pkF s v
      · rw [if_pos q2]; exact hK
      · simp [q1, q2] at hp
    · rw [if_neg q1]; exact hK
  · intro k hk hp he K
    have hfc := lf k hk
    have f := F.2.1 _ hfc
    have h9 := b.faceOpen (fc v k)
    have h8 := b.lt 8 (fc v k)
    simp (maxSteps := 1000000) (disch := omega) only [f_M_isInTwoPackages_B8, f_M_isInTwoPackages_J50, kd_t (cs_K0 h), cs_P0_0 h, kd_t (cs_K1 h), cs_P1_0 h, kd_t (cs_K2 h), cs_N2 h, cs_P0_1 h, kd_t (cs_K3 h), cs_N3 h, cs_P0_3 h, kd_t (cs_K4 h), cs_N4 h, cs_P0_5 h, kd_t (cs_K5 h), cs_N5 h, cs_P0_6 h, kd_t (cs_K6 h), cs_N6 h, cs_P0_8 h, kd_t (cs_K7 h), cs_N7 h, cs_P0_9 h, kd_t (cs_K8 h), cs_N8 h, cs_P0_11 h, kd_t (cs_K9 h), cs_P9_0 h, cs_P9_1 h, kd_t (cs_K10 h), cs_N10 h, cs_P9_3 h, kd_t (cs_K11 h), cs_P11_0 h, kd_t (cs_K12 h), cs_N12 h, cs_P0_12 h, kd_t (cs_K13 h), cs_P13_0 h, kd_t (cs_K14 h), cs_N14 h, cs_P13_2 h, kd_t (cs_K15 h), cs_N15 h, cs_P13_4 h, kd_t (cs_K16 h), cs_N16 h, cs_P0_16 h, kd_t (cs_K17 h), cs_N17 h, cs_P0_17 h, kd_t (cs_K18 h), cs_N18 h, cs_P7_0 h, cs_P7_1 h, cs_P7_2 h, l0_e, l0_le, l0_ge, l0_lt, l0_gt, l1_m, l1_a, l1_b, l1_s, l1_e, l1_le, l1_ge, l1_lt, l1_gt, l24_m, l24_a, l24_b, l24_s, l24_e, l24_le, l24_ge, l24_lt, l24_gt, lt_t, nn_t, bd_t, bdD_t, bdP_t, nI_clamp, gi_n, nI_add, nI_1, pk_mul, b2_eq0, b2_01, nb_t, if_true, if_false, ni_le, ni_eq, ni_lt, c_lengthOf v, c_byteOf v (show k < 4 by omega), e1 k hk, f.p, kd_t f.sh.k, f.g3, f.g2]
    rw [Bool.and_eq_true, decide_eq_true_iff, Bool.not_eq_true', decide_eq_false_iff_not] at hp
    rw [if_neg (by omega), if_pos hp.1, if_neg hp.2]
    unfold anyb; rw [he, decide_eq_true hk]; rfl
  · intro he K
    simp (maxSteps := 1000000) (disch := omega) only [f_M_isInTwoPackages_B8, kd_t (cs_K0 h), cs_P0_0 h, kd_t (cs_K1 h), cs_P1_0 h, kd_t (cs_K2 h), cs_N2 h, cs_P0_1 h, kd_t (cs_K3 h), cs_N3 h, cs_P0_3 h, kd_t (cs_K4 h), cs_N4 h, cs_P0_5 h, kd_t (cs_K5 h), cs_N5 h, cs_P0_6 h, kd_t (cs_K6 h), cs_N6 h, cs_P0_8 h, kd_t (cs_K7 h), cs_N7 h, cs_P0_9 h, kd_t (cs_K8 h), cs_N8 h, cs_P0_11 h, kd_t (cs_K9 h), cs_P9_0 h, cs_P9_1 h, kd_t (cs_K10 h), cs_N10 h, cs_P9_3 h, kd_t (cs_K11 h), cs_P11_0 h, kd_t (cs_K12 h), cs_N12 h, cs_P0_12 h, kd_t (cs_K13 h), cs_P13_0 h, kd_t (cs_K14 h), cs_N14 h, cs_P13_2 h, kd_t (cs_K15 h), cs_N15 h, cs_P13_4 h, kd_t (cs_K16 h), cs_N16 h, cs_P0_16 h, kd_t (cs_K17 h), cs_N17 h, cs_P0_17 h, kd_t (cs_K18 h), cs_N18 h, cs_P7_0 h, cs_P7_1 h, cs_P7_2 h, l0_e, l0_le, l0_ge, l0_lt, l0_gt, l1_m, l1_a, l1_b, l1_s, l1_e, l1_le, l1_ge, l1_lt, l1_gt, l24_m, l24_a, l24_b, l24_s, l24_e, l24_le, l24_ge, l24_lt, l24_gt, lt_t, nn_t, bd_t, bdD_t, bdP_t, nI_clamp, gi_n, nI_add, nI_1, pk_mul, b2_eq0, b2_01, nb_t, if_true, if_false, ni_le, ni_eq, ni_lt, c_lengthOf v]
    rw [if_pos (Nat.le_refl _)]
    unfold anyb; rw [he, decide_eq_false (Nat.lt_irrefl _)]; rfl
theorem fst_suc (p : Nat → Bool) (n : Nat) : fst p (n + 1) = if fst p n < n then fst p n else if p n then n else n + 1 := rfl
def pkG (s : Nat → Nat → Nat) (v : Int32) (n : Nat) : Nat := if fst (fun k => decide (s 9 (fc v k) = 0)) n < n then s 8 (fc v (fst (fun k => decide (s 9 (fc v k) = 0)) n)) else 4
theorem pk_all (b : BI s) {v : Int32} (ho : okL s v) : ∀ n, n ≤ ln v → (mxK s v n = true → ∃ k, k < n ∧ s 9 (fc v k) = 0 ∧ s 8 (fc v k) ≠ pkG s v n) ∧ (mxK s v n = false → (∀ k, k < n → s 9 (fc v k) = 0 → s 8 (fc v k) = pkG s v n) ∧ pkK s v n = pkG s v n) ∧ ((∃ k, k < n ∧ s 9 (fc v k) = 0) ↔ pkG s v n < 4) := by
  intro n
  induction n with
  | zero => intro _; exact ⟨fun h => absurd (show false = true from h) (by decide), fun _ => ⟨fun k hk => absurd hk (Nat.not_lt_zero _), rfl⟩, ⟨fun ⟨k, hk, _⟩ => absurd hk (Nat.not_lt_zero _), fun h => absurd (show 4 < 4 from h) (by decide)⟩⟩
  | succ n ih =>
    intro hn
    obtain ⟨i1, i2, i3⟩ := ih (by omega)
    have hfc : fc v n < s 5 0 := by have := ho n (by omega); unfold fc; omega
    have h8 := b.facePack (fc v n) hfc
    have hle := fst_le (fun k => decide (s 9 (fc v k) = 0)) n
    -- pkG at n + 1
    have eG : pkG s v (n + 1) = if pkG s v n < 4 then pkG s v n else if s 9 (fc v n) = 0 then s 8 (fc v n) else 4 := by
      by_cases q : fst (fun k => decide (s 9 (fc v k) = 0)) n < n
      · have y := fst_yes _ _ q
        have g4 : pkG s v n < 4 := i3.mp ⟨_, q, by simpa using y⟩
        rw [if_pos g4]
        unfold pkG
        rw [fst_suc, if_pos q, if_pos (by omega), if_pos q]
      · have g4 : ¬ pkG s v n < 4 := by unfold pkG; rw [if_neg q]; omega
        rw [if_neg g4]
        have e1 : fst (fun k => decide (s 9 (fc v k) = 0)) (n + 1) = if s 9 (fc v n) = 0 then n else n + 1 := by rw [fst_suc, if_neg q]; simp only [decide_eq_true_iff]
        unfold pkG
        by_cases r : s 9 (fc v n) = 0
        · rw [if_pos r] at e1
          rw [e1, if_pos (Nat.lt_succ_self n), if_pos r]
        · rw [if_neg r] at e1
          rw [e1, if_neg (Nat.lt_irrefl _), if_neg r]
    have hlt : ∀ k, k < n → s 9 (fc v k) = 0 → pkG s v n < 4 := fun k hk h9 => i3.mp ⟨k, hk, h9⟩
    refine ⟨fun hm => ?_, fun hm => ?_, ?_⟩
    · unfold mxK at hm
      rw [Bool.or_eq_true] at hm
      rcases hm with hm | hm
      · obtain ⟨k, k1, k2, k3⟩ := i1 hm
        exact ⟨k, by omega, k2, by rw [eG, if_pos (hlt k k1 k2)]; exact k3⟩
      · rw [Bool.and_eq_true, Bool.and_eq_true, decide_eq_true_iff, decide_eq_true_iff, decide_eq_true_iff] at hm
        obtain ⟨m1, m2, m3⟩ := hm
        by_cases c : mxK s v n = true
        · obtain ⟨k, k1, k2, k3⟩ := i1 c
          exact ⟨k, by omega, k2, by rw [eG, if_pos (hlt k k1 k2)]; exact k3⟩
        · have e := (i2 (by simpa using c)).2
          rw [e] at m2 m3
          exact ⟨n, by omega, m1, by rw [eG, if_pos m2]; exact fun q => m3 q.symm⟩
    · unfold mxK at hm
      rw [Bool.or_eq_false_iff] at hm
      obtain ⟨m1, m2⟩ := hm
      obtain ⟨j1, j2⟩ := i2 m1
      refine ⟨fun k hk h9 => ?_, ?_⟩
      · by_cases c : k = n
        · subst c
          rw [eG]
          by_cases g4 : pkG s v k < 4
          · rw [if_pos g4]
            rw [h9, decide_eq_true rfl, Bool.true_and, j2, decide_eq_true g4, Bool.true_and, decide_eq_false_iff_not] at m2
            omega
          · rw [if_neg g4, if_pos h9]
        · rw [eG, if_pos (hlt k (by omega) h9)]
          exact j1 k (by omega) h9
      · unfold pkK
        rw [eG, j2]
        by_cases r : s 9 (fc v n) = 0
        · rw [if_pos r, if_pos r]
          by_cases g4 : pkG s v n < 4
          · rw [if_pos g4]
            rw [r, decide_eq_true rfl, Bool.true_and, j2, decide_eq_true g4, Bool.true_and, decide_eq_false_iff_not] at m2
            omega
          · rw [if_neg g4]
        · rw [if_neg r, if_neg r]
          by_cases g4 : pkG s v n < 4
          · rw [if_pos g4]
          · rw [if_neg g4]
            unfold pkG at g4 ⊢
            by_cases q : fst (fun k => decide (s 9 (fc v k) = 0)) n < n
            · have y := fst_yes _ _ q
              exact absurd (hlt _ q (by simpa using y)) (by unfold pkG; exact g4)
            · rw [if_neg q]
    · rw [eG]
      constructor
      · rintro ⟨k, k1, k2⟩
        by_cases c : k = n
        · subst c
          by_cases g4 : pkG s v k < 4
          · rw [if_pos g4]; exact g4
          · rw [if_neg g4, if_pos k2]; exact h8
        · rw [if_pos (hlt k (by omega) k2)]; exact hlt k (by omega) k2
      · intro hh
        by_cases g4 : pkG s v n < 4
        · obtain ⟨k, k1, k2⟩ := i3.mpr g4
          exact ⟨k, by omega, k2⟩
        · rw [if_neg g4] at hh
          by_cases r : s 9 (fc v n) = 0
          · exact ⟨n, by omega, r⟩
          · rw [if_neg r] at hh; omega
theorem c_faultOfList (h : CS S x) (L : CL d x s) (F : CF S d x s A) (b : BI s) {v : Int32} (ho : okL s v) {l : Nat} (hl : l < s 1 0) : f_M_faultOfList S d x (nI l) v = some (nI (if fst (fun k => !vis s l (fc v k)) (ln v) < ln v then 1 else if twK v (ln v) then 2 else if mxK s v (ln v) then 3 else 0)) := by
  have hpa := pk_all b ho (ln v) (Nat.le_refl _)
  have epk : pkF s v = pkG s v (ln v) := rfl
  have emx : anyb (fun k => decide (s 9 (fc v k) = 0) && !decide (s 8 (fc v k) = pkF s v)) (ln v) = mxK s v (ln v) := by
    rw [Bool.eq_iff_iff, anyb_iff]
    constructor
    · rintro ⟨k, hk, hp⟩
      rw [Bool.and_eq_true, decide_eq_true_iff, Bool.not_eq_true', decide_eq_false_iff_not] at hp
      cases c : mxK s v (ln v) with
      | true => rfl
      | false => exact absurd ((hpa.2.1 c).1 k hk hp.1) hp.2
    · intro hm
      obtain ⟨k, k1, k2, k3⟩ := hpa.1 hm
      exact ⟨k, k1, by rw [decide_eq_true k2, epk, decide_eq_false k3]; rfl⟩
  simp (maxSteps := 1000000) (disch := omega) only [f_M_faultOfList, kd_t (cs_K0 h), cs_P0_0 h, kd_t (cs_K1 h), cs_P1_0 h, kd_t (cs_K2 h), cs_N2 h, cs_P0_1 h, kd_t (cs_K3 h), cs_N3 h, cs_P0_3 h, kd_t (cs_K4 h), cs_N4 h, cs_P0_5 h, kd_t (cs_K5 h), cs_N5 h, cs_P0_6 h, kd_t (cs_K6 h), cs_N6 h, cs_P0_8 h, kd_t (cs_K7 h), cs_N7 h, cs_P0_9 h, kd_t (cs_K8 h), cs_N8 h, cs_P0_11 h, kd_t (cs_K9 h), cs_P9_0 h, cs_P9_1 h, kd_t (cs_K10 h), cs_N10 h, cs_P9_3 h, kd_t (cs_K11 h), cs_P11_0 h, kd_t (cs_K12 h), cs_N12 h, cs_P0_12 h, kd_t (cs_K13 h), cs_P13_0 h, kd_t (cs_K14 h), cs_N14 h, cs_P13_2 h, kd_t (cs_K15 h), cs_N15 h, cs_P13_4 h, kd_t (cs_K16 h), cs_N16 h, cs_P0_16 h, kd_t (cs_K17 h), cs_N17 h, cs_P0_17 h, kd_t (cs_K18 h), cs_N18 h, cs_P7_0 h, cs_P7_1 h, cs_P7_2 h, l0_e, l0_le, l0_ge, l0_lt, l0_gt, l1_m, l1_a, l1_b, l1_s, l1_e, l1_le, l1_ge, l1_lt, l1_gt, l2_m, l2_a, l2_b, l2_s, l2_e, l2_le, l2_ge, l2_lt, l2_gt, l3_m, l3_a, l3_b, l3_s, l3_e, l3_le, l3_ge, l3_lt, l3_gt, lt_t, nn_t, bd_t, bdD_t, bdP_t, nI_clamp, gi_n, nI_add, nI_1, pk_mul, b2_eq0, b2_01, nb_t, if_true, if_false, ni_le, ni_eq, ni_lt, c_areVisible h L F b ho hl, c_hasTwice (fun k hk => (ho k hk).1), c_twoPackages h F b ho, emx]
  by_cases q1 : fst (fun k => !vis s l (fc v k)) (ln v) < ln v
  · rw [decide_eq_false (fun c => c q1), if_pos rfl, if_pos q1]; rfl
  · rw [decide_eq_true q1, if_neg (by decide), if_neg q1]
    cases twK v (ln v) with
    | true => rfl
    | false =>
      cases mxK s v (ln v) <;> rfl
end cls
