def CL (d : gD) (x : Nat) (s : Nat → Nat → Nat) : Prop := dI d x 2 = nI (s 1 0) ∧ dI d (x + 3) 0 = -1 ∧ ∀ i, 0 < i → i < s 1 0 → dI d (x + 3) i = nI (s 2 i)
def FCs (S : gS) (a : Nat) : Prop := (sK S a = 4) ∧ (sP S a 4 = some (a + 1)) ∧ (sK S (a + 1) = 50) ∧ (sN S (a + 1) = 2) ∧ (sP S a 6 = some (a + 2)) ∧ (sK S (a + 2) = 61) ∧ (sN S (a + 2) = 6) ∧ (sP S a 8 = some (a + 3)) ∧ (sK S (a + 3) = 61) ∧ (sN S (a + 3) = 72)
theorem FCs.k {S : gS} {a : Nat} (h : FCs S a) : sK S a = 4 := h.1
theorem FCs.p4 {S : gS} {a : Nat} (h : FCs S a) : sP S a 4 = some (a + 1) := h.2.1
theorem FCs.k1 {S : gS} {a : Nat} (h : FCs S a) : sK S (a + 1) = 50 := h.2.2.1
theorem FCs.n1 {S : gS} {a : Nat} (h : FCs S a) : sN S (a + 1) = 2 := h.2.2.2.1
theorem FCs.p6 {S : gS} {a : Nat} (h : FCs S a) : sP S a 6 = some (a + 2) := h.2.2.2.2.1
theorem FCs.k2 {S : gS} {a : Nat} (h : FCs S a) : sK S (a + 2) = 61 := h.2.2.2.2.2.1
theorem FCs.n2 {S : gS} {a : Nat} (h : FCs S a) : sN S (a + 2) = 6 := h.2.2.2.2.2.2.1
theorem FCs.p8 {S : gS} {a : Nat} (h : FCs S a) : sP S a 8 = some (a + 3) := h.2.2.2.2.2.2.2.1
theorem FCs.k3 {S : gS} {a : Nat} (h : FCs S a) : sK S (a + 3) = 61 := h.2.2.2.2.2.2.2.2.1
theorem FCs.n3 {S : gS} {a : Nat} (h : FCs S a) : sN S (a + 3) = 72 := h.2.2.2.2.2.2.2.2.2
def FC (S : gS) (d : gD) (x : Nat) (s : Nat → Nat → Nat) (A : Nat → Nat → Nat) (f : Nat) : Prop := (sP S (x + 4) f = some (A 0 f)) ∧ (x + 64 < A 0 f) ∧ (A 0 f + 3 < sZ S) ∧ (FCs S (A 0 f)) ∧ (dI d (A 0 f) 0 = nI (s 6 f)) ∧ (dI d (A 0 f) 1 = nI (s 7 f)) ∧ (dI d (A 0 f) 2 = nI (s 8 f)) ∧ (dI d (A 0 f) 3 = nI (s 9 f)) ∧ (dI d (A 0 f) 5 = nI (s 11 f)) ∧ (∀ p, p < s 11 f → dI d (A 0 f + 1) p = nI (24 + s 10 (2 * f + p))) ∧ (dI d (A 0 f) 7 = nI (s 12 f)) ∧ (∀ k, k < s 12 f → sP S (A 0 f + 2) k = some (A 1 (6 * f + k)))
theorem FC.p {S : gS} {d : gD} {x : Nat} {s : Nat → Nat → Nat} {A : Nat → Nat → Nat} {f : Nat} (h : FC S d x s A f) : sP S (x + 4) f = some (A 0 f) := h.1
theorem FC.lo {S : gS} {d : gD} {x : Nat} {s : Nat → Nat → Nat} {A : Nat → Nat → Nat} {f : Nat} (h : FC S d x s A f) : x + 64 < A 0 f := h.2.1
theorem FC.hi {S : gS} {d : gD} {x : Nat} {s : Nat → Nat → Nat} {A : Nat → Nat → Nat} {f : Nat} (h : FC S d x s A f) : A 0 f + 3 < sZ S := h.2.2.1
theorem FC.sh {S : gS} {d : gD} {x : Nat} {s : Nat → Nat → Nat} {A : Nat → Nat → Nat} {f : Nat} (h : FC S d x s A f) : FCs S (A 0 f) := h.2.2.2.1
theorem FC.g0 {S : gS} {d : gD} {x : Nat} {s : Nat → Nat → Nat} {A : Nat → Nat → Nat} {f : Nat} (h : FC S d x s A f) : dI d (A 0 f) 0 = nI (s 6 f) := h.2.2.2.2.1
theorem FC.g1 {S : gS} {d : gD} {x : Nat} {s : Nat → Nat → Nat} {A : Nat → Nat → Nat} {f : Nat} (h : FC S d x s A f) : dI d (A 0 f) 1 = nI (s 7 f) := h.2.2.2.2.2.1
theorem FC.g2 {S : gS} {d : gD} {x : Nat} {s : Nat → Nat → Nat} {A : Nat → Nat → Nat} {f : Nat} (h : FC S d x s A f) : dI d (A 0 f) 2 = nI (s 8 f) := h.2.2.2.2.2.2.1
theorem FC.g3 {S : gS} {d : gD} {x : Nat} {s : Nat → Nat → Nat} {A : Nat → Nat → Nat} {f : Nat} (h : FC S d x s A f) : dI d (A 0 f) 3 = nI (s 9 f) := h.2.2.2.2.2.2.2.1
theorem FC.g5 {S : gS} {d : gD} {x : Nat} {s : Nat → Nat → Nat} {A : Nat → Nat → Nat} {f : Nat} (h : FC S d x s A f) : dI d (A 0 f) 5 = nI (s 11 f) := h.2.2.2.2.2.2.2.2.1
theorem FC.gp {S : gS} {d : gD} {x : Nat} {s : Nat → Nat → Nat} {A : Nat → Nat → Nat} {f : Nat} (h : FC S d x s A f) : ∀ p, p < s 11 f → dI d (A 0 f + 1) p = nI (24 + s 10 (2 * f + p)) := h.2.2.2.2.2.2.2.2.2.1
theorem FC.g7 {S : gS} {d : gD} {x : Nat} {s : Nat → Nat → Nat} {A : Nat → Nat → Nat} {f : Nat} (h : FC S d x s A f) : dI d (A 0 f) 7 = nI (s 12 f) := h.2.2.2.2.2.2.2.2.2.2.1
theorem FC.ow {S : gS} {d : gD} {x : Nat} {s : Nat → Nat → Nat} {A : Nat → Nat → Nat} {f : Nat} (h : FC S d x s A f) : ∀ k, k < s 12 f → sP S (A 0 f + 2) k = some (A 1 (6 * f + k)) := h.2.2.2.2.2.2.2.2.2.2.2
def CF (S : gS) (d : gD) (x : Nat) (s : Nat → Nat → Nat) (A : Nat → Nat → Nat) : Prop := dI d x 4 = nI (s 5 0) ∧ (∀ f, f < s 5 0 → FC S d x s A f) ∧ ∀ f g, f < g → g < s 5 0 → A 0 f + 3 < A 0 g
theorem o24_m1 {o : Option Nat} (h : ∀ k, o = some k → k < 100) : (o24 o = -1) = (o = none) := by
  cases o with
  | none => simp [o24]
  | some k =>
    have hk := h k rfl
    have : ¬ nI (24 + k) = -1 := by
      intro e
      have : (nI (24 + k)) < 0 := by rw [e]; decide
      exact nI_pos (by omega) this
    simp [o24, this]
theorem mk_12 {s : Nat → Nat → Nat} (b : BI s) {l : Nat} {nm pk : Int32} : ∀ k, mk s l nm pk = some k → k < 100 := by
  intro k hk
  have := fo_lt hk
  have := b.faces
  omega
theorem fnd_12 {s : Nat → Nat → Nat} (b : BI s) {l : Nat} {nm pk : Int32} : ∀ k, fnd s l nm pk = some k → k < 100 := by
  intro k hk
  have := fnd_lt hk
  have := b.faces
  omega
section cls
variable {S : gS} {d : gD} {x : Nat} {s : Nat → Nat → Nat} {A : Nat → Nat → Nat}
theorem c_isLoader (h : CS S x) (l : CL d x s) (v : Int32) : f_M_isLoader S d x v = some (b2 (cIn 0 (nI (s 1 0)) v)) := by
  simp (maxSteps := 1000000) (disch := omega) only [f_M_isLoader, kd_t (cs_K0 h), cs_P0_0 h, kd_t (cs_K1 h), cs_P1_0 h, kd_t (cs_K2 h), cs_N2 h, cs_P0_1 h, kd_t (cs_K3 h), cs_N3 h, cs_P0_3 h, kd_t (cs_K4 h), cs_N4 h, cs_P0_5 h, kd_t (cs_K5 h), cs_N5 h, cs_P0_6 h, kd_t (cs_K6 h), cs_N6 h, cs_P0_8 h, kd_t (cs_K7 h), cs_N7 h, cs_P0_9 h, kd_t (cs_K8 h), cs_N8 h, cs_P0_11 h, kd_t (cs_K9 h), cs_P9_0 h, cs_P9_1 h, kd_t (cs_K10 h), cs_N10 h, cs_P9_3 h, kd_t (cs_K11 h), cs_P11_0 h, kd_t (cs_K12 h), cs_N12 h, cs_P0_12 h, kd_t (cs_K13 h), cs_P13_0 h, kd_t (cs_K14 h), cs_N14 h, cs_P13_2 h, kd_t (cs_K15 h), cs_N15 h, cs_P13_4 h, kd_t (cs_K16 h), cs_N16 h, cs_P0_16 h, kd_t (cs_K17 h), cs_N17 h, cs_P0_17 h, kd_t (cs_K18 h), cs_N18 h, cs_P7_0 h, cs_P7_1 h, cs_P7_2 h, lt_t, nn_t, bd_t, bdD_t, bdP_t, nI_clamp, gi_n, nI_add, nI_1, pk_mul, b2_eq0, b2_01, nb_t, if_true, if_false, ni_le, ni_eq, ni_lt, l.1, c_within, nb_t (b2_01 _)]
theorem c_isFace (h : CS S x) (F : CF S d x s A) (v : Int32) : f_M_isFace S d x v = some (b2 (cIn 24 (nI (24 + s 5 0)) v)) := by
  simp only [f_M_isFace, kd_t (cs_K0 h), lt_t, F.1, show (24 : Int32) + nI (s 5 0) = nI (24 + s 5 0) from nI_add 24 _]
  exact cIn_i
theorem c_isClass (h : CS S x) (t : CT d x s) (v : Int32) : f_Ty_isClass S d (x + 1) v = some (b2 (cIn 8 (nI (s 3 0)) v)) := by
  simp only [f_Ty_isClass, kd_t (cs_K1 h), lt_t, t.1]
  exact cIn_i
theorem c_madeBy (h : CS S x) (F : CF S d x s A) (b : BI s) (l : Nat) (hl : l < 2 ^ 31) (nm pk : Int32) : f_M_faceMadeBy S d x (nI l) nm pk = some (o24 (mk s l nm pk)) := by
  have hf := b.faces
  unfold f_M_faceMadeBy
  refine itr_f (B := f_M_faceMadeBy_B3 S d x (f_M_faceMadeBy_J54 S d x)) (fun k K => K (nI l) nm pk (nI k)) (mkHit s l nm pk) (s 5 0) _ (by omega) ?_ ?_ ?_
  · intro k hk hp K hK
    have h6 := b.lt 6 k
    have f := F.2.1 k hk
    simp (maxSteps := 1000000) (disch := omega) only [f_M_faceMadeBy_B3, f_M_faceMadeBy_J60, kd_t (cs_K0 h), cs_P0_0 h, kd_t (cs_K1 h), cs_P1_0 h, kd_t (cs_K2 h), cs_N2 h, cs_P0_1 h, kd_t (cs_K3 h), cs_N3 h, cs_P0_3 h, kd_t (cs_K4 h), cs_N4 h, cs_P0_5 h, kd_t (cs_K5 h), cs_N5 h, cs_P0_6 h, kd_t (cs_K6 h), cs_N6 h, cs_P0_8 h, kd_t (cs_K7 h), cs_N7 h, cs_P0_9 h, kd_t (cs_K8 h), cs_N8 h, cs_P0_11 h, kd_t (cs_K9 h), cs_P9_0 h, cs_P9_1 h, kd_t (cs_K10 h), cs_N10 h, cs_P9_3 h, kd_t (cs_K11 h), cs_P11_0 h, kd_t (cs_K12 h), cs_N12 h, cs_P0_12 h, kd_t (cs_K13 h), cs_P13_0 h, kd_t (cs_K14 h), cs_N14 h, cs_P13_2 h, kd_t (cs_K15 h), cs_N15 h, cs_P13_4 h, kd_t (cs_K16 h), cs_N16 h, cs_P0_16 h, kd_t (cs_K17 h), cs_N17 h, cs_P0_17 h, kd_t (cs_K18 h), cs_N18 h, cs_P7_0 h, cs_P7_1 h, cs_P7_2 h, l1_m, l1_a, l1_b, l1_s, l1_e, l1_le, l1_ge, l1_lt, l1_gt, lt_t, nn_t, bd_t, bdD_t, bdP_t, nI_clamp, gi_n, nI_add, nI_1, pk_mul, b2_eq0, b2_01, nb_t, if_true, if_false, ni_le, ni_eq, ni_lt, F.1, f.p, kd_t f.sh.k, f.g0, f.g1, f.g2]
    rw [if_neg (by omega)]
    unfold mkHit at hp
    by_cases q1 : s 6 k = l
    · rw [if_pos q1]
      by_cases q2 : nI (s 7 k) = nm
      · rw [if_pos q2]
        by_cases q3 : nI (s 8 k) = pk
        · simp [q1, q2, q3] at hp
        · rw [if_neg q3]; exact hK
      · rw [if_neg q2]; exact hK
    · rw [if_neg q1]; exact hK
  · intro k hk hp he K
    have h6 := b.lt 6 k
    have f := F.2.1 k hk
    simp (maxSteps := 1000000) (disch := omega) only [f_M_faceMadeBy_B3, f_M_faceMadeBy_J60, f_M_faceMadeBy_J54, kd_t (cs_K0 h), cs_P0_0 h, kd_t (cs_K1 h), cs_P1_0 h, kd_t (cs_K2 h), cs_N2 h, cs_P0_1 h, kd_t (cs_K3 h), cs_N3 h, cs_P0_3 h, kd_t (cs_K4 h), cs_N4 h, cs_P0_5 h, kd_t (cs_K5 h), cs_N5 h, cs_P0_6 h, kd_t (cs_K6 h), cs_N6 h, cs_P0_8 h, kd_t (cs_K7 h), cs_N7 h, cs_P0_9 h, kd_t (cs_K8 h), cs_N8 h, cs_P0_11 h, kd_t (cs_K9 h), cs_P9_0 h, cs_P9_1 h, kd_t (cs_K10 h), cs_N10 h, cs_P9_3 h, kd_t (cs_K11 h), cs_P11_0 h, kd_t (cs_K12 h), cs_N12 h, cs_P0_12 h, kd_t (cs_K13 h), cs_P13_0 h, kd_t (cs_K14 h), cs_N14 h, cs_P13_2 h, kd_t (cs_K15 h), cs_N15 h, cs_P13_4 h, kd_t (cs_K16 h), cs_N16 h, cs_P0_16 h, kd_t (cs_K17 h), cs_N17 h, cs_P0_17 h, kd_t (cs_K18 h), cs_N18 h, cs_P7_0 h, cs_P7_1 h, cs_P7_2 h, l1_m, l1_a, l1_b, l1_s, l1_e, l1_le, l1_ge, l1_lt, l1_gt, l24_m, l24_a, l24_b, l24_s, l24_e, l24_le, l24_ge, l24_lt, l24_gt, lt_t, nn_t, bd_t, bdD_t, bdP_t, nI_clamp, gi_n, nI_add, nI_1, pk_mul, b2_eq0, b2_01, nb_t, if_true, if_false, ni_le, ni_eq, ni_lt, F.1, f.p, kd_t f.sh.k, f.g0, f.g1, f.g2]
    rw [if_neg (by omega)]
    simp only [mkHit, Bool.and_eq_true, decide_eq_true_iff] at hp
    rw [if_pos hp.1, if_pos hp.2.1, if_pos hp.2.2, mk, fo, he, if_pos hk]; rfl
  · intro he K
    simp (maxSteps := 1000000) (disch := omega) only [f_M_faceMadeBy_B3, kd_t (cs_K0 h), cs_P0_0 h, kd_t (cs_K1 h), cs_P1_0 h, kd_t (cs_K2 h), cs_N2 h, cs_P0_1 h, kd_t (cs_K3 h), cs_N3 h, cs_P0_3 h, kd_t (cs_K4 h), cs_N4 h, cs_P0_5 h, kd_t (cs_K5 h), cs_N5 h, cs_P0_6 h, kd_t (cs_K6 h), cs_N6 h, cs_P0_8 h, kd_t (cs_K7 h), cs_N7 h, cs_P0_9 h, kd_t (cs_K8 h), cs_N8 h, cs_P0_11 h, kd_t (cs_K9 h), cs_P9_0 h, cs_P9_1 h, kd_t (cs_K10 h), cs_N10 h, cs_P9_3 h, kd_t (cs_K11 h), cs_P11_0 h, kd_t (cs_K12 h), cs_N12 h, cs_P0_12 h, kd_t (cs_K13 h), cs_P13_0 h, kd_t (cs_K14 h), cs_N14 h, cs_P13_2 h, kd_t (cs_K15 h), cs_N15 h, cs_P13_4 h, kd_t (cs_K16 h), cs_N16 h, cs_P0_16 h, kd_t (cs_K17 h), cs_N17 h, cs_P0_17 h, kd_t (cs_K18 h), cs_N18 h, cs_P7_0 h, cs_P7_1 h, cs_P7_2 h, lt_t, nn_t, bd_t, bdD_t, bdP_t, nI_clamp, gi_n, nI_add, nI_1, pk_mul, b2_eq0, b2_01, nb_t, if_true, if_false, ni_le, ni_eq, ni_lt, F.1]
    rw [if_pos (Nat.le_refl _), mk, fo, he, if_neg (Nat.lt_irrefl _)]; rfl
theorem c_found_i (h : CS S x) (L : CL d x s) (F : CF S d x s A) (b : BI s) (nm pk : Int32) {z : Int32 → Int32 → Int32 → Int32 → Int32 → Option Int32} : ∀ n l y k, l + 1 < n → l < s 1 0 → l + k < 4 → itr (f_M_faceFoundBy_B9 S d x) z n nm pk (o24 y) (nI l) (nI k) = some (o24 (fndF s nm pk (l + 1) l y)) := by
  intro n
  induction n with
  | zero => intro l y k h; omega
  | succ n ih =>
    intro l y k hl hl2 hlk
    have hL := b.loaders
    rw [itr_s]
    have key : ∀ y, f_M_faceFoundBy_J44 S d x (itr (f_M_faceFoundBy_B9 S d x) z n) nm pk (nI l) (nI k) (o24 y) = some (o24 (if l = 0 then y else fndF s nm pk l (s 2 l) y)) := by
      intro y
      by_cases q : l = 0
      · subst q
        simp (maxSteps := 1000000) (disch := omega) only [f_M_faceFoundBy_J44, kd_t (cs_K0 h), cs_P0_0 h, kd_t (cs_K1 h), cs_P1_0 h, kd_t (cs_K2 h), cs_N2 h, cs_P0_1 h, kd_t (cs_K3 h), cs_N3 h, cs_P0_3 h, kd_t (cs_K4 h), cs_N4 h, cs_P0_5 h, kd_t (cs_K5 h), cs_N5 h, cs_P0_6 h, kd_t (cs_K6 h), cs_N6 h, cs_P0_8 h, kd_t (cs_K7 h), cs_N7 h, cs_P0_9 h, kd_t (cs_K8 h), cs_N8 h, cs_P0_11 h, kd_t (cs_K9 h), cs_P9_0 h, cs_P9_1 h, kd_t (cs_K10 h), cs_N10 h, cs_P9_3 h, kd_t (cs_K11 h), cs_P11_0 h, kd_t (cs_K12 h), cs_N12 h, cs_P0_12 h, kd_t (cs_K13 h), cs_P13_0 h, kd_t (cs_K14 h), cs_N14 h, cs_P13_2 h, kd_t (cs_K15 h), cs_N15 h, cs_P13_4 h, kd_t (cs_K16 h), cs_N16 h, cs_P0_16 h, kd_t (cs_K17 h), cs_N17 h, cs_P0_17 h, kd_t (cs_K18 h), cs_N18 h, cs_P7_0 h, cs_P7_1 h, cs_P7_2 h, l1_m, l1_a, l1_b, l1_s, l1_e, l1_le, l1_ge, l1_lt, l1_gt, lt_t, nn_t, bd_t, bdD_t, bdP_t, nI_clamp, gi_n, nI_add, nI_1, pk_mul, b2_eq0, b2_01, nb_t, if_true, if_false, ni_le, ni_eq, ni_lt, L.2.1]
        cases n with
        | zero => omega
        | succ n =>
          rw [itr_s]
          simp only [f_M_faceFoundBy_B9, if_true]
          split <;> rfl
      · have hp := b.parentL l (by omega) hl2
        simp (maxSteps := 1000000) (disch := omega) only [f_M_faceFoundBy_J44, kd_t (cs_K0 h), cs_P0_0 h, kd_t (cs_K1 h), cs_P1_0 h, kd_t (cs_K2 h), cs_N2 h, cs_P0_1 h, kd_t (cs_K3 h), cs_N3 h, cs_P0_3 h, kd_t (cs_K4 h), cs_N4 h, cs_P0_5 h, kd_t (cs_K5 h), cs_N5 h, cs_P0_6 h, kd_t (cs_K6 h), cs_N6 h, cs_P0_8 h, kd_t (cs_K7 h), cs_N7 h, cs_P0_9 h, kd_t (cs_K8 h), cs_N8 h, cs_P0_11 h, kd_t (cs_K9 h), cs_P9_0 h, cs_P9_1 h, kd_t (cs_K10 h), cs_N10 h, cs_P9_3 h, kd_t (cs_K11 h), cs_P11_0 h, kd_t (cs_K12 h), cs_N12 h, cs_P0_12 h, kd_t (cs_K13 h), cs_P13_0 h, kd_t (cs_K14 h), cs_N14 h, cs_P13_2 h, kd_t (cs_K15 h), cs_N15 h, cs_P13_4 h, kd_t (cs_K16 h), cs_N16 h, cs_P0_16 h, kd_t (cs_K17 h), cs_N17 h, cs_P0_17 h, kd_t (cs_K18 h), cs_N18 h, cs_P7_0 h, cs_P7_1 h, cs_P7_2 h, l1_m, l1_a, l1_b, l1_s, l1_e, l1_le, l1_ge, l1_lt, l1_gt, lt_t, nn_t, bd_t, bdD_t, bdP_t, nI_clamp, gi_n, nI_add, nI_1, pk_mul, b2_eq0, b2_01, nb_t, if_true, if_false, ni_le, ni_eq, ni_lt, L.2.2 l (by omega) hl2]
        rw [if_neg q, ih (s 2 l) y (k + 1) (by omega) (by omega) (by omega)]
        have := fndF_more s b nm pk (s 2 l + 1) (l - (s 2 l + 1)) (s 2 l) y (by omega) (by omega)
        rw [show s 2 l + 1 + (l - (s 2 l + 1)) = l by omega] at this
        rw [this]
    have hne : ¬ nI l = -1 := by
      intro e
      have : (nI l) < 0 := by rw [e]; decide
      exact nI_pos (by omega) this
    simp (maxSteps := 1000000) (disch := omega) only [f_M_faceFoundBy_B9, kd_t (cs_K0 h), cs_P0_0 h, kd_t (cs_K1 h), cs_P1_0 h, kd_t (cs_K2 h), cs_N2 h, cs_P0_1 h, kd_t (cs_K3 h), cs_N3 h, cs_P0_3 h, kd_t (cs_K4 h), cs_N4 h, cs_P0_5 h, kd_t (cs_K5 h), cs_N5 h, cs_P0_6 h, kd_t (cs_K6 h), cs_N6 h, cs_P0_8 h, kd_t (cs_K7 h), cs_N7 h, cs_P0_9 h, kd_t (cs_K8 h), cs_N8 h, cs_P0_11 h, kd_t (cs_K9 h), cs_P9_0 h, cs_P9_1 h, kd_t (cs_K10 h), cs_N10 h, cs_P9_3 h, kd_t (cs_K11 h), cs_P11_0 h, kd_t (cs_K12 h), cs_N12 h, cs_P0_12 h, kd_t (cs_K13 h), cs_P13_0 h, kd_t (cs_K14 h), cs_N14 h, cs_P13_2 h, kd_t (cs_K15 h), cs_N15 h, cs_P13_4 h, kd_t (cs_K16 h), cs_N16 h, cs_P0_16 h, kd_t (cs_K17 h), cs_N17 h, cs_P0_17 h, kd_t (cs_K18 h), cs_N18 h, cs_P7_0 h, cs_P7_1 h, cs_P7_2 h, l4_m, l4_a, l4_b, l4_s, l4_e, l4_le, l4_ge, l4_lt, l4_gt, lt_t, nn_t, bd_t, bdD_t, bdP_t, nI_clamp, gi_n, nI_add, nI_1, pk_mul, b2_eq0, b2_01, nb_t, if_true, if_false, ni_le, ni_eq, ni_lt, c_madeBy h F b, o24_m1 (mk_12 b), hne]
    rw [if_neg (by omega)]
    unfold fndF
    cases hm : mk s l nm pk with
    | none =>
      rw [if_pos rfl, key]
      by_cases q : l = 0
      · rw [if_pos q, if_pos q]; rfl
      · rw [if_neg q, if_neg q]; rfl
    | some f =>
      rw [if_neg (by simp), key]
      by_cases q : l = 0
      · rw [if_pos q, if_pos q]; rfl
      · rw [if_neg q, if_neg q]; rfl
theorem c_foundBy (h : CS S x) (L : CL d x s) (F : CF S d x s A) (b : BI s) (l : Nat) (hl : l < s 1 0) (nm pk : Int32) : f_M_faceFoundBy S d x (nI l) nm pk = some (o24 (fnd s l nm pk)) := by
  have hL := b.loaders
  unfold f_M_faceFoundBy
  have := c_found_i h L F b nm pk (z := fun _ _ _ _ _ => none) fu l none 0 (by show _ < 6000; omega) hl (by omega)
  have e := fndF_more s b nm pk (l + 1) (4 - (l + 1)) l none (by omega) (by omega)
  rw [show l + 1 + (4 - (l + 1)) = 4 by omega] at e
  rw [← e] at this
  exact this
theorem c_isVisible (h : CS S x) (L : CL d x s) (F : CF S d x s A) (b : BI s) (l f : Nat) (hl : l < s 1 0) (hf : f < s 5 0) : f_M_isVisible S d x (nI (24 + f)) (nI l) = some (b2 (vis s l f)) := by
  have hF := b.faces
  have fc := F.2.1 f hf
  have e1 : nI (24 + f) - 24 = nI f := by rw [l24_s _ (by omega)]; congr 1; omega
  simp (maxSteps := 1000000) (disch := omega) only [f_M_isVisible, kd_t (cs_K0 h), cs_P0_0 h, kd_t (cs_K1 h), cs_P1_0 h, kd_t (cs_K2 h), cs_N2 h, cs_P0_1 h, kd_t (cs_K3 h), cs_N3 h, cs_P0_3 h, kd_t (cs_K4 h), cs_N4 h, cs_P0_5 h, kd_t (cs_K5 h), cs_N5 h, cs_P0_6 h, kd_t (cs_K6 h), cs_N6 h, cs_P0_8 h, kd_t (cs_K7 h), cs_N7 h, cs_P0_9 h, kd_t (cs_K8 h), cs_N8 h, cs_P0_11 h, kd_t (cs_K9 h), cs_P9_0 h, cs_P9_1 h, kd_t (cs_K10 h), cs_N10 h, cs_P9_3 h, kd_t (cs_K11 h), cs_P11_0 h, kd_t (cs_K12 h), cs_N12 h, cs_P0_12 h, kd_t (cs_K13 h), cs_P13_0 h, kd_t (cs_K14 h), cs_N14 h, cs_P13_2 h, kd_t (cs_K15 h), cs_N15 h, cs_P13_4 h, kd_t (cs_K16 h), cs_N16 h, cs_P0_16 h, kd_t (cs_K17 h), cs_N17 h, cs_P0_17 h, kd_t (cs_K18 h), cs_N18 h, cs_P7_0 h, cs_P7_1 h, cs_P7_2 h, l0_e, l0_le, l0_ge, l0_lt, l0_gt, l1_m, l1_a, l1_b, l1_s, l1_e, l1_le, l1_ge, l1_lt, l1_gt, l24_m, l24_a, l24_b, l24_s, l24_e, l24_le, l24_ge, l24_lt, l24_gt, lt_t, nn_t, bd_t, bdD_t, bdP_t, nI_clamp, gi_n, nI_add, nI_1, pk_mul, b2_eq0, b2_01, nb_t, if_true, if_false, ni_le, ni_eq, ni_lt, e1, fc.p, kd_t fc.sh.k, fc.g1, fc.g2, c_foundBy h L F b l hl]
  unfold vis
  have e2 : (o24 (fnd s l (nI (s 7 f)) (nI (s 8 f))) = nI (24 + f)) ↔ fnd s l (nI (s 7 f)) (nI (s 8 f)) = some f := by
    cases hx : fnd s l (nI (s 7 f)) (nI (s 8 f)) with
    | none =>
      simp only [o24]
      constructor
      · intro e
        have : (nI (24 + f)) < 0 := by rw [← e]; decide
        exact absurd this (nI_pos (by omega))
      · intro e; cases e
    | some k =>
      have hk := fnd_12 b k hx
      simp only [o24, ni_eq (24 + k) (24 + f) (by omega) (by omega), Option.some.injEq]
      omega
  by_cases q : fnd s l (nI (s 7 f)) (nI (s 8 f)) = some f
  · rw [if_pos (e2.mpr q), decide_eq_true q]; rfl
  · rw [if_neg (fun e => q (e2.mp e)), decide_eq_false q]; rfl
theorem c_hasParent (b : BI s) {f : Nat} (hf : f < 12) (fc : FC S d x s A f) {p : Nat} (hp : p < 12) : f_Fc_hasParent S d (A 0 f) (nI (24 + p)) = some (b2 (anyb (fun k => decide (s 10 (2 * f + k) = p)) (s 11 f))) := by
  have hN := b.parentN f
  have sh := fc.sh
  unfold f_Fc_hasParent
  refine itr_f (B := f_Fc_hasParent_B2 S d (A 0 f)) (fun k K => K (nI (24 + p)) (nI k)) (fun k => decide (s 10 (2 * f + k) = p)) (s 11 f) _ (by omega) ?_ ?_ ?_
  · intro k hk hq K hK
    have hv := b.parentF f k hk
    simp (maxSteps := 1000000) (disch := omega) only [f_Fc_hasParent_B2, l0_e, l0_le, l0_ge, l0_lt, l0_gt, l1_m, l1_a, l1_b, l1_s, l1_e, l1_le, l1_ge, l1_lt, l1_gt, lt_t, nn_t, bd_t, bdD_t, bdP_t, nI_clamp, gi_n, nI_add, nI_1, pk_mul, b2_eq0, b2_01, nb_t, if_true, if_false, ni_le, ni_eq, ni_lt, kd_t sh.k, sh.p4, kd_t sh.k1, sh.n1, fc.g5, fc.gp k hk]
    rw [if_neg (by omega), if_neg (by simp only [decide_eq_false_iff_not] at hq; omega)]
    exact hK
  · intro k hk hq he K
    have hv := b.parentF f k hk
    simp (maxSteps := 1000000) (disch := omega) only [f_Fc_hasParent_B2, l0_e, l0_le, l0_ge, l0_lt, l0_gt, l1_m, l1_a, l1_b, l1_s, l1_e, l1_le, l1_ge, l1_lt, l1_gt, lt_t, nn_t, bd_t, bdD_t, bdP_t, nI_clamp, gi_n, nI_add, nI_1, pk_mul, b2_eq0, b2_01, nb_t, if_true, if_false, ni_le, ni_eq, ni_lt, kd_t sh.k, sh.p4, kd_t sh.k1, sh.n1, fc.g5, fc.gp k hk]
    rw [if_neg (by omega), if_pos (by simp only [decide_eq_true_iff] at hq; omega)]
    unfold anyb; rw [he, decide_eq_true hk]; rfl
  · intro he K
    simp (maxSteps := 1000000) (disch := omega) only [f_Fc_hasParent_B2, l0_e, l0_le, l0_ge, l0_lt, l0_gt, l1_m, l1_a, l1_b, l1_s, l1_e, l1_le, l1_ge, l1_lt, l1_gt, lt_t, nn_t, bd_t, bdD_t, bdP_t, nI_clamp, gi_n, nI_add, nI_1, pk_mul, b2_eq0, b2_01, nb_t, if_true, if_false, ni_le, ni_eq, ni_lt, kd_t sh.k, fc.g5]
    rw [if_pos (Nat.le_refl _)]
    unfold anyb; rw [he]; simp; rfl
end cls
