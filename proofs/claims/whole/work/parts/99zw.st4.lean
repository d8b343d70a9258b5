section st
variable {S : gS} {d : gD} {x : Nat} {s : Nat → Nat → Nat} {A : Nat → Nat → Nat} {q : (Nat → Int64) × Int64 × (Nat → Int64) × (Nat → Int32)}
theorem rch_cg {E F : Nat → Nat → Prop} {n c : Nat} (h1 : ∀ a b, a ≠ n → (E a b ↔ F a b)) (h2 : ∀ a b, E a b → b ≠ n) (h3 : ∀ a b, a ≠ n → F a b → b ≠ n) {a : Nat} (ha : a ≠ n) : Rch E a c ↔ Rch F a c := by
  constructor
  · intro r
    exact Rch_ind (P := fun a => a ≠ n → Rch F a c) (fun _ => Rch_r _ _) (fun a b hab _ ih ha => Rch_s ((h1 a b ha).mp hab) (ih (h2 a b hab))) r ha
  · intro r
    exact Rch_ind (P := fun a => a ≠ n → Rch E a c) (fun _ => Rch_r _ _) (fun a b hab _ ih ha => Rch_s ((h1 a b ha).mpr hab) (ih (h3 a b ha hab))) r ha
theorem ct_type (b : BI s) {j : Nat} (hj : 7 ≤ j ∧ j < s 3 0) (h4 : s 3 0 ≠ 24) (t : CT d x s) : CT (wI (wL d (x + 2) (s 3 0) (bi (s 3 0) ||| dL d (x + 2) j)) (x + 1) 1 (nI (s 3 0 + 1))) x (sTy s j) := by
  have b' := bi_type b hj h4
  have hc := b.classes
  have hF := b.faces
  have e : ∀ k i, k ≠ 3 → k ≠ 4 → sTy s j k i = s k i := by
    intro k i h1 h2
    unfold sTy
    rw [up2_ne h1, up2_ne h2]
  have e4 : ∀ i, sTy s j 4 i = if i = s 3 0 then j else s 4 i := by
    intro i
    unfold sTy
    rw [up2_ne (by omega)]
    by_cases c : i = s 3 0
    · rw [if_pos c, c, up2_eq]
    · rw [if_neg c, up2_nk c]
  have e3 : sTy s j 3 0 = s 3 0 + 1 := by unfold sTy; rw [up2_eq]
  have hFE : FE (sTy s j) = FE s := by
    funext f g
    unfold FE
    rw [e 11 f (by decide) (by decide)]
    simp only [fun p => e 10 (2 * f + p) (by decide) (by decide)]
  have hte : ∀ a c, a ≠ s 3 0 → (TE (sTy s j) a c ↔ TE s a c) := by
    intro a c ha
    unfold TE
    rw [e3, e 5 0 (by decide) (by decide), hFE, e4, if_neg ha]
    constructor
    · rintro (w | w | w)
      · exact .inl ⟨w.1, by omega, w.2.2⟩
      · exact .inr (.inl w)
      · exact .inr (.inr w)
    · rintro (w | w | w)
      · exact .inl ⟨w.1, by omega, w.2.2⟩
      · exact .inr (.inl w)
      · exact .inr (.inr w)
  have nty : ¬ ty s (s 3 0) := by unfold ty; omega
  have h3 : ∀ a c, a ≠ s 3 0 → TE s a c → c ≠ s 3 0 := fun a c _ w e => nty (e ▸ (te_ty b w).2)
  have h2 : ∀ a c, TE (sTy s j) a c → c ≠ s 3 0 := by
    intro a c w
    by_cases ha : a = s 3 0
    · have := te_lt b' w
      omega
    · exact h3 a c ha ((hte a c ha).mp w)
  have hr : ∀ a c, a ≠ s 3 0 → (Rch (TE (sTy s j)) a c ↔ Rch (TE s) a c) := fun a c ha => rch_cg hte h2 h3 ha
  have hty : ∀ a, a ≠ s 3 0 → (ty (sTy s j) a ↔ ty s a) := by
    intro a ha
    unfold ty
    rw [e3, e 5 0 (by decide) (by decide)]
    omega
  have tj : ty s j := by unfold ty; omega
  refine ⟨by rw [e3, dI_wI, if_pos ⟨rfl, rfl⟩], fun a c ha hcc => ?_⟩
  rw [dL_wI, dL_wL]
  by_cases ca : a = s 3 0
  · rw [if_pos ⟨rfl, ca⟩, bl_or, bl_bi (by omega) hcc, ca]
    have hx := t.2 j c (by omega) hcc
    rw [Bool.or_eq_true, decide_eq_true_iff, hx]
    constructor
    · rintro (w | w)
      · exact ⟨by unfold ty; rw [e3]; omega, w ▸ Rch_r _ _⟩
      · refine ⟨by unfold ty; rw [e3]; omega, Rch_s (b := j) (.inl ⟨by omega, by rw [e3]; omega, by rw [e4, if_pos rfl]⟩) ((hr j c (by omega)).mpr w.2)⟩
    · rintro ⟨-, w⟩
      rcases Rch_c w with w | ⟨b1, w1, w2⟩
      · exact .inl w.symm
      · right
        rcases w1 with w1 | w1 | w1
        · rw [e4, if_pos rfl] at w1
          rw [w1.2.2] at w2
          exact ⟨tj, (hr j c (by omega)).mp w2⟩
        · omega
        · omega
  · rw [if_neg (fun w => ca w.2), hr a c ca, hty a ca]
    exact t.2 a c ha hcc
theorem st_type (h : IV S d x s A q) (v : Int32) : ∃ r d1 e s', f_M_type S d x v = some (r, d1) ∧ f_R_type S d1 (x + 28) v = some (r, e) ∧ IV S e x s' A q := by
  have hcs := h.g1.ce.cs
  have hx := h.g1.ce.hx
  have hC := h.b.classes
  have t1 := h.g2.t
  by_cases c1 : v ≠ 7 ∧ cIn 8 (nI (s 3 0)) v = false
  · refine ⟨-1, d, _, s, ?_, r_type_n h.rp.ri h.b (.inl c1), iv_w0 h⟩
    simp (maxSteps := 1000000) (disch := omega) only [f_M_type, f_Ty_addClass, kd_t (cs_K0 hcs), cs_P0_0 hcs, kd_t (cs_K1 hcs), cs_P1_0 hcs, kd_t (cs_K2 hcs), cs_N2 hcs, cs_P0_1 hcs, kd_t (cs_K3 hcs), cs_N3 hcs, cs_P0_3 hcs, kd_t (cs_K4 hcs), cs_N4 hcs, cs_P0_5 hcs, kd_t (cs_K5 hcs), cs_N5 hcs, cs_P0_6 hcs, kd_t (cs_K6 hcs), cs_N6 hcs, cs_P0_8 hcs, kd_t (cs_K7 hcs), cs_N7 hcs, cs_P0_9 hcs, kd_t (cs_K8 hcs), cs_N8 hcs, cs_P0_11 hcs, kd_t (cs_K9 hcs), cs_P9_0 hcs, cs_P9_1 hcs, kd_t (cs_K10 hcs), cs_N10 hcs, cs_P9_3 hcs, kd_t (cs_K11 hcs), cs_P11_0 hcs, kd_t (cs_K12 hcs), cs_N12 hcs, cs_P0_12 hcs, kd_t (cs_K13 hcs), cs_P13_0 hcs, kd_t (cs_K14 hcs), cs_N14 hcs, cs_P13_2 hcs, kd_t (cs_K15 hcs), cs_N15 hcs, cs_P13_4 hcs, kd_t (cs_K16 hcs), cs_N16 hcs, cs_P0_16 hcs, kd_t (cs_K17 hcs), cs_N17 hcs, cs_P0_17 hcs, kd_t (cs_K18 hcs), cs_N18 hcs, cs_P7_0 hcs, cs_P7_1 hcs, cs_P7_2 hcs, lt_t, nn_t, bd_t, bdD_t, bdP_t, nI_clamp, gi_n, nI_add, nI_1, pk_mul, b2_eq0, b2_01, nb_t, if_true, if_false, ni_le, ni_eq, ni_lt, c1.1, c_isClass hcs t1, c1.2]
  · have hv : ∃ j, 7 ≤ j ∧ j < s 3 0 ∧ v = nI j := by
      by_cases w : v = 7
      · exact ⟨7, by omega, by omega, w⟩
      · cases c2 : cIn 8 (nI (s 3 0)) v with
        | false => exact absurd ⟨w, c2⟩ c1
        | true =>
          obtain ⟨a, h1, h2, e⟩ := cIn_of (lo := 8) c2 (by omega) (by omega)
          exact ⟨a, by omega, h2, e⟩
    obtain ⟨j, hj1, hj2, rfl⟩ := hv
    have ev0 : f_M_type S d x (nI j) = f_Ty_addClass_J14 S (x + 1) d (nI j) := by
      have fin : bdD (f_Ty_addClass_J14 S (x + 1) d (nI j)) (fun x5 d7 => some (x5, d7)) = f_Ty_addClass_J14 S (x + 1) d (nI j) := by
        cases f_Ty_addClass_J14 S (x + 1) d (nI j) with
        | none => rfl
        | some p => rfl
      simp (maxSteps := 1000000) (disch := omega) only [f_M_type, f_Ty_addClass, kd_t (cs_K0 hcs), cs_P0_0 hcs, kd_t (cs_K1 hcs), cs_P1_0 hcs, kd_t (cs_K2 hcs), cs_N2 hcs, cs_P0_1 hcs, kd_t (cs_K3 hcs), cs_N3 hcs, cs_P0_3 hcs, kd_t (cs_K4 hcs), cs_N4 hcs, cs_P0_5 hcs, kd_t (cs_K5 hcs), cs_N5 hcs, cs_P0_6 hcs, kd_t (cs_K6 hcs), cs_N6 hcs, cs_P0_8 hcs, kd_t (cs_K7 hcs), cs_N7 hcs, cs_P0_9 hcs, kd_t (cs_K8 hcs), cs_N8 hcs, cs_P0_11 hcs, kd_t (cs_K9 hcs), cs_P9_0 hcs, cs_P9_1 hcs, kd_t (cs_K10 hcs), cs_N10 hcs, cs_P9_3 hcs, kd_t (cs_K11 hcs), cs_P11_0 hcs, kd_t (cs_K12 hcs), cs_N12 hcs, cs_P0_12 hcs, kd_t (cs_K13 hcs), cs_P13_0 hcs, kd_t (cs_K14 hcs), cs_N14 hcs, cs_P13_2 hcs, kd_t (cs_K15 hcs), cs_N15 hcs, cs_P13_4 hcs, kd_t (cs_K16 hcs), cs_N16 hcs, cs_P0_16 hcs, kd_t (cs_K17 hcs), cs_N17 hcs, cs_P0_17 hcs, kd_t (cs_K18 hcs), cs_N18 hcs, cs_P7_0 hcs, cs_P7_1 hcs, cs_P7_2 hcs, lt_t, nn_t, bd_t, bdD_t, bdP_t, nI_clamp, gi_n, nI_add, nI_1, pk_mul, b2_eq0, b2_01, nb_t, if_true, if_false, ni_le, ni_eq, ni_lt, c_isClass hcs t1]
      by_cases w : nI j = 7
      · rw [if_pos w]; exact fin
      · rw [if_neg w]
        have c2 : cIn 8 (nI (s 3 0)) (nI j) = true := by
          cases c2 : cIn 8 (nI (s 3 0)) (nI j) with
          | true => rfl
          | false => exact absurd ⟨w, c2⟩ c1
        rw [c2, if_neg (by decide)]; exact fin
    by_cases h4 : s 3 0 = 24
    · refine ⟨-1, d, _, s, ?_, r_type_n h.rp.ri h.b (.inr h4), iv_w0 h⟩
      rw [ev0]
      simp (maxSteps := 1000000) (disch := omega) only [f_Ty_addClass_J14, kd_t (cs_K0 hcs), cs_P0_0 hcs, kd_t (cs_K1 hcs), cs_P1_0 hcs, kd_t (cs_K2 hcs), cs_N2 hcs, cs_P0_1 hcs, kd_t (cs_K3 hcs), cs_N3 hcs, cs_P0_3 hcs, kd_t (cs_K4 hcs), cs_N4 hcs, cs_P0_5 hcs, kd_t (cs_K5 hcs), cs_N5 hcs, cs_P0_6 hcs, kd_t (cs_K6 hcs), cs_N6 hcs, cs_P0_8 hcs, kd_t (cs_K7 hcs), cs_N7 hcs, cs_P0_9 hcs, kd_t (cs_K8 hcs), cs_N8 hcs, cs_P0_11 hcs, kd_t (cs_K9 hcs), cs_P9_0 hcs, cs_P9_1 hcs, kd_t (cs_K10 hcs), cs_N10 hcs, cs_P9_3 hcs, kd_t (cs_K11 hcs), cs_P11_0 hcs, kd_t (cs_K12 hcs), cs_N12 hcs, cs_P0_12 hcs, kd_t (cs_K13 hcs), cs_P13_0 hcs, kd_t (cs_K14 hcs), cs_N14 hcs, cs_P13_2 hcs, kd_t (cs_K15 hcs), cs_N15 hcs, cs_P13_4 hcs, kd_t (cs_K16 hcs), cs_N16 hcs, cs_P0_16 hcs, kd_t (cs_K17 hcs), cs_N17 hcs, cs_P0_17 hcs, kd_t (cs_K18 hcs), cs_N18 hcs, cs_P7_0 hcs, cs_P7_1 hcs, cs_P7_2 hcs, lt_t, nn_t, bd_t, bdD_t, bdP_t, nI_clamp, gi_n, nI_add, nI_1, pk_mul, b2_eq0, b2_01, nb_t, if_true, if_false, ni_le, ni_eq, ni_lt, t1.1, l23_le]
      rw [if_neg (by omega)]
    · have fm : Fm (fun a k => a = x + 2 ∨ (a = x + 1 ∧ k = 1)) S d S (wI (wL d (x + 2) (s 3 0) (bi (s 3 0) ||| dL d (x + 2) j)) (x + 1) 1 (nI (s 3 0 + 1))) := fm_t (fm_wL (.inl rfl)) (fm_wI (.inr ⟨rfl, rfl⟩))
      have rp1 := rp_cf fm h.rp hx (fun a k p => by omega)
      obtain ⟨e, fe, re, ce⟩ := r_type_z rp1.ri h.b ⟨hj1, hj2⟩ h4
      have so : ∀ k i, k ≠ 3 → k ≠ 4 → sTy s j k i = s k i := fun k i h1 h2 => by unfold sTy; rw [up2_ne h1, up2_ne h2]
      have ag := ag_type h.b ⟨hj1, hj2⟩ h4
      have G1' := g1_ag (g1_sw fm h.g1 (fun a k p => by unfold SW; omega)) h.b ag (fun k i h1 h2 => so k i (by omega) (by omega)) (fun k i h1 h2 => so k i (by omega) (by omega))
      have G2' : G2 (wI (wL d (x + 2) (s 3 0) (bi (s 3 0) ||| dL d (x + 2) j)) (x + 1) 1 (nI (s 3 0 + 1))) x (sTy s j) q := by
        have cl := cl_fm fm h.g2.cl hx (by omega) (fun j => by omega)
        refine ⟨⟨by rw [so 1 0 (by decide) (by decide)]; exact cl.1, cl.2.1, fun i h0 hi => by rw [so 1 0 (by decide) (by decide)] at hi; rw [so 2 i (by decide) (by decide)]; exact cl.2.2 i h0 hi⟩, ct_type h.b ⟨hj1, hj2⟩ h4 t1, by rw [so 18 0 (by decide) (by decide)]; exact (fm_I fm (by omega) (by omega)).trans h.g2.o1, fun i hi => ?_, fun i hi => ?_, by rw [so 28 0 (by decide) (by decide)]; exact (fm_I fm (by omega) (by omega)).trans h.g2.fa, (fm_L fm (by omega) (by omega)).trans h.g2.oc, fun j hj => (fm_L fm (by omega) (by omega)).trans (h.g2.sn j hj)⟩
        · rw [so 18 0 (by decide) (by decide)] at hi
          rw [so 19 i (by decide) (by decide)]
          exact (fm_I fm (by omega) (by omega)).trans (h.g2.o2 i hi)
        · rw [so 18 0 (by decide) (by decide)] at hi
          exact (fm_L fm (by omega) (by omega)).trans (h.g2.o3 i hi)
      refine ⟨nI (s 3 0), _, e, sTy s j, ?_, fe, iv_fin G1' G2' (rp_ch rp1 ce re (fun c => by omega)) (rf_ch ce (fun a k p => by omega)) (bi_type h.b ⟨hj1, hj2⟩ h4) (sv_ag h.sv h.b ag (fun i _ => so 13 i (by decide) (by decide)) (by rw [so 5 0 (by decide) (by decide)]; exact Nat.le_refl _) (by rw [so 18 0 (by decide) (by decide)]; exact Nat.le_refl _) (fun k i h1 h2 => so k i (by omega) (by omega))) h.ok⟩
      rw [ev0]
      have g1' : dI (wL d (x + 2) (s 3 0) (bi (s 3 0) ||| dL d (x + 2) j)) (x + 1) 1 = nI (s 3 0) := by rw [dI_wL]; exact t1.1
      have g2' : dI (wI (wL d (x + 2) (s 3 0) (bi (s 3 0) ||| dL d (x + 2) j)) (x + 1) 1 (nI (s 3 0 + 1))) (x + 1) 1 = nI (s 3 0 + 1) := by rw [dI_wI, if_pos ⟨rfl, rfl⟩]
      simp (maxSteps := 1000000) (disch := omega) only [f_Ty_addClass_J14, kd_t (cs_K0 hcs), cs_P0_0 hcs, kd_t (cs_K1 hcs), cs_P1_0 hcs, kd_t (cs_K2 hcs), cs_N2 hcs, cs_P0_1 hcs, kd_t (cs_K3 hcs), cs_N3 hcs, cs_P0_3 hcs, kd_t (cs_K4 hcs), cs_N4 hcs, cs_P0_5 hcs, kd_t (cs_K5 hcs), cs_N5 hcs, cs_P0_6 hcs, kd_t (cs_K6 hcs), cs_N6 hcs, cs_P0_8 hcs, kd_t (cs_K7 hcs), cs_N7 hcs, cs_P0_9 hcs, kd_t (cs_K8 hcs), cs_N8 hcs, cs_P0_11 hcs, kd_t (cs_K9 hcs), cs_P9_0 hcs, cs_P9_1 hcs, kd_t (cs_K10 hcs), cs_N10 hcs, cs_P9_3 hcs, kd_t (cs_K11 hcs), cs_P11_0 hcs, kd_t (cs_K12 hcs), cs_N12 hcs, cs_P0_12 hcs, kd_t (cs_K13 hcs), cs_P13_0 hcs, kd_t (cs_K14 hcs), cs_N14 hcs, cs_P13_2 hcs, kd_t (cs_K15 hcs), cs_N15 hcs, cs_P13_4 hcs, kd_t (cs_K16 hcs), cs_N16 hcs, cs_P0_16 hcs, kd_t (cs_K17 hcs), cs_N17 hcs, cs_P0_17 hcs, kd_t (cs_K18 hcs), cs_N18 hcs, cs_P7_0 hcs, cs_P7_1 hcs, cs_P7_2 hcs, lt_t, nn_t, bd_t, bdD_t, bdP_t, nI_clamp, gi_n, nI_add, nI_1, pk_mul, b2_eq0, b2_01, nb_t, if_true, if_false, ni_le, ni_eq, ni_lt, t1.1, l23_le, c_bit, g1', g2', l1_a, l1_s]
      rw [if_pos (by omega), show s 3 0 + 1 - 1 = s 3 0 by omega]
theorem rch_ex (b : BI s) {f p : Nat} (hp : p < f) (hf : f < s 5 0) (h11 : s 11 f ≠ 2) {a c : Nat} : Rch (TE (sEx s f p)) a c ↔ Rch (TE s) a c ∨ (Rch (TE s) a (24 + f) ∧ Rch (TE s) (24 + p) c) := by
  have hN := b.parentN f
  have e10 : ∀ i, sEx s f p 10 i = if i = 2 * f + s 11 f then p else s 10 i := by
    intro i
    unfold sEx
    rw [up2_ne (by decide)]
    by_cases w : i = 2 * f + s 11 f
    · rw [if_pos w, w, up2_eq]
    · rw [if_neg w, up2_nk w]
  have e11 : ∀ i, sEx s f p 11 i = if i = f then s 11 f + 1 else s 11 i := by
    intro i
    unfold sEx
    by_cases w : i = f
    · rw [if_pos w, w, up2_eq]
    · rw [if_neg w, up2_nk w, up2_ne (by decide)]
  have eo : ∀ k i, k ≠ 10 → k ≠ 11 → sEx s f p k i = s k i := fun k i h1 h2 => by unfold sEx; rw [up2_ne h2, up2_ne h1]
  have hFE : ∀ g k, FE (sEx s f p) g k ↔ FE s g k ∨ (g = f ∧ k = p) := by
    intro g k
    unfold FE
    rw [e11]
    by_cases w : g = f
    · subst w
      rw [if_pos rfl]
      constructor
      · rintro ⟨i, hi, e⟩
        rw [e10] at e
        by_cases c : i = s 11 g
        · rw [if_pos (by omega)] at e; exact .inr ⟨rfl, e.symm⟩
        · rw [if_neg (by omega)] at e; exact .inl ⟨i, by omega, e⟩
      · rintro (⟨i, hi, e⟩ | ⟨-, e⟩)
        · exact ⟨i, by omega, by rw [e10, if_neg (by omega)]; exact e⟩
        · exact ⟨s 11 g, by omega, by rw [e10, if_pos rfl]; exact e.symm⟩
    · rw [if_neg w]
      have hNg := b.parentN g
      constructor
      · rintro ⟨i, hi, e⟩
        rw [e10, if_neg (by omega)] at e
        exact .inl ⟨i, hi, e⟩
      · rintro (⟨i, hi, e⟩ | ⟨e, -⟩)
        · exact ⟨i, hi, by rw [e10, if_neg (by omega)]; exact e⟩
        · exact absurd e w
  have hTE : ∀ a c, TE (sEx s f p) a c ↔ TE s a c ∨ (a = 24 + f ∧ c = 24 + p) := by
    intro a c
    unfold TE
    rw [eo 3 0 (by decide) (by decide), eo 4 a (by decide) (by decide), eo 5 0 (by decide) (by decide)]
    simp only [hFE]
    constructor
    · rintro (w | ⟨w1, w2, w3⟩ | w)
      · exact .inl (.inl w)
      · rcases w3 with w3 | ⟨g, w3 | w3, w4⟩
        · exact .inl (.inr (.inl ⟨w1, w2, .inl w3⟩))
        · exact .inl (.inr (.inl ⟨w1, w2, .inr ⟨g, w3, w4⟩⟩))
        · exact .inr ⟨by omega, by omega⟩
      · exact .inl (.inr (.inr w))
    · rintro ((w | ⟨w1, w2, w3⟩ | w) | ⟨w1, w2⟩)
      · exact .inl w
      · rcases w3 with w3 | ⟨g, w3, w4⟩
        · exact .inr (.inl ⟨w1, w2, .inl w3⟩)
        · exact .inr (.inl ⟨w1, w2, .inr ⟨g, .inl w3, w4⟩⟩)
      · exact .inr (.inr w)
      · exact .inr (.inl ⟨by omega, by omega, .inr ⟨p, .inr ⟨by omega, rfl⟩, w2⟩⟩)
  constructor
  · intro r
    refine Rch_ind (P := fun a => Rch (TE s) a c ∨ (Rch (TE s) a (24 + f) ∧ Rch (TE s) (24 + p) c)) (.inl (Rch_r _ _)) (fun a b1 hab _ ih => ?_) r
    rcases (hTE a b1).mp hab with w | ⟨w1, w2⟩
    · rcases ih with ih | ih
      · exact .inl (Rch_s w ih)
      · exact .inr ⟨Rch_s w ih.1, ih.2⟩
    · subst w1; subst w2
      rcases ih with ih | ih
      · exact .inr ⟨Rch_r _ _, ih⟩
      · exact .inr ⟨Rch_r _ _, ih.2⟩
  · have mono : ∀ {a c}, Rch (TE s) a c → Rch (TE (sEx s f p)) a c := fun r => Rch_mono (fun a c w => (hTE a c).mpr (.inl w)) r
    rintro (w | ⟨w1, w2⟩)
    · exact mono w
    · exact Rch_t (mono w1) (Rch_s ((hTE _ _).mpr (.inr ⟨rfl, rfl⟩)) (mono w2))
theorem c_isBelow_b (h : CS S x) {a c : Nat} (ha : a < 47) (hc : c < 47) : f_Ty_isBelow S d (x + 1) (nI a) (nI c) = some (b2 (decide (a = c) || bl (dL d (x + 2) a) c)) := by
  have e47 : (47 : Int32) = nI 47 := rfl
  by_cases w : a = c
  · subst w
    simp only [f_Ty_isBelow, f_Ty_isBelow_J39, if_true, decide_true, Bool.true_or]; rfl
  · have hne : ¬ nI a = nI c := by rw [nI_eq (by omega) (by omega)]; exact w
    simp (maxSteps := 1000000) (disch := omega) only [f_Ty_isBelow, f_Ty_isBelow_J39, kd_t (cs_K0 h), cs_P0_0 h, kd_t (cs_K1 h), cs_P1_0 h, kd_t (cs_K2 h), cs_N2 h, cs_P0_1 h, kd_t (cs_K3 h), cs_N3 h, cs_P0_3 h, kd_t (cs_K4 h), cs_N4 h, cs_P0_5 h, kd_t (cs_K5 h), cs_N5 h, cs_P0_6 h, kd_t (cs_K6 h), cs_N6 h, cs_P0_8 h, kd_t (cs_K7 h), cs_N7 h, cs_P0_9 h, kd_t (cs_K8 h), cs_N8 h, cs_P0_11 h, kd_t (cs_K9 h), cs_P9_0 h, cs_P9_1 h, kd_t (cs_K10 h), cs_N10 h, cs_P9_3 h, kd_t (cs_K11 h), cs_P11_0 h, kd_t (cs_K12 h), cs_N12 h, cs_P0_12 h, kd_t (cs_K13 h), cs_P13_0 h, kd_t (cs_K14 h), cs_N14 h, cs_P13_2 h, kd_t (cs_K15 h), cs_N15 h, cs_P13_4 h, kd_t (cs_K16 h), cs_N16 h, cs_P0_16 h, kd_t (cs_K17 h), cs_N17 h, cs_P0_17 h, kd_t (cs_K18 h), cs_N18 h, cs_P7_0 h, cs_P7_1 h, cs_P7_2 h, lt_t, nn_t, bd_t, bdD_t, bdP_t, nI_clamp, gi_n, nI_add, nI_1, pk_mul, b2_eq0, b2_01, nb_t, if_true, if_false, ni_le, ni_eq, ni_lt, hne, c_within, e47, cIn0_t (show 47 < 2 ^ 31 by omega) ha, cIn0_t (show 47 < 2 ^ 31 by omega) hc, c_bit, lg_cmp_eq, bl_tst (show c < 64 by omega)]
    rw [if_neg (show ¬ true = false by decide), if_neg (show ¬ true = false by decide), decide_eq_false w, Bool.false_or]
    cases bl (dL d (x + 2) a) c <;> rfl
theorem ct_extend (h : CS S x) (b : BI s) (t : CT d x s) {f p : Nat} (hp : p < f) (hf : f < s 5 0) (h11 : s 11 f ≠ 2) : ∃ e, f_Ty_putBelow S d (x + 1) (nI (24 + f)) (nI (24 + p)) = some ((), e) ∧ (∀ a j, dI e a j = dI d a j) ∧ (∀ a j, a ≠ x + 2 → dL e a j = dL d a j) ∧ CT e x (sEx s f p) := by
  have hF := b.faces
  have hc := b.classes
  have e36 : (36 : Int32) = nI 36 := rfl
  have tf : ty s (24 + f) := by unfold ty; omega
  have tp : ty s (24 + p) := by unfold ty; omega
  have eo : ∀ k i, k ≠ 10 → k ≠ 11 → sEx s f p k i = s k i := fun k i h1 h2 => by unfold sEx; rw [up2_ne h2, up2_ne h1]
  have hty : ∀ a, ty (sEx s f p) a ↔ ty s a := by
    intro a; unfold ty; rw [eo 3 0 (by decide) (by decide), eo 5 0 (by decide) (by decide)]
  unfold f_Ty_putBelow
  have key : (fun r => ∃ e, r = some ((), e) ∧ (∀ a j, dI e a j = dI d a j) ∧ (∀ a j, a ≠ x + 2 → dL e a j = dL d a j) ∧ CT e x (sEx s f p)) ((fun (y : gD × Nat) (K : gD → Int32 → Int32 → Int32 → Option (Unit × gD)) => K y.1 (nI (24 + f)) (nI (24 + p)) (nI (24 + f + y.2))) (d, 0) (itr (f_Ty_putBelow_B2 S (x + 1)) (fun _ _ _ _ => none) fu)) := by
    refine itr_q (B := f_Ty_putBelow_B2 S (x + 1)) (fun (y : gD × Nat) K => K y.1 (nI (24 + f)) (nI (24 + p)) (nI (24 + f + y.2))) (fun r => ∃ e, r = some ((), e) ∧ (∀ a j, dI e a j = dI d a j) ∧ (∀ a j, a ≠ x + 2 → dL e a j = dL d a j) ∧ CT e x (sEx s f p)) (fun k y => y.2 = k ∧ (∀ a j, dI y.1 a j = dI d a j) ∧ (∀ a j, a ≠ x + 2 → dL y.1 a j = dL d a j) ∧ ∀ a, a < 47 → if 24 + f ≤ a ∧ a < 24 + f + k then (∀ c, c < 64 → bl (dL y.1 (x + 2) a) c = (bl (dL d (x + 2) a) c || ((decide (a = 24 + f) || bl (dL d (x + 2) a) (24 + f)) && bl (dL d (x + 2) (24 + p)) c))) else dL y.1 (x + 2) a = dL d (x + 2) a) (12 - f) (by omega) ?_ ?_ (x := (d, 0)) ⟨rfl, fun _ _ => rfl, fun _ _ _ => rfl, fun a _ => by rw [if_neg (by omega)]⟩
    · rintro k hk ⟨e, k'⟩ ⟨rfl, hi, hl, hw⟩ K hK
      simp only at hk hi hl hw hK ⊢
      have w1 := hw (24 + f + k') (by omega)
      rw [if_neg (by omega)] at w1
      have wp := hw (24 + p) (by omega)
      rw [if_neg (by omega)] at wp
      simp (maxSteps := 1000000) (disch := omega) only [f_Ty_putBelow_B2, f_Ty_putBelow_J32, kd_t (cs_K0 h), cs_P0_0 h, kd_t (cs_K1 h), cs_P1_0 h, kd_t (cs_K2 h), cs_N2 h, cs_P0_1 h, kd_t (cs_K3 h), cs_N3 h, cs_P0_3 h, kd_t (cs_K4 h), cs_N4 h, cs_P0_5 h, kd_t (cs_K5 h), cs_N5 h, cs_P0_6 h, kd_t (cs_K6 h), cs_N6 h, cs_P0_8 h, kd_t (cs_K7 h), cs_N7 h, cs_P0_9 h, kd_t (cs_K8 h), cs_N8 h, cs_P0_11 h, kd_t (cs_K9 h), cs_P9_0 h, cs_P9_1 h, kd_t (cs_K10 h), cs_N10 h, cs_P9_3 h, kd_t (cs_K11 h), cs_P11_0 h, kd_t (cs_K12 h), cs_N12 h, cs_P0_12 h, kd_t (cs_K13 h), cs_P13_0 h, kd_t (cs_K14 h), cs_N14 h, cs_P13_2 h, kd_t (cs_K15 h), cs_N15 h, cs_P13_4 h, kd_t (cs_K16 h), cs_N16 h, cs_P0_16 h, kd_t (cs_K17 h), cs_N17 h, cs_P0_17 h, kd_t (cs_K18 h), cs_N18 h, cs_P7_0 h, cs_P7_1 h, cs_P7_2 h, lt_t, nn_t, bd_t, bdD_t, bdP_t, nI_clamp, gi_n, nI_add, nI_1, pk_mul, b2_eq0, b2_01, nb_t, if_true, if_false, ni_le, ni_eq, ni_lt, e36, c_isBelow_b h (show 24 + f + k' < 47 by omega) (show 24 + f < 47 by omega), w1, wp, l1_a]
      rw [if_neg (by omega)]
      have fin : ∀ e2, (∀ a j, dI e2 a j = dI e a j) → (∀ a j, ¬ (a = x + 2 ∧ j = 24 + f + k') → dL e2 a j = dL e a j) → (∀ c, c < 64 → bl (dL e2 (x + 2) (24 + f + k')) c = (bl (dL d (x + 2) (24 + f + k')) c || ((decide (24 + f + k' = 24 + f) || bl (dL d (x + 2) (24 + f + k')) (24 + f)) && bl (dL d (x + 2) (24 + p)) c))) → ∃ e3, K e2 (nI (24 + f)) (nI (24 + p)) (nI (24 + f + k' + 1)) = some ((), e3) ∧ (∀ a j, dI e3 a j = dI d a j) ∧ (∀ a j, a ≠ x + 2 → dL e3 a j = dL d a j) ∧ CT e3 x (sEx s f p) := by
        intro e2 g1 g2 g3
        refine hK (e2, k' + 1) ⟨rfl, fun a j => (g1 a j).trans (hi a j), fun a j ha => (g2 a j (fun z => ha z.1)).trans (hl a j ha), fun a ha => ?_⟩
        by_cases ca : a = 24 + f + k'
        · rw [if_pos (by omega), ca]; exact g3
        · have := hw a ha
          rw [g2 (x + 2) a (fun z => ca z.2)]
          by_cases cb : 24 + f ≤ a ∧ a < 24 + f + k'
          · rw [if_pos cb] at this
            rw [if_pos (by omega)]; exact this
          · rw [if_neg cb] at this
            rw [if_neg (by omega)]; exact this
      cases qb : (decide (24 + f + k' = 24 + f) || bl (dL d (x + 2) (24 + f + k')) (24 + f)) with
      | false =>
        rw [if_pos rfl]
        refine fin e (fun _ _ => rfl) (fun _ _ _ => rfl) (fun c _ => ?_)
        rw [qb, Bool.false_and, Bool.or_false, w1]
      | true =>
        rw [if_neg (by decide)]
        refine fin _ (fun _ _ => dI_wL) (fun a j hn => by rw [dL_wL, if_neg hn]) (fun c _ => ?_)
        rw [qb, Bool.true_and, dL_wL, if_pos ⟨rfl, rfl⟩, bl_or]
    · rintro ⟨e, k'⟩ ⟨rfl, hi, hl, hw⟩ K
      simp only at hi hl hw ⊢
      simp (maxSteps := 1000000) (disch := omega) only [f_Ty_putBelow_B2, kd_t (cs_K0 h), cs_P0_0 h, kd_t (cs_K1 h), cs_P1_0 h, kd_t (cs_K2 h), cs_N2 h, cs_P0_1 h, kd_t (cs_K3 h), cs_N3 h, cs_P0_3 h, kd_t (cs_K4 h), cs_N4 h, cs_P0_5 h, kd_t (cs_K5 h), cs_N5 h, cs_P0_6 h, kd_t (cs_K6 h), cs_N6 h, cs_P0_8 h, kd_t (cs_K7 h), cs_N7 h, cs_P0_9 h, kd_t (cs_K8 h), cs_N8 h, cs_P0_11 h, kd_t (cs_K9 h), cs_P9_0 h, cs_P9_1 h, kd_t (cs_K10 h), cs_N10 h, cs_P9_3 h, kd_t (cs_K11 h), cs_P11_0 h, kd_t (cs_K12 h), cs_N12 h, cs_P0_12 h, kd_t (cs_K13 h), cs_P13_0 h, kd_t (cs_K14 h), cs_N14 h, cs_P13_2 h, kd_t (cs_K15 h), cs_N15 h, cs_P13_4 h, kd_t (cs_K16 h), cs_N16 h, cs_P0_16 h, kd_t (cs_K17 h), cs_N17 h, cs_P0_17 h, kd_t (cs_K18 h), cs_N18 h, cs_P7_0 h, cs_P7_1 h, cs_P7_2 h, lt_t, nn_t, bd_t, bdD_t, bdP_t, nI_clamp, gi_n, nI_add, nI_1, pk_mul, b2_eq0, b2_01, nb_t, if_true, if_false, ni_le, ni_eq, ni_lt, e36]
      rw [if_pos (by omega)]
      refine ⟨e, rfl, hi, hl, by rw [hi, eo 3 0 (by decide) (by decide)]; exact t.1, fun a c ha hcc => ?_⟩
      have hb := t.2 a c ha hcc
      have hbf := t.2 a (24 + f) ha (by omega)
      have hbp := t.2 (24 + p) c (by omega) hcc
      have hw' := hw a ha
      rw [rch_ex b hp hf h11, hty]
      by_cases ca : 24 + f ≤ a ∧ a < 24 + f + (12 - f)
      · rw [if_pos ca] at hw'
        rw [hw' c hcc, Bool.or_eq_true, Bool.and_eq_true, Bool.or_eq_true, decide_eq_true_iff, hb, hbf, hbp]
        constructor
        · rintro (w | ⟨w1 | w1, w2⟩)
          · exact ⟨w.1, .inl w.2⟩
          · exact ⟨by rw [w1]; exact tf, .inr ⟨by rw [w1]; exact Rch_r _ _, w2.2⟩⟩
          · exact ⟨w1.1, .inr ⟨w1.2, w2.2⟩⟩
        · rintro ⟨w1, w2 | ⟨w2, w3⟩⟩
          · exact .inl ⟨w1, w2⟩
          · exact .inr ⟨.inr ⟨w1, w2⟩, tp, w3⟩
      · rw [if_neg ca] at hw'
        rw [hw', hb]
        constructor
        · rintro ⟨w1, w2⟩; exact ⟨w1, .inl w2⟩
        · rintro ⟨w1, w2 | ⟨w2, w3⟩⟩
          · exact ⟨w1, w2⟩
          · exfalso
            have hle := rch_le b w2
            have : ty s a := w1
            unfold ty at this
            rcases Rch_c w2 with w4 | ⟨b1, w4, w5⟩
            · omega
            · have hle2 := rch_le b w5
              rcases w4 with w4 | w4 | w4
              · omega
              · omega
              · omega
  exact key
end st
