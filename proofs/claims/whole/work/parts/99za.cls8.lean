section cls
variable {S : gS} {d : gD} {x : Nat} {s : Nat → Nat → Nat} {A : Nat → Nat → Nat} {U : Nat → Prop} {D : List (Nat × List Nat)}
theorem sms_k {v : Nat} (h : SMs S v) : sK S (v + 1) = 2 ∧ sK S (v + 2) = 50 ∧ sK S (v + 3) = 2 ∧ sK S (v + 4) = 50 := ⟨h.r1.k, h.r1.ak, h.r2.k, h.r2.ak⟩
theorem fm_sh {p n : Nat} {S' : gS} (h : ShS x p n S S') : Fm (PDr x U) S d S' d :=
  ⟨Nat.le_of_eq h.2.1.symm, fun a _ => ⟨(h.1 a).1, (h.1 a).2, fun j np => ⟨h.2.2.1 a j (fun e => np (.inr (.inl e))), rfl, rfl⟩⟩⟩
theorem c_ins44 (h : CS S x) (hx : x + 64 < sZ S) (b : BI s) (K : DK S x U) (C : DC S d x A D) (hD : D.length < 75) {p : Nat} (hp : p ≤ D.length) {y : Nat} (o : OM S d x s (A 1 y) y) {v : Nat} (sv : SMs S v) (v1 : x + 64 < v) (v2 : v + 4 < sZ S) (uv : U v) (vn : ∀ i, i < 75 → i ≠ D.length → sP S (x + 10) i ≠ some v) : ∃ S' d', f_Dr_insert_J44 (x + 9) S d (nI p) (some (A 1 y)) (some v) = some (((), S', d'), 0, 0) ∧ Fm (PDr x U) S d S' d' ∧ DK S' x U ∧ DC S' d' x A (D.take p ++ (y, thr s y) :: D.drop p) := by
  have ol := o.lo
  have kv := sms_k sv
  have wk := o.k
  have wv : A 1 y ≠ v := fun e => by rw [e, sv.k] at wk; cases wk
  have cth := cl_thr b y
  have th3 : (thr s y).length ≤ 3 := by rw [thr_len]; exact b.throwN y
  simp only [f_Dr_insert_J44, kd_t (cs_K9 h), lt_t, C.n]
  refine c_shift h hp hD (fun i hi => ?_) (fun t => ∃ S' d', t = some (((), S', d'), 0, 0) ∧ Fm (PDr x U) S d S' d' ∧ DK S' x U ∧ DC S' d' x A (D.take p ++ (y, thr s y) :: D.drop p)) ?_
  · obtain ⟨u, hu, -, -⟩ := C.c i hi
    exact ⟨u, hu, (K.sl i u (by omega) hu).1.k⟩
  intro S1 sh
  have hS3P : ∀ a j, a ≠ x + 10 → ¬ (a = v ∧ j = 0) → sP (wP S1 v 0 (some (A 1 y))) a j = sP S a j := by
    intro a j h1 h2
    rw [sP_wP, if_neg h2]; exact sh.2.2.1 a j h1
  have hS3K : ∀ a, sK (wP S1 v 0 (some (A 1 y))) a = sK S a := fun a => by rw [sK_wP]; exact (sh.1 a).1
  have hS3N : ∀ a, sN (wP S1 v 0 (some (A 1 y))) a = sN S a := fun a => by rw [sN_wP]; exact (sh.1 a).2
  have rws : ∀ r n, RWs S r n → RWs (wP S1 v 0 (some (A 1 y))) r n := by
    intro r n hr
    refine ⟨(hS3K _).trans hr.k, (hS3P _ _ ?_ ?_).trans hr.p, (hS3K _).trans hr.ak, (hS3N _).trans hr.an⟩
    · intro e; have := hr.k; rw [e, cs_K10 h] at this; cases this
    · rintro ⟨e, -⟩; have := hr.k; rw [e, sv.k] at this; cases this
  obtain ⟨d2, f2, c2, w2⟩ := c_copyFrom (S := wP S1 v 0 (some (A 1 y))) (d := d) (rws _ _ o.rs) (by omega) (rws _ _ sv.r1) cth th3 o.tr (by omega)
  have n2 : dI d2 (x + 9) 2 = nI D.length := (c2.2 _ _ (by unfold PRw; omega)).trans C.n
  have k7 : sK S1 v = 7 := (sh.1 v).1.trans sv.k
  have p1 : sP (wP S1 v 0 (some (A 1 y))) v 1 = some (v + 1) := (hS3P _ _ (by omega) (by omega)).trans sv.p1
  have p5 : sP (wP S1 v 0 (some (A 1 y))) (A 1 y) 5 = some (A 1 y + 1) := (hS3P _ _ (by omega) (by omega)).trans o.p
  have k5 : sK (wP S1 v 0 (some (A 1 y))) (A 1 y) = 5 := (hS3K _).trans wk
  have k2 : sK (wP S1 v 0 (some (A 1 y))) (v + 1) = 2 := (hS3K _).trans kv.1
  have k9 : sK (wP S1 v 0 (some (A 1 y))) (x + 9) = 3 := (hS3K _).trans (cs_K9 h)
  have p9 : sP (wP S1 v 0 (some (A 1 y))) (x + 9) 1 = some (x + 10) := (hS3P _ _ (by omega) (by omega)).trans (cs_P9_1 h)
  have k10 : sK (wP S1 v 0 (some (A 1 y))) (x + 10) = 63 := (hS3K _).trans (cs_K10 h)
  have n10 : sN (wP S1 v 0 (some (A 1 y))) (x + 10) = 75 := (hS3N _).trans (cs_N10 h)
  refine ⟨wP (wP S1 v 0 (some (A 1 y))) (x + 10) p (some v), wI d2 (x + 9) 2 (nI (D.length + 1)), ?_, ?_, ?_, ?_⟩
  · simp (maxSteps := 1000000) (disch := omega) only [f_Dr_insert_J79, l0_e, l0_le, l0_ge, l0_lt, l0_gt, l1_m, l1_a, l1_b, l1_s, l1_e, l1_le, l1_ge, l1_lt, l1_gt, l2_m, l2_a, l2_b, l2_s, l2_e, l2_le, l2_ge, l2_lt, l2_gt, l3_m, l3_a, l3_b, l3_s, l3_e, l3_le, l3_ge, l3_lt, l3_gt, l5_m, l5_a, l5_b, l5_s, l5_e, l5_le, l5_ge, l5_lt, l5_gt, lt_t, nn_t, bd_t, bdD_t, bdP_t, nI_clamp, gi_n, nI_add, nI_1, pk_mul, b2_eq0, b2_01, nb_t, if_true, if_false, ni_le, ni_eq, ni_lt, kd_t k7, p1, kd_t k5, p5, kd_t k2, f2, kd_t k9, p9, kd_t k10, n10, n2]
  · have t1 : Fm (PDr x U) S d S1 d := fm_sh sh
    have t2 : Fm (PDr x U) S1 d (wP S1 v 0 (some (A 1 y))) d := fm_wP (.inr (.inr (.inr ⟨v, uv, .inl ⟨rfl, rfl⟩⟩)))
    have t3 : Fm (PDr x U) (wP S1 v 0 (some (A 1 y))) d (wP S1 v 0 (some (A 1 y))) d2 := fm_ch (ch_m c2 (fun a j q => .inr (.inr (.inr ⟨v, uv, .inr q⟩))))
    exact fm_t (fm_t (fm_t (fm_t t1 t2) t3) (fm_wP (.inr (.inl rfl)))) (fm_wI (.inl ⟨rfl, rfl⟩))
  · have slot : ∀ i, sP (wP (wP S1 v 0 (some (A 1 y))) (x + 10) p (some v)) (x + 10) i = if i = p then some v else if p < i ∧ i ≤ D.length then sP S (x + 10) (i - 1) else sP S (x + 10) i := by
      intro i
      rw [sP_wP]
      by_cases c : i = p
      · rw [if_pos ⟨rfl, c⟩, if_pos c]
      · rw [if_neg (fun q => c q.2), if_neg c, sP_wP, if_neg (by omega)]; exact sh.2.2.2 i
    have old : ∀ i u, i < 75 → i ≠ p → sP (wP (wP S1 v 0 (some (A 1 y))) (x + 10) p (some v)) (x + 10) i = some u → ∃ g, g < 75 ∧ g ≠ D.length ∧ sP S (x + 10) g = some u ∧ g = if p < i ∧ i ≤ D.length then i - 1 else i := by
      intro i u hi hne e
      rw [slot, if_neg hne] at e
      by_cases c : p < i ∧ i ≤ D.length
      · rw [if_pos c] at e; exact ⟨i - 1, by omega, by omega, e, by rw [if_pos c]⟩
      · rw [if_neg c] at e; exact ⟨i, hi, by omega, e, by rw [if_neg c]⟩
    have sms : ∀ u, SMs S u → x + 64 < u → SMs (wP (wP S1 v 0 (some (A 1 y))) (x + 10) p (some v)) u := by
      intro u su hu
      have ku := sms_k su
      have P : ∀ a j, a ≠ x + 10 → ¬ (a = v ∧ j = 0) → sP (wP (wP S1 v 0 (some (A 1 y))) (x + 10) p (some v)) a j = sP S a j := by
        intro a j h1 h2
        rw [sP_wP, if_neg (fun q => h1 q.1)]; exact hS3P a j h1 h2
      have nv : ∀ r, sK S r = 2 → ¬ (r = v ∧ 0 = 0) := fun r hr q => by rw [q.1, sv.k] at hr; cases hr
      exact ⟨(hS3K _).trans su.k, (P _ _ (by omega) (by omega)).trans su.p1, (P _ _ (by omega) (by omega)).trans su.p2, ⟨(hS3K _).trans su.r1.k, (P _ _ (by omega) (nv _ ku.1)).trans su.r1.p, (hS3K _).trans su.r1.ak, (hS3N _).trans su.r1.an⟩, ⟨(hS3K _).trans su.r2.k, (P _ _ (by omega) (nv _ ku.2.2.1)).trans su.r2.p, (hS3K _).trans su.r2.ak, (hS3N _).trans su.r2.an⟩⟩
    have hz : sZ (wP (wP S1 v 0 (some (A 1 y))) (x + 10) p (some v)) = sZ S := by rw [sZ_wP, sZ_wP]; exact sh.2.1
    refine ⟨fun i u hi e => ?_, fun i j u hi hj e1 e2 => ?_⟩
    · by_cases c : i = p
      · rw [slot, if_pos c] at e
        cases e
        exact ⟨sms v sv v1, v1, by rw [hz]; exact v2, uv⟩
      · obtain ⟨g, g1, -, g3, -⟩ := old i u hi c e
        have := K.sl g u g1 g3
        exact ⟨sms u this.1 this.2.1, this.2.1, by rw [hz]; exact this.2.2.1, this.2.2.2⟩
    · by_cases c1 : i = p
      · by_cases c2' : j = p
        · omega
        · rw [slot, if_pos c1] at e1
          cases e1
          obtain ⟨g, g1, g2, g3, -⟩ := old j v hj c2' e2
          exact absurd g3 (vn g g1 g2)
      · obtain ⟨g, g1, g2, g3, g4⟩ := old i u hi c1 e1
        by_cases c2' : j = p
        · rw [slot, if_pos c2'] at e2
          cases e2
          exact absurd g3 (vn g g1 g2)
        · obtain ⟨g', g1', g2', g3', g4'⟩ := old j u hj c2' e2
          have hgg := K.inj g g' u g1 g1' g3 g3'
          rw [g4, g4'] at hgg
          by_cases q1 : p < i ∧ i ≤ D.length
          · rw [if_pos q1] at hgg
            by_cases q2 : p < j ∧ j ≤ D.length
            · rw [if_pos q2] at hgg; omega
            · rw [if_neg q2] at hgg; omega
          · rw [if_neg q1] at hgg
            by_cases q2 : p < j ∧ j ≤ D.length
            · rw [if_pos q2] at hgg; omega
            · rw [if_neg q2] at hgg; omega
  · refine ⟨by rw [dI_wI, if_pos ⟨rfl, rfl⟩, ins_len hp], fun i hi => ?_⟩
    rw [ins_len hp] at hi
    have wI9 : ∀ a l, a ≠ x + 9 → a + 1 ≠ x + 9 → RWd d2 a l → RWd (wI d2 (x + 9) 2 (nI (D.length + 1))) a l := by
      intro a l h1 h2 hr
      exact rwd_ch hr (ch_w (P := fun a _ => a = x + 9) rfl) (by omega) (fun i _ => by omega)
    have keep : ∀ g, g < D.length → ∃ u, sP S (x + 10) g = some u ∧ sP (wP (wP S1 v 0 (some (A 1 y))) (x + 10) p (some v)) u 0 = some (A 1 (D.getD g df).1) ∧ RWd (wI d2 (x + 9) 2 (nI (D.length + 1))) (u + 1) (D.getD g df).2 := by
      intro g hg
      obtain ⟨u, e1, e2, e3⟩ := C.c g hg
      have su := K.sl g u (by omega) e1
      have une : u ≠ v := fun q => vn g (by omega) (by omega) (q ▸ e1)
      refine ⟨u, e1, ?_, ?_⟩
      · rw [sP_wP, if_neg (by omega)]
        exact (hS3P _ _ (by omega) (fun q => une q.1)).trans e2
      · have sp := rw_sep su.1.r1 sv.r1 (by omega)
        exact wI9 _ _ (by omega) (by omega) (rwd_ch e3 c2 sp.1 (fun i _ => sp.2 i))
    rw [ins_at hp]
    by_cases c1 : i < p
    · rw [if_pos c1]
      obtain ⟨u, e1, e2, e3⟩ := keep i (by omega)
      refine ⟨u, ?_, e2, e3⟩
      rw [sP_wP, if_neg (by omega), sP_wP, if_neg (by omega), sh.2.2.2, if_neg (by omega)]; exact e1
    · rw [if_neg c1]
      by_cases c3 : i = p
      · rw [if_pos c3]
        refine ⟨v, by rw [sP_wP, if_pos ⟨rfl, c3⟩], ?_, ?_⟩
        · rw [sP_wP, if_neg (by omega), sP_wP, if_pos ⟨rfl, rfl⟩]
        · exact wI9 _ _ (by omega) (by omega) w2
      · rw [if_neg c3]
        obtain ⟨u, e1, e2, e3⟩ := keep (i - 1) (by omega)
        refine ⟨u, ?_, e2, e3⟩
        rw [sP_wP, if_neg (by omega), sP_wP, if_neg (by omega), sh.2.2.2, if_pos (by omega)]; exact e1
theorem dk_new {S' : gS} {d' : gD} (h : CS S x) (hx : x + 64 < sZ S) (K : DK S x U) (g : Fm (fun _ _ => False) S d S' d') : DK S' x U := by
  have e : ∀ i, sP S' (x + 10) i = sP S (x + 10) i := fun i => fm_P g (by omega) id
  refine ⟨fun i v hi hv => ?_, fun i j v hi hj h1 h2 => K.inj i j v hi hj (by rw [← e]; exact h1) (by rw [← e]; exact h2)⟩
  rw [e] at hv
  obtain ⟨k1, k2, k3, k4⟩ := K.sl i v hi hv
  exact ⟨⟨(fm_K g (by omega)).trans k1.k, (fm_P g (by omega) id).trans k1.p1, (fm_P g (by omega) id).trans k1.p2, rws_fm g k1.r1 (by omega) id, rws_fm g k1.r2 (by omega) id⟩, k2, Nat.lt_of_lt_of_le k3 g.1, k4⟩
theorem c_insert (h : CS S x) (hx : x + 64 < sZ S) (b : BI s) (K : DK S x U) (hU : ∀ v, sZ S ≤ v → U v) (C : DC S d x A D) (hD : D.length < 75) {p : Nat} (hp : p ≤ D.length) {y : Nat} (o : OM S d x s (A 1 y) y) : ∃ S' d' n m, f_Dr_insert S d (x + 9) (nI p) (some (A 1 y)) = some (((), S', d'), n, m) ∧ n ≤ 5 ∧ m ≤ 39 ∧ Fm (PDr x U) S d S' d' ∧ DK S' x U ∧ DC S' d' x A (D.take p ++ (y, thr s y) :: D.drop p) := by
  have e75 : Int32.ofNat 75 = nI 75 := rfl
  cases q : sP S (x + 10) D.length with
  | none =>
    obtain ⟨S1, d1, f1, sv, z1, m1⟩ := c_smInit (S := S) (d := d)
    have h1 : CS S1 x := cs_fm m1 h hx (fun _ _ _ => id)
    have hx1 : x + 64 < sZ S1 := by omega
    have K1 := dk_new h hx K m1
    have o1 : OM S1 d1 x s (A 1 y) y := om_fm m1 o (fun j => ⟨id, id, id⟩)
    have C1 : DC S1 d1 x A D := by
      refine ⟨(fm_I m1 (by omega) id).trans C.n, fun i hi => ?_⟩
      obtain ⟨u, e1, e2, e3⟩ := C.c i hi
      have su := K.sl i u (by omega) e1
      exact ⟨u, (fm_P m1 (by omega) id).trans e1, (fm_P m1 (by omega) id).trans e2, rwd_fm m1 e3 (by omega) id (fun _ => id)⟩
    have vn : ∀ i, i < 75 → i ≠ D.length → sP S1 (x + 10) i ≠ some (sZ S) := by
      intro i hi _ e
      rw [fm_P m1 (by omega) id] at e
      have := (K.sl i _ hi e).2.2.1
      omega
    obtain ⟨S2, d2, f2, m2, K2, C2⟩ := c_ins44 h1 hx1 b K1 C1 hD hp o1 sv hx (by omega) (hU _ (Nat.le_refl _)) vn
    refine ⟨S2, d2, 5, 39, ?_, by omega, by omega, fm_t (fm_m m1 (fun _ _ _ f => f.elim)) m2, K2, C2⟩
    simp (maxSteps := 1000000) (disch := omega) only [f_Dr_insert, kd_t (cs_K0 h), cs_P0_0 h, kd_t (cs_K1 h), cs_P1_0 h, kd_t (cs_K2 h), cs_N2 h, cs_P0_1 h, kd_t (cs_K3 h), cs_N3 h, cs_P0_3 h, kd_t (cs_K4 h), cs_N4 h, cs_P0_5 h, kd_t (cs_K5 h), cs_N5 h, cs_P0_6 h, kd_t (cs_K6 h), cs_N6 h, cs_P0_8 h, kd_t (cs_K7 h), cs_N7 h, cs_P0_9 h, kd_t (cs_K8 h), cs_N8 h, cs_P0_11 h, kd_t (cs_K9 h), cs_P9_0 h, cs_P9_1 h, kd_t (cs_K10 h), cs_N10 h, cs_P9_3 h, kd_t (cs_K11 h), cs_P11_0 h, kd_t (cs_K12 h), cs_N12 h, cs_P0_12 h, kd_t (cs_K13 h), cs_P13_0 h, kd_t (cs_K14 h), cs_N14 h, cs_P13_2 h, kd_t (cs_K15 h), cs_N15 h, cs_P13_4 h, kd_t (cs_K16 h), cs_N16 h, cs_P0_16 h, kd_t (cs_K17 h), cs_N17 h, cs_P0_17 h, kd_t (cs_K18 h), cs_N18 h, cs_P7_0 h, cs_P7_1 h, cs_P7_2 h, l0_e, l0_le, l0_ge, l0_lt, l0_gt, l1_m, l1_a, l1_b, l1_s, l1_e, l1_le, l1_ge, l1_lt, l1_gt, l3_m, l3_a, l3_b, l3_s, l3_e, l3_le, l3_ge, l3_lt, l3_gt, l7_m, l7_a, l7_b, l7_s, l7_e, l7_le, l7_ge, l7_lt, l7_gt, lt_t, nn_t, bd_t, bdD_t, bdP_t, nI_clamp, gi_n, nI_add, nI_1, pk_mul, b2_eq0, b2_01, nb_t, if_true, if_false, ni_le, ni_eq, ni_lt, C.n, e75, q, f1, bdA_t, f2, ac_t]
    rw [if_neg (by omega)]
  | some v =>
    have sv := K.sl D.length v hD q
    obtain ⟨S2, d2, f2, m2, K2, C2⟩ := c_ins44 h hx b K C hD hp o sv.1 sv.2.1 sv.2.2.1 sv.2.2.2 (fun i hi hne e => hne (K.inj i D.length v hi hD e q))
    refine ⟨S2, d2, 0, 0, ?_, by omega, by omega, m2, K2, C2⟩
    simp (maxSteps := 1000000) (disch := omega) only [f_Dr_insert, kd_t (cs_K0 h), cs_P0_0 h, kd_t (cs_K1 h), cs_P1_0 h, kd_t (cs_K2 h), cs_N2 h, cs_P0_1 h, kd_t (cs_K3 h), cs_N3 h, cs_P0_3 h, kd_t (cs_K4 h), cs_N4 h, cs_P0_5 h, kd_t (cs_K5 h), cs_N5 h, cs_P0_6 h, kd_t (cs_K6 h), cs_N6 h, cs_P0_8 h, kd_t (cs_K7 h), cs_N7 h, cs_P0_9 h, kd_t (cs_K8 h), cs_N8 h, cs_P0_11 h, kd_t (cs_K9 h), cs_P9_0 h, cs_P9_1 h, kd_t (cs_K10 h), cs_N10 h, cs_P9_3 h, kd_t (cs_K11 h), cs_P11_0 h, kd_t (cs_K12 h), cs_N12 h, cs_P0_12 h, kd_t (cs_K13 h), cs_P13_0 h, kd_t (cs_K14 h), cs_N14 h, cs_P13_2 h, kd_t (cs_K15 h), cs_N15 h, cs_P13_4 h, kd_t (cs_K16 h), cs_N16 h, cs_P0_16 h, kd_t (cs_K17 h), cs_N17 h, cs_P0_17 h, kd_t (cs_K18 h), cs_N18 h, cs_P7_0 h, cs_P7_1 h, cs_P7_2 h, l0_e, l0_le, l0_ge, l0_lt, l0_gt, l1_m, l1_a, l1_b, l1_s, l1_e, l1_le, l1_ge, l1_lt, l1_gt, l3_m, l3_a, l3_b, l3_s, l3_e, l3_le, l3_ge, l3_lt, l3_gt, l7_m, l7_a, l7_b, l7_s, l7_e, l7_le, l7_ge, l7_lt, l7_gt, lt_t, nn_t, bd_t, bdD_t, bdP_t, nI_clamp, gi_n, nI_add, nI_1, pk_mul, b2_eq0, b2_01, nb_t, if_true, if_false, ni_le, ni_eq, ni_lt, C.n, e75, q, f2]
    rw [if_neg (by omega), if_neg (by simp)]
end cls
