section st
variable {S : gS} {d : gD} {x : Nat} {s : Nat → Nat → Nat} {A : Nat → Nat → Nat} {q : (Nat → Int64) × Int64 × (Nat → Int64) × (Nat → Int32)}
theorem om_inj (b : BI s) (M : CM S d x s A) {i j : Nat} (hi : vx s i) (hj : vx s j) (e : A 1 i = A 1 j) : i = j := by
  have o1 := M.1 i hi
  have o2 := M.1 j hj
  have w1 := ow_lt (vx_lt b hi)
  have w2 := ow_lt (vx_lt b hj)
  have g0 := o1.g0
  have g1 := o1.g1
  rw [e, o2.g0, nI_eq (by omega) (by omega)] at g0
  rw [e, o2.g1, nI_eq (by omega) (by omega)] at g1
  exact id_inj b hi hj g0.symm g1.symm
theorem thr_th {y t : Nat} (b : BI s) (h3 : s 16 y ≠ 3) (z : Nat) : thr (sTh s y t) z = if z = y then thr s y ++ [t] else thr s z := by
  have hN := b.throwN y
  have hNz := b.throwN z
  have e16 : sTh s y t 16 z = if z = y then s 16 y + 1 else s 16 z := by
    unfold sTh
    by_cases c : z = y
    · rw [if_pos c, c, up2_eq]
    · rw [if_neg c, up2_nk c, up2_ne (by decide)]
  have e17 : ∀ i, sTh s y t 17 i = if i = 3 * y + s 16 y then t else s 17 i := by
    intro i
    unfold sTh
    rw [up2_ne (by decide)]
    by_cases c : i = 3 * y + s 16 y
    · rw [if_pos c, c, up2_eq]
    · rw [if_neg c, up2_nk c]
  have key : ∀ k, (z = y → k ≤ s 16 y) → k ≤ 3 → thrK (sTh s y t) z k = thrK s z k := by
    intro k
    induction k with
    | zero => intro _ _; rfl
    | succ k ih =>
      intro h1 h2
      unfold thrK
      rw [ih (fun c => by have := h1 c; omega) (by omega), e17, if_neg]
      intro c
      by_cases w : z = y
      · have := h1 w; omega
      · omega
  unfold thr
  rw [e16]
  by_cases c : z = y
  · subst c
    rw [if_pos rfl, if_pos rfl]
    show thrK (sTh s z t) z (s 16 z) ++ [sTh s z t 17 (3 * z + s 16 z)] = _
    rw [key _ (fun _ => Nat.le_refl _) (by omega), e17, if_pos rfl]
  · rw [if_neg c, if_neg c, key _ (fun w => absurd w c) (by omega)]
theorem st_throwing (h : IV S d x s A q) (v1 v2 v3 : Int32) : ∃ r d1 e s', f_M_throwing S d x v1 v2 v3 = some (r, d1) ∧ f_R_throwing S d1 (x + 28) v1 v2 v3 = some (r, e) ∧ IV S e x s' A q := by
  have hcs := h.g1.ce.cs
  have hx := h.g1.ce.hx
  have hF := h.b.faces
  have hS := h.b.stands
  have hC := h.b.classes
  have F := h.g1.ce.F
  have M := h.g1.ce.M
  cases Classical.em (∃ f k t, thOk s v1 v2 v3 f k t) with
  | inr no =>
    have no' : ∀ f k t, ¬ thOk s v1 v2 v3 f k t := fun f k t w => no ⟨f, k, t, w⟩
    refine ⟨0, d, _, s, ?_, r_throwing_n h.rp.ri h.b no', iv_w0 h⟩
    simp only [f_M_throwing, kd_t (cs_K0 hcs), kd_t (cs_K1 hcs), cs_P0_0 hcs, nn_t, lt_t, h.g1.st1, c_isFace hcs F, c_isClass hcs h.g2.t, bd_t, b2_eq0, l0_gt _ (show s 21 0 < 2 ^ 31 by omega)]
    by_cases q0 : 0 < s 21 0
    · rw [if_pos q0]
    · rw [if_neg q0]
      cases c1 : cIn 24 (nI (24 + s 5 0)) v1 with
      | false => rw [if_pos rfl]
      | true =>
        rw [if_neg (by decide)]
        cases c2 : cIn 8 (nI (s 3 0)) v3 with
        | false => rw [if_pos rfl]
        | true =>
          rw [if_neg (by decide)]
          obtain ⟨a, ha1, ha2, rfl⟩ := cIn_of (lo := 24) c1 (by omega) (by omega)
          obtain ⟨t, ht1, ht2, rfl⟩ := cIn_of (lo := 8) c2 (by omega) (by omega)
          obtain ⟨f, rfl⟩ : ∃ f, a = 24 + f := ⟨a - 24, by omega⟩
          have fc := F.2.1 f (by omega)
          have hN := h.b.ownN f
          have s1 : nI (24 + f) - 24 = nI f := by rw [l24_s _ (by omega)]; congr 1; omega
          cases c3 : cIn 0 (nI (s 12 f)) v2 with
          | false =>
            simp (maxSteps := 1000000) (disch := omega) only [f_M_throwing, kd_t (cs_K0 hcs), cs_P0_0 hcs, kd_t (cs_K1 hcs), cs_P1_0 hcs, kd_t (cs_K2 hcs), cs_N2 hcs, cs_P0_1 hcs, kd_t (cs_K3 hcs), cs_N3 hcs, cs_P0_3 hcs, kd_t (cs_K4 hcs), cs_N4 hcs, cs_P0_5 hcs, kd_t (cs_K5 hcs), cs_N5 hcs, cs_P0_6 hcs, kd_t (cs_K6 hcs), cs_N6 hcs, cs_P0_8 hcs, kd_t (cs_K7 hcs), cs_N7 hcs, cs_P0_9 hcs, kd_t (cs_K8 hcs), cs_N8 hcs, cs_P0_11 hcs, kd_t (cs_K9 hcs), cs_P9_0 hcs, cs_P9_1 hcs, kd_t (cs_K10 hcs), cs_N10 hcs, cs_P9_3 hcs, kd_t (cs_K11 hcs), cs_P11_0 hcs, kd_t (cs_K12 hcs), cs_N12 hcs, cs_P0_12 hcs, kd_t (cs_K13 hcs), cs_P13_0 hcs, kd_t (cs_K14 hcs), cs_N14 hcs, cs_P13_2 hcs, kd_t (cs_K15 hcs), cs_N15 hcs, cs_P13_4 hcs, kd_t (cs_K16 hcs), cs_N16 hcs, cs_P0_16 hcs, kd_t (cs_K17 hcs), cs_N17 hcs, cs_P0_17 hcs, kd_t (cs_K18 hcs), cs_N18 hcs, cs_P7_0 hcs, cs_P7_1 hcs, cs_P7_2 hcs, lt_t, nn_t, bd_t, bdD_t, bdP_t, nI_clamp, gi_n, nI_add, nI_1, pk_mul, b2_eq0, b2_01, nb_t, if_true, if_false, ni_le, ni_eq, ni_lt, s1, fc.p, kd_t fc.sh.k, fc.g7, c_within, c3]
          | true =>
            obtain ⟨k, -, hk, rfl⟩ := cIn_of (lo := 0) c3 (by omega) (by omega)
            have o := M.1 _ (own_vx (show f < s 5 0 by omega) hk hN)
            have cth := cl_thr h.b (6 * f + k)
            have h3 := h.b.throwN (6 * f + k)
            have hl : (thr s (6 * f + k)).length ≤ 3 := by rw [thr_len]; exact h3
            have hh := c_has o.rs (by omega) o.tr hl (fun u hu => by have := cth.2 u hu; omega) (t := t) (by omega)
            simp (maxSteps := 1000000) (disch := omega) only [f_M_throwing, kd_t (cs_K0 hcs), cs_P0_0 hcs, kd_t (cs_K1 hcs), cs_P1_0 hcs, kd_t (cs_K2 hcs), cs_N2 hcs, cs_P0_1 hcs, kd_t (cs_K3 hcs), cs_N3 hcs, cs_P0_3 hcs, kd_t (cs_K4 hcs), cs_N4 hcs, cs_P0_5 hcs, kd_t (cs_K5 hcs), cs_N5 hcs, cs_P0_6 hcs, kd_t (cs_K6 hcs), cs_N6 hcs, cs_P0_8 hcs, kd_t (cs_K7 hcs), cs_N7 hcs, cs_P0_9 hcs, kd_t (cs_K8 hcs), cs_N8 hcs, cs_P0_11 hcs, kd_t (cs_K9 hcs), cs_P9_0 hcs, cs_P9_1 hcs, kd_t (cs_K10 hcs), cs_N10 hcs, cs_P9_3 hcs, kd_t (cs_K11 hcs), cs_P11_0 hcs, kd_t (cs_K12 hcs), cs_N12 hcs, cs_P0_12 hcs, kd_t (cs_K13 hcs), cs_P13_0 hcs, kd_t (cs_K14 hcs), cs_N14 hcs, cs_P13_2 hcs, kd_t (cs_K15 hcs), cs_N15 hcs, cs_P13_4 hcs, kd_t (cs_K16 hcs), cs_N16 hcs, cs_P0_16 hcs, kd_t (cs_K17 hcs), cs_N17 hcs, cs_P0_17 hcs, kd_t (cs_K18 hcs), cs_N18 hcs, cs_P7_0 hcs, cs_P7_1 hcs, cs_P7_2 hcs, lt_t, nn_t, bd_t, bdD_t, bdP_t, nI_clamp, gi_n, nI_add, nI_1, pk_mul, b2_eq0, b2_01, nb_t, if_true, if_false, ni_le, ni_eq, ni_lt, s1, fc.p, kd_t fc.sh.k, fc.g7, c_within, c3, fc.sh.p6, kd_t fc.sh.k2, fc.sh.n2, fc.ow k hk, kd_t o.k, o.p, kd_t o.rs.k, hh, o.tr.1, l3_e]
            rw [if_neg (by decide)]
            by_cases m1 : t ∈ thr s (6 * f + k)
            · rw [decide_eq_true m1]; rfl
            · rw [decide_eq_false m1, if_pos rfl]
              by_cases m3 : (thr s (6 * f + k)).length = 3
              · rw [if_pos m3]
              · exfalso
                rw [thr_len] at m3
                exact no' f k t ⟨rfl, rfl, rfl, by omega, hk, ht1, ht2, by omega, m3, m1⟩
  | inl ex =>
    obtain ⟨f, k, t, ok⟩ := ex
    have ok0 := ok
    obtain ⟨rfl, rfl, rfl, hf, hk, ht1, ht2, h21, h3, m1⟩ := ok
    have fc := F.2.1 f hf
    have hN := h.b.ownN f
    have hvy := own_vx hf hk hN
    have o := M.1 _ hvy
    have olo := o.lo
    have ohi := o.hi
    have cth := cl_thr h.b (6 * f + k)
    have hN3 := h.b.throwN (6 * f + k)
    have hl : (thr s (6 * f + k)).length ≤ 3 := by rw [thr_len]; exact hN3
    have hh := c_has o.rs (by omega) o.tr hl (fun u hu => by have := cth.2 u hu; omega) (t := t) (by omega)
    obtain ⟨e1, f1, c1, w1⟩ := c_add o.rs (by omega) o.tr hl (fun u hu => by have := cth.2 u hu; omega) (t := t) (by omega) (fun _ => by rw [thr_len]; omega)
    unfold adL at w1
    rw [if_neg m1] at w1
    have fm : Fm (PRw (A 1 (6 * f + k) + 1)) S d S e1 := fm_ch c1
    have pr : ∀ a j, PRw (A 1 (6 * f + k) + 1) a j → a = A 1 (6 * f + k) + 1 ∨ a = A 1 (6 * f + k) + 2 := fun a j p => by unfold PRw at p; omega
    have rp1 := rp_cf fm h.rp hx (fun a j p => by have := pr a j p; omega)
    obtain ⟨e, fe, re, ce⟩ := r_throwing_z rp1.ri h.b ok0
    have eo : ∀ k' i, k' ≠ 16 → k' ≠ 17 → sTh s (6 * f + k) t k' i = s k' i := fun k' i h1 h2 => by unfold sTh; rw [up2_ne h1, up2_ne h2]
    have k2 : ∀ a j κ, sK S a = κ → κ ≠ 2 → κ ≠ 50 → ¬ PRw (A 1 (6 * f + k) + 1) a j := by
      intro a j κ hκ n1 n2 p
      rcases pr a j p with w | w
      · rw [w, o.rs.k] at hκ; exact n1 hκ.symm
      · rw [w, o.rs.ak] at hκ; exact n2 hκ.symm
    have g1' : G1 S e1 x (sTh s (6 * f + k) t) A q.2.2.2 := by
      refine ⟨⟨hcs, hx, ⟨?_, fun g hg => ?_, by rw [eo 5 0 (by decide) (by decide)]; exact F.2.2⟩, fun i hi => ?_, M.2⟩, ?_, ?_, fun c hc => ?_, fun c c' h1 h2 => ?_, ?_⟩
      · rw [eo 5 0 (by decide) (by decide)]; exact (fm_I fm (by omega) (k2 _ _ _ (cs_K0 hcs) (by omega) (by omega))).trans F.1
      · rw [eo 5 0 (by decide) (by decide)] at hg
        have c := F.2.1 g hg
        have c' := fc_fm fm c hx (k2 _ _ _ (cs_K4 hcs) (by omega) (by omega)) (fun j _ => k2 _ _ _ c.sh.k (by omega) (by omega)) (fun j => ?_) (fun j => k2 _ _ _ c.sh.k2 (by omega) (by omega))
        · exact ⟨c'.p, c'.lo, c'.hi, c'.sh, by rw [eo 6 g (by decide) (by decide)]; exact c'.g0, by rw [eo 7 g (by decide) (by decide)]; exact c'.g1, by rw [eo 8 g (by decide) (by decide)]; exact c'.g2, by rw [eo 9 g (by decide) (by decide)]; exact c'.g3, by rw [eo 11 g (by decide) (by decide)]; exact c'.g5, fun i hi => by rw [eo 11 g (by decide) (by decide)] at hi; rw [eo 10 _ (by decide) (by decide)]; exact c'.gp i hi, by rw [eo 12 g (by decide) (by decide)]; exact c'.g7, by rw [eo 12 g (by decide) (by decide)]; exact c'.ow⟩
        · intro p
          rcases pr _ _ p with w | w
          · have := c.sh.k
            rw [show A 0 g = A 1 (6 * f + k) by omega, o.k] at this; cases this
          · have := c.sh.k
            rw [show A 0 g = A 1 (6 * f + k) + 1 by omega, o.rs.k] at this; cases this
      · have hvx : vx s i := by
          unfold vx at hi ⊢
          rw [eo 5 0 (by decide) (by decide), eo 12 _ (by decide) (by decide)] at hi
          exact hi
        have oi := M.1 i hvx
        have hI : ∀ j, dI e1 (A 1 i) j = dI d (A 1 i) j := fun j => fm_I fm (by have := oi.hi; omega) (k2 _ _ _ oi.k (by omega) (by omega))
        refine ⟨oi.k, oi.p, oi.rs, (hI _).trans oi.g0, (hI _).trans oi.g1, by rw [eo 13 i (by decide) (by decide)]; exact (hI _).trans oi.g2, by unfold pkp; rw [eo 15 _ (by decide) (by decide), eo 15 _ (by decide) (by decide), eo 15 _ (by decide) (by decide)]; exact (hI _).trans oi.g3, by rw [eo 14 i (by decide) (by decide)]; exact (hI _).trans oi.g4, ?_, oi.hi, oi.lo⟩
        rw [thr_th h.b h3]
        by_cases c : i = 6 * f + k
        · rw [if_pos c, c]; exact w1
        · rw [if_neg c]
          have hne : A 1 i ≠ A 1 (6 * f + k) := fun w => c (om_inj h.b M hvx hvy w)
          have sp := rw_sep oi.rs o.rs (by omega)
          exact rwd_ch oi.tr c1 sp.1 (fun j _ => sp.2 j)
      · have e13 : dI e1 x 13 = dI d x 13 := fm_I fm (by omega) (k2 _ _ _ (cs_K0 hcs) (by omega) (by omega))
        rcases h.g1.al with a | ⟨a1, a2⟩
        · exact .inl (e13.trans a)
        · refine .inr ⟨e13.trans a1, fun g hg => ?_⟩
          rw [eo 5 0 (by decide) (by decide)] at hg
          have c := F.2.1 g hg
          have chi := c.hi
          rw [lst_cg (s := s) (fun k' i h1 h2 => eo k' i (by omega) (by omega))]
          exact ⟨(fm_I fm (by omega) (k2 _ _ _ c.sh.k (by omega) (by omega))).trans (a2 g hg).1, (a2 g hg).2⟩
      · rw [eo 21 0 (by decide) (by decide)]; exact (fm_I fm (by omega) (k2 _ _ _ (cs_K0 hcs) (by omega) (by omega))).trans h.g1.st1
      · rw [eo 21 0 (by decide) (by decide), h21] at hc; omega
      · rw [eo 21 0 (by decide) (by decide), h21] at h2; omega
      · refine ⟨fun i v hi hv => ?_, h.g1.dk.inj⟩
        obtain ⟨k1, k2, k3, k4⟩ := h.g1.dk.sl i v hi hv
        refine ⟨k1, k2, k3, fun w => ?_⟩
        obtain ⟨c, j, w1, -⟩ := w
        rw [eo 21 0 (by decide) (by decide), h21] at w1; omega
    have g2' : G2 e1 x (sTh s (6 * f + k) t) q := by
      have g := g2_fm fm h.g2 hx (fun a j p => by have := pr a j p; omega)
      have hTE : TE (sTh s (6 * f + k) t) = TE s := by
        funext a c'
        unfold TE FE
        rw [eo 3 0 (by decide) (by decide), eo 5 0 (by decide) (by decide), eo 4 a (by decide) (by decide), eo 11 _ (by decide) (by decide)]
        simp only [fun i => eo 10 i (by decide) (by decide)]
      exact ⟨⟨g.cl.1, g.cl.2.1, g.cl.2.2⟩, ⟨g.t.1, fun a c' h1 h2 => by rw [hTE]; exact g.t.2 a c' h1 h2⟩, g.o1, g.o2, g.o3, g.fa, g.oc, g.sn⟩
    refine ⟨1, e1, e, sTh s (6 * f + k) t, ?_, fe, iv_fin g1' g2' (rp_ch rp1 ce re (fun c => by omega)) (rf_ch ce (fun a k p => by omega)) (bi_throwing h.b ht1 ht2 h3 m1) (sv_0 h.sv h21 (fun i _ => eo 13 i (by decide) (by decide)) (fun k i h1 h2 => eo k i (by omega) (by omega))) h.ok⟩
    have cf1 : cIn 24 (nI (24 + s 5 0)) (nI (24 + f)) = true := by
      rw [show (24 : Int32) = nI 24 from rfl, cIn_nI (by omega) (by omega) (by omega), decide_eq_true (by omega), decide_eq_true (by omega)]; rfl
    have cf2 : cIn 8 (nI (s 3 0)) (nI t) = true := by
      rw [show (8 : Int32) = nI 8 from rfl, cIn_nI (by omega) (by omega) (by omega), decide_eq_true (by omega), decide_eq_true (by omega)]; rfl
    have s1 : nI (24 + f) - 24 = nI f := by rw [l24_s _ (by omega)]; congr 1; omega
    have hl3 : ¬ (thr s (6 * f + k)).length = 3 := by rw [thr_len]; exact h3
    simp (maxSteps := 1000000) (disch := omega) only [f_M_throwing, kd_t (cs_K0 hcs), cs_P0_0 hcs, kd_t (cs_K1 hcs), cs_P1_0 hcs, kd_t (cs_K2 hcs), cs_N2 hcs, cs_P0_1 hcs, kd_t (cs_K3 hcs), cs_N3 hcs, cs_P0_3 hcs, kd_t (cs_K4 hcs), cs_N4 hcs, cs_P0_5 hcs, kd_t (cs_K5 hcs), cs_N5 hcs, cs_P0_6 hcs, kd_t (cs_K6 hcs), cs_N6 hcs, cs_P0_8 hcs, kd_t (cs_K7 hcs), cs_N7 hcs, cs_P0_9 hcs, kd_t (cs_K8 hcs), cs_N8 hcs, cs_P0_11 hcs, kd_t (cs_K9 hcs), cs_P9_0 hcs, cs_P9_1 hcs, kd_t (cs_K10 hcs), cs_N10 hcs, cs_P9_3 hcs, kd_t (cs_K11 hcs), cs_P11_0 hcs, kd_t (cs_K12 hcs), cs_N12 hcs, cs_P0_12 hcs, kd_t (cs_K13 hcs), cs_P13_0 hcs, kd_t (cs_K14 hcs), cs_N14 hcs, cs_P13_2 hcs, kd_t (cs_K15 hcs), cs_N15 hcs, cs_P13_4 hcs, kd_t (cs_K16 hcs), cs_N16 hcs, cs_P0_16 hcs, kd_t (cs_K17 hcs), cs_N17 hcs, cs_P0_17 hcs, kd_t (cs_K18 hcs), cs_N18 hcs, cs_P7_0 hcs, cs_P7_1 hcs, cs_P7_2 hcs, lt_t, nn_t, bd_t, bdD_t, bdP_t, nI_clamp, gi_n, nI_add, nI_1, pk_mul, b2_eq0, b2_01, nb_t, if_true, if_false, ni_le, ni_eq, ni_lt, h.g1.st1, c_isFace hcs F, cf1, c_isClass hcs h.g2.t, cf2, s1, fc.p, kd_t fc.sh.k, fc.g7, c_within, cIn0_t (show s 12 f < 2 ^ 31 by omega) hk, fc.sh.p6, kd_t fc.sh.k2, fc.sh.n2, fc.ow k hk, kd_t o.k, o.p, kd_t o.rs.k, hh, o.tr.1, f1, l0_gt, l3_e]
    rw [if_neg (by omega), if_neg (by decide), if_neg (by decide), if_neg (by decide), decide_eq_false m1, if_pos rfl, if_neg hl3]
theorem ct_face (b : BI s) {l nm pk o : Nat} (hl : l < s 1 0) (hn : nm < 26) (hp : pk < 4) (ho : o ≤ 1) (h12 : s 5 0 ≠ 12) (t : CT d x s) : CT (wL d (x + 2) (24 + s 5 0) (bi (24 + s 5 0) ||| bi 7)) x (sFa s l nm pk o) := by
  have b' := bi_face b hl hn hp ho h12
  have hF := b.faces
  have hc := b.classes
  have e : ∀ k i, k < 5 ∨ 9 < k → sFa s l nm pk o k i = s k i := by
    intro k i h1
    unfold sFa
    rw [up2_ne (by omega), up2_ne (by omega), up2_ne (by omega), up2_ne (by omega), up2_ne (by omega)]
  have e5 : sFa s l nm pk o 5 0 = s 5 0 + 1 := by unfold sFa; rw [up2_eq]
  have hFE : FE (sFa s l nm pk o) = FE s := by
    funext f g
    unfold FE
    rw [e 11 f (.inr (by omega))]
    simp only [fun p => e 10 (2 * f + p) (.inr (by omega))]
  have hte : ∀ a c, a ≠ 24 + s 5 0 → (TE (sFa s l nm pk o) a c ↔ TE s a c) := by
    intro a c ha
    unfold TE
    rw [e5, e 3 0 (.inl (by omega)), e 4 a (.inl (by omega)), hFE]
    constructor
    · rintro (w | w | w)
      · exact .inl w
      · exact .inr (.inl ⟨w.1, by omega, w.2.2⟩)
      · exact .inr (.inr w)
    · rintro (w | w | w)
      · exact .inl w
      · exact .inr (.inl ⟨w.1, by omega, w.2.2⟩)
      · exact .inr (.inr w)
  have nty : ¬ ty s (24 + s 5 0) := by unfold ty; omega
  have h3 : ∀ a c, a ≠ 24 + s 5 0 → TE s a c → c ≠ 24 + s 5 0 := fun a c _ w e => nty (e ▸ (te_ty b w).2)
  have h2 : ∀ a c, TE (sFa s l nm pk o) a c → c ≠ 24 + s 5 0 := by
    intro a c w
    by_cases ha : a = 24 + s 5 0
    · have := te_lt b' w
      omega
    · exact h3 a c ha ((hte a c ha).mp w)
  have hr : ∀ a c, a ≠ 24 + s 5 0 → (Rch (TE (sFa s l nm pk o)) a c ↔ Rch (TE s) a c) := fun a c ha => rch_cg hte h2 h3 ha
  have hty : ∀ a, a ≠ 24 + s 5 0 → (ty (sFa s l nm pk o) a ↔ ty s a) := by
    intro a ha
    unfold ty
    rw [e5, e 3 0 (.inl (by omega))]
    omega
  refine ⟨by rw [dI_wL, e 3 0 (.inl (by omega))]; exact t.1, fun a c ha hcc => ?_⟩
  rw [dL_wL]
  by_cases ca : a = 24 + s 5 0
  · rw [if_pos ⟨rfl, ca⟩, bl_or, bl_bi (by omega) hcc, bl_bi (by omega) hcc, ca, Bool.or_eq_true, decide_eq_true_iff, decide_eq_true_iff]
    constructor
    · rintro (w | w)
      · exact ⟨by unfold ty; rw [e5]; omega, w ▸ Rch_r _ _⟩
      · exact ⟨by unfold ty; rw [e5]; omega, w ▸ Rch_e (.inr (.inl ⟨by omega, by rw [e5]; omega, .inl rfl⟩))⟩
    · rintro ⟨-, w⟩
      rcases Rch_c w with w | ⟨b1, w1, w2⟩
      · exact .inl w.symm
      · right
        rcases w1 with w1 | w1 | w1
        · rw [e 3 0 (.inl (by omega))] at w1; omega
        · rcases w1.2.2 with w3 | ⟨g, w3, w4⟩
          · rw [w3] at w2
            rcases Rch_c w2 with w5 | ⟨b2, w5, -⟩
            · exact w5.symm
            · have := te_lt b' w5
              rcases w5 with w5 | w5 | w5 <;> omega
          · rw [hFE] at w3
            obtain ⟨p, hp1, -⟩ := w3
            rw [show 24 + s 5 0 - 24 = s 5 0 by omega, b.parentN0 _ (Nat.le_refl _)] at hp1
            omega
        · omega
  · rw [if_neg (fun w => ca w.2), hr a c ca, hty a ca]
    exact t.2 a c ha hcc
def fcA (S : gS) : gS := nS S 4 0
def fcB (S : gS) : gS := wP (nS (fcA S) 50 2) (sZ S) 4 (some (sZ S + 1))
def fcC (S : gS) : gS := wP (nS (fcB S) 61 6) (sZ S) 6 (some (sZ S + 2))
def fcE (S : gS) : gS := wP (nS (fcC S) 61 72) (sZ S) 8 (some (sZ S + 3))
def fcD (S : gS) (d : gD) (v1 v2 v3 v4 : Int32) : gD := wI (wI (wI (wI (nD (fcC S) (nD (fcB S) (nD (fcA S) (nD S d)))) (sZ S) 0 v1) (sZ S) 1 v2) (sZ S) 2 v3) (sZ S) 3 v4
theorem c_fcInit {v1 v2 v3 v4 : Int32} (h4 : v4 = 0 ∨ v4 = 1) : f_Fc_init (nS S 4 0) (nD S d) (sZ S) v1 v2 v3 v4 = some (((), fcE S, fcD S d v1 v2 v3 v4), 3, 80) := by
  have k1 : sK (nS (fcA S) 50 2) (sZ S) = 4 := by simp [fcA, sK_nS, sZ_nS]
  have k2 : sK (nS (fcB S) 61 6) (sZ S) = 4 := by simp [fcB, fcA, sK_nS, sK_wP, sZ_nS, sZ_wP, Nat.add_assoc]
  have k3 : sK (nS (fcC S) 61 72) (sZ S) = 4 := by simp [fcC, fcB, fcA, sK_nS, sK_wP, sZ_nS, sZ_wP, Nat.add_assoc]
  unfold f_Fc_init
  rw [nl_t (by decide), show (2 : Int32).toNatClampNeg = 2 from by decide]
  show ac 1 2 (kd (nS (fcA S) 50 2) (sZ S) 4 _) = _
  rw [kd_t k1, show (6 : Int32).toNatClampNeg = 6 from by decide]
  show ac 1 2 (nl 6 (ac 1 6 (kd (nS (fcB S) 61 6) (sZ S) 4 _))) = _
  rw [nl_t (by decide), kd_t k2, show (72 : Int32).toNatClampNeg = 72 from by decide]
  show ac 1 2 (ac 1 6 (nl 72 (ac 1 72 (kd (nS (fcC S) 61 72) (sZ S) 4 _)))) = _
  rw [nl_t (by decide), kd_t k3]
  simp only [lt_t, nb_t h4]
  rfl
theorem c_fcInit_s {v1 v2 v3 v4 : Int32} : FCs (fcE S) (sZ S) ∧ sZ (fcE S) = sZ S + 4 ∧ Fm (fun _ _ => False) S d (fcE S) (fcD S d v1 v2 v3 v4) ∧ dI (fcD S d v1 v2 v3 v4) (sZ S) 0 = v1 ∧ dI (fcD S d v1 v2 v3 v4) (sZ S) 1 = v2 ∧ dI (fcD S d v1 v2 v3 v4) (sZ S) 2 = v3 ∧ dI (fcD S d v1 v2 v3 v4) (sZ S) 3 = v4 ∧ dI (fcD S d v1 v2 v3 v4) (sZ S) 5 = 0 ∧ dI (fcD S d v1 v2 v3 v4) (sZ S) 7 = 0 ∧ dI (fcD S d v1 v2 v3 v4) (sZ S) 9 = 0 := by
  refine ⟨⟨?_, ?_, ?_, ?_, ?_, ?_, ?_, ?_, ?_, ?_⟩, rfl, ?_, ?_, ?_, ?_, ?_, ?_, ?_, ?_⟩
  · simp [fcE, fcC, fcB, fcA, sK_nS, sK_wP, sZ_nS, sZ_wP, Nat.add_assoc]
  · simp [fcE, fcC, fcB, fcA, sP_nS, sP_wP, sZ_nS, sZ_wP, Nat.add_assoc]
  · simp [fcE, fcC, fcB, fcA, sK_nS, sK_wP, sZ_nS, sZ_wP, Nat.add_assoc]
  · simp [fcE, fcC, fcB, fcA, sN_nS, sN_wP, sZ_nS, sZ_wP, Nat.add_assoc]
  · simp [fcE, fcC, fcB, fcA, sP_nS, sP_wP, sZ_nS, sZ_wP, Nat.add_assoc]
  · simp [fcE, fcC, fcB, fcA, sK_nS, sK_wP, sZ_nS, sZ_wP, Nat.add_assoc]
  · simp [fcE, fcC, fcB, fcA, sN_nS, sN_wP, sZ_nS, sZ_wP, Nat.add_assoc]
  · simp [fcE, fcC, fcB, fcA, sP_nS, sP_wP, sZ_nS, sZ_wP, Nat.add_assoc]
  · simp [fcE, fcC, fcB, fcA, sK_nS, sK_wP, sZ_nS, sZ_wP, Nat.add_assoc]
  · simp [fcE, fcC, fcB, fcA, sN_nS, sN_wP, sZ_nS, sZ_wP, Nat.add_assoc]
  · exact fm_nI (fm_nI (fm_nI (fm_nI (fm_nP (fm_nN (fm_nP (fm_nN (fm_nP (fm_nN fm_nS) (Nat.le_refl _))) (Nat.le_refl _))) (Nat.le_refl _)) (Nat.le_refl _)) (Nat.le_refl _)) (Nat.le_refl _)) (Nat.le_refl _)
  all_goals simp [fcD, fcC, fcB, fcA, dI_wI, dI_nD, sZ_nS, sZ_wP, Nat.add_assoc]
end st
