section st
variable {S S1 : gS} {d d1 : gD} {x : Nat} {s s' : Nat → Nat → Nat} {A A' : Nat → Nat → Nat} {hd : Nat → Int32} {U : Nat → Prop} {D : List (Nat × List Nat)} {q : (Nat → Int64) × Int64 × (Nat → Int64) × (Nat → Int32)}
theorem nk_pgm (F : CF S d x s A) {c j k : Nat} (hk : sK S c = k) (h1 : k ≠ 4 ∨ j ≠ 9) (h2 : k ≠ 61 ∨ sN S c ≠ 72) (h3 : c ≠ x ∨ j ≠ 13) : ¬ PGM x s A c j := by
  rintro (p | p)
  · exact nk_pga F hk h1 h2 p
  · omega
theorem g1_pgm (h : G1 S d x s A hd) (g : Fm (PGM x s A) S d S1 d1) (e13 : dI d1 x 13 = 1) (al : ∀ f, f < s 5 0 → AL S1 d1 A (A 0 f) (lst s f)) : G1 S1 d1 x s A hd := by
  have hx := h.ce.hx
  have F := h.ce.F
  have hcs := h.ce.cs
  have ce : CE S1 d1 x s A := by
    refine ⟨cs_fm g hcs hx (fun a j hs => ?_), Nat.lt_of_lt_of_le hx g.1, ⟨(fm_I g (by omega) (nk_pgm F (cs_K0 hcs) (.inl (by omega)) (.inl (by omega)) (by omega))).trans F.1, fun f hf => ?_, F.2.2⟩, fun i hi => ?_, h.ce.M.2⟩
    · rcases hs with ⟨rfl, w⟩ | ⟨rfl, w⟩ | ⟨rfl, w⟩ | ⟨rfl, w⟩ | ⟨rfl, w⟩ | rfl
      · exact nk_pgm F (cs_K0 hcs) (.inl (by omega)) (.inl (by omega)) (by omega)
      · exact nk_pgm F (cs_K1 hcs) (.inl (by omega)) (.inl (by omega)) (by omega)
      · exact nk_pgm F (cs_K9 hcs) (.inl (by omega)) (.inl (by omega)) (by omega)
      · exact nk_pgm F (cs_K11 hcs) (.inl (by omega)) (.inl (by omega)) (by omega)
      · exact nk_pgm F (cs_K13 hcs) (.inl (by omega)) (.inl (by omega)) (by omega)
      · exact nk_pgm F (cs_K7 hcs) (.inl (by omega)) (.inr (by rw [cs_N7 hcs]; omega)) (by omega)
    · have c := F.2.1 f hf
      have clo := c.lo
      exact fc_fm g c hx (nk_pgm F (cs_K4 hcs) (.inl (by omega)) (.inl (by omega)) (by omega)) (fun j hj => nk_pgm F c.sh.k (.inr hj) (.inl (by omega)) (by omega)) (fun j => nk_pgm F c.sh.k1 (.inl (by omega)) (.inl (by omega)) (by omega)) (fun j => nk_pgm F c.sh.k2 (.inl (by omega)) (.inr (by rw [c.sh.n2]; omega)) (by omega))
    · have o := h.ce.M.1 i hi
      have olo := o.lo
      exact om_fm g o (fun j => ⟨nk_pgm F o.k (.inl (by omega)) (.inl (by omega)) (by omega), nk_pgm F o.rs.k (.inl (by omega)) (.inl (by omega)) (by omega), nk_pgm F o.rs.ak (.inl (by omega)) (.inl (by omega)) (by omega)⟩)
  refine ⟨ce, .inr ⟨e13, al⟩, (fm_I g (by omega) (nk_pgm F (cs_K0 hcs) (.inl (by omega)) (.inl (by omega)) (by omega))).trans h.st1, fun c hc => ?_, h.st3, dk_fm g h.dk hx (fun i _ => nk_pgm F (cs_K10 hcs) (.inl (by omega)) (.inl (by omega)) (by omega)) (fun a j ha _ hk => ?_)⟩
  · have si := h.st2 c hc
    have slo := si.lo
    have sul := si.ul
    refine si_fm g si hx (nk_pgm F (cs_K8 hcs) (.inl (by omega)) (.inl (by omega)) (by omega)) (fun j => nk_pgm F si.k (.inl (by omega)) (.inl (by omega)) (by omega)) (fun j => nk_pgm F si.k1 (.inl (by omega)) (.inl (by omega)) (by omega)) (fun i j hi => ?_) (fun j => nk_pgm F si.k5 (.inl (by omega)) (.inl (by omega)) (by omega))
    obtain ⟨m1, m2, m3, -⟩ := si.me i hi
    have kk := sms_k m2
    exact ⟨nk_pgm F m2.k (.inl (by omega)) (.inl (by omega)) (by omega), nk_pgm F kk.1 (.inl (by omega)) (.inl (by omega)) (by omega), nk_pgm F kk.2.1 (.inl (by omega)) (.inl (by omega)) (by omega), nk_pgm F kk.2.2.1 (.inl (by omega)) (.inl (by omega)) (by omega), nk_pgm F kk.2.2.2 (.inl (by omega)) (.inl (by omega)) (by omega)⟩
  · rcases hk with w | w
    · exact nk_pgm F w.1 (.inl (by omega)) (.inl (by omega)) (by omega)
    · exact nk_pgm F w.1 (.inl (by omega)) (.inl (by omega)) (by omega)
theorem g1_dr (h : G1 S d x s A hd) (hU : ∀ v, U v ↔ (∃ i, i < 75 ∧ sP S (x + 10) i = some v) ∨ sZ S ≤ v) (al : dI d x 13 = 1 ∧ ∀ g, g < s 5 0 → AL S d A (A 0 g) (lst s g)) (g : Fm (PDr x U) S d S1 d1) (K : DK S1 x U) : UC S x U ∧ G1 S1 d1 x s A hd := by
  have hx := h.ce.hx
  have F := h.ce.F
  have hcs := h.ce.cs
  have u : UC S x U := by
    intro v hv
    rcases (hU v).mp hv with ⟨i, hi, e⟩ | w
    · obtain ⟨k1, k2, k3, -⟩ := h.dk.sl i v hi e
      exact ⟨k2, fun _ => ⟨k1, k3⟩⟩
    · exact ⟨by omega, fun c => by omega⟩
  have nts : ∀ v, U v → v < sZ S → ¬ TS s A v := by
    intro v hv hlt
    rcases (hU v).mp hv with ⟨i, hi, e⟩ | w
    · exact (h.dk.sl i v hi e).2.2.2
    · omega
  refine ⟨u, ce_dr h.ce u g, .inr ⟨(fm_I g (by omega) (npdr_s u (o := 0) (by omega) (by omega) (by omega) (by omega) (by omega))).trans al.1, fun f hf => al_dr h.ce u g hf (al.2 f hf)⟩, (fm_I g (by omega) (npdr_s u (o := 0) (by omega) (by omega) (by omega) (by omega) (by omega))).trans h.st1, fun c hc => ?_, h.st3, fun i v hi hv => ?_, K.inj⟩
  · have si := h.st2 c hc
    have slo := si.lo
    have shi := si.hi
    have sul := si.ul
    have nk : ∀ a j κ, sK S a = κ → a < sZ S → x + 64 < a → κ ≠ 7 → κ ≠ 2 → κ ≠ 50 → ¬ PDr x U a j := fun a j κ hκ ha hlo h1 h2 h3 => npdr_k u ha hlo (by rw [hκ]; exact h1) (fun e => by rw [hκ] at e; omega) (fun e => by rw [hκ] at e; omega)
    refine si_fm g si hx (npdr_s u (o := 8) (by omega) (by omega) (by omega) (by omega) (by omega)) (fun j => nk _ _ _ si.k (by omega) (by omega) (by omega) (by omega) (by omega)) (fun j => nk _ _ _ si.k1 (by omega) (by omega) (by omega) (by omega) (by omega)) (fun i j hi => ?_) (fun j => nk _ _ _ si.k5 (by omega) (by omega) (by omega) (by omega) (by omega))
    obtain ⟨m1, m2, m3, m4, -⟩ := si.me i hi
    have kk := sms_k m2
    have hts : TS s A (A 3 (40 * c + i)) := ⟨c, i, hc, hi, rfl⟩
    have cell : ∀ o, o ≤ 4 → ¬ PDr x U (A 3 (40 * c + i) + o) j := by
      intro o ho
      rintro (w | w | w | ⟨v, hv, w⟩)
      · omega
      · omega
      · unfold PRw at w; omega
      · have hvl : v < sZ S := by
          rcases w with w | w | w <;> omega
        have hvs := (u v hv).2 hvl
        have hne : v ≠ A 3 (40 * c + i) := fun e => nts v hv hvl (e ▸ hts)
        have kv := sms_k hvs.1
        have k0 := hvs.1.k
        have cases5 : o = 0 ∨ o = 1 ∨ o = 2 ∨ o = 3 ∨ o = 4 := by omega
        rcases w with w | w | w
        · have e0 : v = A 3 (40 * c + i) + o := by omega
          rcases cases5 with rfl | rfl | rfl | rfl | rfl
          · exact hne e0
          · rw [e0, kk.1] at k0; cases k0
          · rw [e0, kk.2.1] at k0; cases k0
          · rw [e0, kk.2.2.1] at k0; cases k0
          · rw [e0, kk.2.2.2] at k0; cases k0
        · have e0 : v + 1 = A 3 (40 * c + i) + o := by omega
          have k1 := kv.1
          rw [e0] at k1
          rcases cases5 with rfl | rfl | rfl | rfl | rfl
          · have := m2.k; rw [Nat.add_zero] at k1; rw [k1] at this; cases this
          · exact hne (by omega)
          · rw [kk.2.1] at k1; cases k1
          · rw [show v = A 3 (40 * c + i) + 2 by omega, kk.2.1] at k0; cases k0
          · rw [kk.2.2.2] at k1; cases k1
        · have e0 : v + 2 = A 3 (40 * c + i) + o := by omega
          have k1 := kv.2.1
          rw [e0] at k1
          rcases cases5 with rfl | rfl | rfl | rfl | rfl
          · have := m2.k; rw [Nat.add_zero] at k1; rw [k1] at this; cases this
          · rw [kk.1] at k1; cases k1
          · exact hne (by omega)
          · rw [kk.2.2.1] at k1; cases k1
          · rw [show v = A 3 (40 * c + i) + 2 by omega, kk.2.1] at k0; cases k0
    exact ⟨cell 0 (by omega), cell 1 (by omega), cell 2 (by omega), cell 3 (by omega), cell 4 (by omega)⟩
  · obtain ⟨k1, k2, k3, k4⟩ := K.sl i v hi hv
    refine ⟨k1, k2, k3, fun t => ?_⟩
    have tl : v < sZ S := by
      obtain ⟨c, j, c1, c2, c3⟩ := t
      have := ((h.st2 c c1).me j c2).2.2.2.1
      omega
    exact nts v k4 tl t
def Pq (x : Nat) (a j : Nat) : Prop := x + 64 < a ∨ (a = x ∧ j = 13) ∨ (x + 9 ≤ a ∧ a ≤ x + 12)
theorem c_draft (h : G1 S d x s A hd) (t : CT d x s) (b : BI s) (rt : RT s) {v : Int32} (ho : okL s v) : ∃ S' d' n m U, f_M_fillDraft S d x v = some (((), S', d'), n, m) ∧ n ≤ 375 ∧ m ≤ 2925 ∧ G1 S' d' x s A hd ∧ Fm (Pq x) S d S' d' ∧ DK S' x U ∧ DC S' d' x A (perm s (dsc s v)) ∧ (∀ u, U u → ¬ TS s A u) := by
  have hcs := h.ce.cs
  have hx := h.ce.hx
  have F := h.ce.F
  have g0 := GF_dscK b ho _ (Nat.le_refl _)
  rw [show dscK s v (ln v) = dsc s v from rfl] at g0
  have hlen := GF_len g0
  have step : ∀ S5 d6, G1 S5 d6 x s A hd → CT d6 x s → (dI d6 x 13 = 1 ∧ ∀ g, g < s 5 0 → AL S5 d6 A (A 0 g) (lst s g)) → Fm (Pq x) S d S5 d6 → f_M_fillDraft S d x v = f_M_fillDraft_J11 x S5 d6 v → ∃ S' d' n m U, f_M_fillDraft S d x v = some (((), S', d'), n, m) ∧ n ≤ 375 ∧ m ≤ 2925 ∧ G1 S' d' x s A hd ∧ Fm (Pq x) S d S' d' ∧ DK S' x U ∧ DC S' d' x A (perm s (dsc s v)) ∧ (∀ u, U u → ¬ TS s A u) := by
    intro S5 d6 g5 t5 al5 fm5 ev
    let U : Nat → Prop := fun v => (∃ i, i < 75 ∧ sP S5 (x + 10) i = some v) ∨ sZ S5 ≤ v
    have hx5 := g5.ce.hx
    have K5 : DK S5 x U := ⟨fun i v hi hv => ⟨(g5.dk.sl i v hi hv).1, (g5.dk.sl i v hi hv).2.1, (g5.dk.sl i v hi hv).2.2.1, .inl ⟨i, hi, hv⟩⟩, g5.dk.inj⟩
    have u5 : UC S5 x U := (g1_dr (U := U) g5 (fun _ => Iff.rfl) al5 fm_r K5).1
    have B : FB S5 d6 x s A U := ⟨b, g5.ce, t5, u5, fun v hv => .inr hv, al5.2⟩
    obtain ⟨S', d', n, m, f1, FDr⟩ := c_fd_11 B rt K5 ho
    have g1' := (g1_dr (U := U) g5 (fun _ => Iff.rfl) al5 FDr.fm FDr.K).2
    have n1 := FDr.n1
    have n2 := FDr.n2
    refine ⟨S', d', n, m, U, by rw [ev]; exact f1, by omega, by omega, g1', fm_t fm5 (fm_m FDr.fm (fun a j ha w => ?_)), FDr.K, FDr.C, fun w hw tt => ?_⟩
    · rcases w with w | w | w | ⟨v, hv, w⟩
      · unfold Pq; omega
      · unfold Pq; omega
      · unfold PRw at w; unfold Pq; omega
      · have := (u5 v hv).1
        unfold PRw at w; unfold Pq; omega
    · rcases hw with ⟨i, hi, e⟩ | hw
      · exact (g5.dk.sl i w hi e).2.2.2 tt
      · obtain ⟨c, j, c1, c2, c3⟩ := tt
        have := ((g5.st2 c c1).me j c2).2.2.2.1
        omega
  rcases h.al with a | a
  · obtain ⟨S5, d6, f5, fm5, e13, al5⟩ := c_gatherMethods b h.ce
    have g5 := g1_pgm h fm5 e13 al5
    refine step S5 d6 g5 (ct_fm fm5 t hx (nk_pgm F (cs_K1 hcs) (.inl (by omega)) (.inl (by omega)) (by omega)) (fun j => nk_pgm F (cs_K2 hcs) (.inl (by omega)) (.inl (by omega)) (by omega))) ⟨e13, al5⟩ (fm_m fm5 (fun a j _ w => ?_)) ?_
    · rcases w with ⟨f, hf, w⟩ | w
      · have := (F.2.1 f hf).lo
        unfold PG at w
        unfold Pq; omega
      · unfold Pq; omega
    · simp (maxSteps := 1000000) (disch := omega) only [f_M_fillDraft, kd_t (cs_K0 hcs), cs_P0_0 hcs, kd_t (cs_K1 hcs), cs_P1_0 hcs, kd_t (cs_K2 hcs), cs_N2 hcs, cs_P0_1 hcs, kd_t (cs_K3 hcs), cs_N3 hcs, cs_P0_3 hcs, kd_t (cs_K4 hcs), cs_N4 hcs, cs_P0_5 hcs, kd_t (cs_K5 hcs), cs_N5 hcs, cs_P0_6 hcs, kd_t (cs_K6 hcs), cs_N6 hcs, cs_P0_8 hcs, kd_t (cs_K7 hcs), cs_N7 hcs, cs_P0_9 hcs, kd_t (cs_K8 hcs), cs_N8 hcs, cs_P0_11 hcs, kd_t (cs_K9 hcs), cs_P9_0 hcs, cs_P9_1 hcs, kd_t (cs_K10 hcs), cs_N10 hcs, cs_P9_3 hcs, kd_t (cs_K11 hcs), cs_P11_0 hcs, kd_t (cs_K12 hcs), cs_N12 hcs, cs_P0_12 hcs, kd_t (cs_K13 hcs), cs_P13_0 hcs, kd_t (cs_K14 hcs), cs_N14 hcs, cs_P13_2 hcs, kd_t (cs_K15 hcs), cs_N15 hcs, cs_P13_4 hcs, kd_t (cs_K16 hcs), cs_N16 hcs, cs_P0_16 hcs, kd_t (cs_K17 hcs), cs_N17 hcs, cs_P0_17 hcs, kd_t (cs_K18 hcs), cs_N18 hcs, cs_P7_0 hcs, cs_P7_1 hcs, cs_P7_2 hcs, lt_t, nn_t, bd_t, bdD_t, bdP_t, nI_clamp, gi_n, nI_add, nI_1, pk_mul, b2_eq0, b2_01, nb_t, if_true, if_false, ni_le, ni_eq, ni_lt, a, f5]
  · refine step S d h t a fm_r ?_
    simp (maxSteps := 1000000) (disch := omega) only [f_M_fillDraft, kd_t (cs_K0 hcs), cs_P0_0 hcs, kd_t (cs_K1 hcs), cs_P1_0 hcs, kd_t (cs_K2 hcs), cs_N2 hcs, cs_P0_1 hcs, kd_t (cs_K3 hcs), cs_N3 hcs, cs_P0_3 hcs, kd_t (cs_K4 hcs), cs_N4 hcs, cs_P0_5 hcs, kd_t (cs_K5 hcs), cs_N5 hcs, cs_P0_6 hcs, kd_t (cs_K6 hcs), cs_N6 hcs, cs_P0_8 hcs, kd_t (cs_K7 hcs), cs_N7 hcs, cs_P0_9 hcs, kd_t (cs_K8 hcs), cs_N8 hcs, cs_P0_11 hcs, kd_t (cs_K9 hcs), cs_P9_0 hcs, cs_P9_1 hcs, kd_t (cs_K10 hcs), cs_N10 hcs, cs_P9_3 hcs, kd_t (cs_K11 hcs), cs_P11_0 hcs, kd_t (cs_K12 hcs), cs_N12 hcs, cs_P0_12 hcs, kd_t (cs_K13 hcs), cs_P13_0 hcs, kd_t (cs_K14 hcs), cs_N14 hcs, cs_P13_2 hcs, kd_t (cs_K15 hcs), cs_N15 hcs, cs_P13_4 hcs, kd_t (cs_K16 hcs), cs_N16 hcs, cs_P0_16 hcs, kd_t (cs_K17 hcs), cs_N17 hcs, cs_P0_17 hcs, kd_t (cs_K18 hcs), cs_N18 hcs, cs_P7_0 hcs, cs_P7_1 hcs, cs_P7_2 hcs, lt_t, nn_t, bd_t, bdD_t, bdP_t, nI_clamp, gi_n, nI_add, nI_1, pk_mul, b2_eq0, b2_01, nb_t, if_true, if_false, ni_le, ni_eq, ni_lt, a.1]
    rw [if_neg (by decide)]
end st
