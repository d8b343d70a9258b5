section cls
variable {S : gS} {d : gD} {x : Nat} {s : Nat → Nat → Nat} {A : Nat → Nat → Nat}
theorem fc_fm {P : Nat → Nat → Prop} {S' : gS} {d' : gD} {f : Nat} (h : Fm P S d S' d') (c : FC S d x s A f) (hx : x + 64 < sZ S) (n0 : ¬ P (x + 4) f) (n1 : ∀ j, j ≠ 9 → ¬ P (A 0 f) j) (n2 : ∀ j, ¬ P (A 0 f + 1) j) (n3 : ∀ j, ¬ P (A 0 f + 2) j) : FC S' d' x s A f := by
  have hh := c.hi
  have hs := c.sh
  have I : ∀ j, j ≠ 9 → dI d' (A 0 f) j = dI d (A 0 f) j := fun j hj => fm_I h (by omega) (n1 j hj)
  have K : ∀ o, o < 4 → sK S' (A 0 f + o) = sK S (A 0 f + o) := fun o ho => fm_K h (by omega)
  have N : ∀ o, o < 4 → sN S' (A 0 f + o) = sN S (A 0 f + o) := fun o ho => fm_N h (by omega)
  have Q : ∀ j, j ≠ 9 → sP S' (A 0 f) j = sP S (A 0 f) j := fun j hj => fm_P h (by omega) (n1 j hj)
  exact ⟨(fm_P h (by omega) n0).trans c.p, c.lo, Nat.lt_of_lt_of_le hh h.1, ⟨(K 0 (by omega)).trans hs.k, (Q 4 (by omega)).trans hs.p4, (K 1 (by omega)).trans hs.k1, (N 1 (by omega)).trans hs.n1, (Q 6 (by omega)).trans hs.p6, (K 2 (by omega)).trans hs.k2, (N 2 (by omega)).trans hs.n2, (Q 8 (by omega)).trans hs.p8, (K 3 (by omega)).trans hs.k3, (N 3 (by omega)).trans hs.n3⟩, (I 0 (by omega)).trans c.g0, (I 1 (by omega)).trans c.g1, (I 2 (by omega)).trans c.g2, (I 3 (by omega)).trans c.g3, (I 5 (by omega)).trans c.g5, fun p hp => (fm_I h (by omega) (n2 p)).trans (c.gp p hp), (I 7 (by omega)).trans c.g7, fun k hk => (fm_P h (by omega) (n3 k)).trans (c.ow k hk)⟩
def PGA (s A : Nat → Nat → Nat) (c j : Nat) : Prop := ∃ f, f < s 5 0 ∧ PG (A 0 f) c j
theorem pga_k (F : CF S d x s A) {c j : Nat} (p : PGA s A c j) : (sK S c = 4 ∧ j = 9) ∨ (sK S c = 61 ∧ sN S c = 72) := by
  obtain ⟨f, hf, h | h⟩ := p
  · exact .inl ⟨by rw [h.1]; exact (F.2.1 f hf).sh.k, h.2⟩
  · exact .inr ⟨by rw [h]; exact (F.2.1 f hf).sh.k3, by rw [h]; exact (F.2.1 f hf).sh.n3⟩
theorem nk_pga (F : CF S d x s A) {c j k : Nat} (hk : sK S c = k) (h1 : k ≠ 4 ∨ j ≠ 9) (h2 : k ≠ 61 ∨ sN S c ≠ 72) : ¬ PGA s A c j := by
  intro p
  rcases pga_k F p with h | h
  · rcases h1 with q | q
    · exact q (hk.symm.trans h.1)
    · exact q h.2
  · rcases h2 with q | q
    · exact q (hk.symm.trans h.1)
    · exact q h.2
theorem fc_pga {S' : gS} {d' : gD} (h : CS S x) (hx : x + 64 < sZ S) (F : CF S d x s A) (g : Fm (PGA s A) S d S' d') : CF S' d' x s A :=
  ⟨(fm_I g (by omega) (nk_pga F (cs_K0 h) (.inl (by omega)) (.inl (by omega)))).trans F.1, fun f hf => by
    have c := F.2.1 f hf
    exact fc_fm g c hx (nk_pga F (cs_K4 h) (.inl (by omega)) (.inl (by omega))) (fun j hj => nk_pga F c.sh.k (.inr hj) (.inl (by omega))) (fun j => nk_pga F c.sh.k1 (.inl (by omega)) (.inl (by omega))) (fun j => nk_pga F c.sh.k2 (.inl (by omega)) (.inr (by rw [c.sh.n2]; omega))), F.2.2⟩
theorem om_pga {S' : gS} {d' : gD} (F : CF S d x s A) (M : CM S d x s A) (g : Fm (PGA s A) S d S' d') : CM S' d' x s A :=
  ⟨fun i hi => om_fm g (M.1 i hi) (fun j => ⟨nk_pga F (M.1 i hi).k (.inl (by omega)) (.inl (by omega)), nk_pga F (M.1 i hi).rs.k (.inl (by omega)) (.inl (by omega)), nk_pga F (M.1 i hi).rs.ak (.inl (by omega)) (.inl (by omega))⟩), M.2⟩
theorem cs_pga {S' : gS} {d' : gD} (h : CS S x) (hx : x + 64 < sZ S) (F : CF S d x s A) (g : Fm (PGA s A) S d S' d') : CS S' x := by
  refine cs_fm g h hx (fun a j hs => ?_)
  rcases hs with ⟨rfl, -⟩ | ⟨rfl, -⟩ | ⟨rfl, -⟩ | ⟨rfl, -⟩ | ⟨rfl, -⟩ | rfl
  · exact nk_pga F (cs_K0 h) (.inl (by omega)) (.inl (by omega))
  · exact nk_pga F (cs_K1 h) (.inl (by omega)) (.inl (by omega))
  · exact nk_pga F (cs_K9 h) (.inl (by omega)) (.inl (by omega))
  · exact nk_pga F (cs_K11 h) (.inl (by omega)) (.inl (by omega))
  · exact nk_pga F (cs_K13 h) (.inl (by omega)) (.inl (by omega))
  · exact nk_pga F (cs_K7 h) (.inl (by omega)) (.inr (by rw [cs_N7 h]; omega))
theorem al_sep (F : CF S d x s A) {S' : gS} {d' : gD} {f g : Nat} (hf : f < s 5 0) (hg : g < s 5 0) (hne : f ≠ g) {l : List Nat} (al : AL S d A (A 0 g) l) (m : Fm (PG (A 0 f)) S d S' d') : AL S' d' A (A 0 g) l := by
  have c1 := F.2.1 f hf
  have c2 := F.2.1 g hg
  have hh := c2.hi
  have hd : A 0 f ≠ A 0 g := by
    rcases Nat.lt_or_gt_of_ne hne with q | q
    · have := F.2.2 f g q hg; omega
    · have := F.2.2 g f q hf; omega
  refine ⟨(fm_I m (by omega) ?_).trans al.1, fun i hi => (fm_P m (by omega) ?_).trans (al.2 i hi)⟩
  · rintro (q | q)
    · exact hd q.1.symm
    · have := c2.sh.k; rw [q, c1.sh.k3] at this; cases this
  · rintro (q | q)
    · have := c2.sh.k3; rw [q.1, c1.sh.k] at this; cases this
    · omega
theorem pg_pga {f : Nat} (hf : f < s 5 0) : ∀ a j, a < sZ S → PG (A 0 f) a j → PGA s A a j := fun _ _ _ p => ⟨f, hf, p⟩
def CE (S : gS) (d : gD) (x : Nat) (s : Nat → Nat → Nat) (A : Nat → Nat → Nat) : Prop := (CS S x) ∧ (x + 64 < sZ S) ∧ (CF S d x s A) ∧ (CM S d x s A)
theorem CE.cs {S : gS} {d : gD} {x : Nat} {s : Nat → Nat → Nat} {A : Nat → Nat → Nat} (h : CE S d x s A) : CS S x := h.1
theorem CE.hx {S : gS} {d : gD} {x : Nat} {s : Nat → Nat → Nat} {A : Nat → Nat → Nat} (h : CE S d x s A) : x + 64 < sZ S := h.2.1
theorem CE.F {S : gS} {d : gD} {x : Nat} {s : Nat → Nat → Nat} {A : Nat → Nat → Nat} (h : CE S d x s A) : CF S d x s A := h.2.2.1
theorem CE.M {S : gS} {d : gD} {x : Nat} {s : Nat → Nat → Nat} {A : Nat → Nat → Nat} (h : CE S d x s A) : CM S d x s A := h.2.2.2
theorem ce_pga {S' : gS} {d' : gD} (h : CE S d x s A) (g : Fm (PGA s A) S d S' d') : CE S' d' x s A :=
  ⟨cs_pga h.cs h.hx h.F g, Nat.lt_of_lt_of_le h.hx g.1, fc_pga h.cs h.hx h.F g, om_pga h.F h.M g⟩
theorem c_gatherOwn (b : BI s) (h : CE S d x s A) {f : Nat} (hf : f < s 5 0) : ∃ S' d', f_Fc_gatherOwn S d (A 0 f) = some ((), S', d') ∧ Fm (PG (A 0 f)) S d S' d' ∧ AL S' d' A (A 0 f) (own s f (s 12 f)) := by
  have c := h.F.2.1 f hf
  have h6 := b.ownN f
  unfold f_Fc_gatherOwn
  simp only [kd_t c.sh.k, lt_t]
  refine itr_q (B := f_Fc_gatherOwn_B7 (A 0 f)) (fun (y : gS × gD × Nat) K => K y.1 y.2.1 (nI y.2.2)) (fun t => ∃ S' d', t = some ((), S', d') ∧ Fm (PG (A 0 f)) S d S' d' ∧ AL S' d' A (A 0 f) (own s f (s 12 f))) (fun k y => y.2.2 = k ∧ Fm (PG (A 0 f)) S d y.1 y.2.1 ∧ AL y.1 y.2.1 A (A 0 f) (own s f k)) (s 12 f) (by omega) ?_ ?_ (x := (S, wI d (A 0 f) 9 0, 0)) ⟨rfl, fm_wI (.inl ⟨rfl, rfl⟩), by rw [dI_wI, if_pos ⟨rfl, rfl⟩]; rfl, fun i hi => absurd hi (Nat.not_lt_zero _)⟩
  · rintro k hk ⟨S1, d1, k'⟩ ⟨rfl, hm, al⟩ K hK
    simp only at hk hm al hK ⊢
    have h1 := ce_pga h (fm_m hm (pg_pga hf))
    have c1 := h1.F.2.1 f hf
    have hv : vm s (6 * f + k') := ⟨by rw [show (6 * f + k') / 6 = f by omega]; exact hf, by rw [show (6 * f + k') / 6 = f by omega, show (6 * f + k') % 6 = k' by omega]; exact hk⟩
    obtain ⟨S2, d2, e2, m2, a2⟩ := c_gather b c1 h1.M (gl_own b hf k' (by omega)) al hv
    simp (maxSteps := 1000000) (disch := omega) only [f_Fc_gatherOwn_B7, l1_m, l1_a, l1_b, l1_s, l1_e, l1_le, l1_ge, l1_lt, l1_gt, lt_t, nn_t, bd_t, bdD_t, bdP_t, nI_clamp, gi_n, nI_add, nI_1, pk_mul, b2_eq0, b2_01, nb_t, if_true, if_false, ni_le, ni_eq, ni_lt, kd_t c1.sh.k, c1.sh.p6, kd_t c1.sh.k2, c1.sh.n2, c1.g7, c1.ow k' hk, e2]
    rw [if_neg (by omega)]
    refine hK (S2, d2, k' + 1) ⟨rfl, fm_t hm m2, ?_⟩
    have : adL (own s f k') (6 * f + k') = own s f (k' + 1) := by
      unfold adL
      rw [if_neg]; · rfl
      intro hmm
      obtain ⟨i, hi, e⟩ := own_mem.mp hmm
      omega
    rw [← this]; exact a2
  · rintro ⟨S1, d1, k'⟩ ⟨rfl, hm, al⟩ K
    simp only at hm al ⊢
    have h1 := ce_pga h (fm_m hm (pg_pga hf))
    have c1 := h1.F.2.1 f hf
    simp (maxSteps := 1000000) (disch := omega) only [f_Fc_gatherOwn_B7, l1_m, l1_a, l1_b, l1_s, l1_e, l1_le, l1_ge, l1_lt, l1_gt, lt_t, nn_t, bd_t, bdD_t, bdP_t, nI_clamp, gi_n, nI_add, nI_1, pk_mul, b2_eq0, b2_01, nb_t, if_true, if_false, ni_le, ni_eq, ni_lt, kd_t c1.sh.k, c1.g7]
    rw [if_pos (Nat.le_refl _)]
    exact ⟨S1, d1, rfl, hm, al⟩
theorem c_gatherFrom (b : BI s) (h : CE S d x s A) {f g : Nat} (hf : f < s 5 0) (hg : g < f) {acc l : List Nat} (hac : gl s acc) (hl : gl s l) (al : AL S d A (A 0 f) acc) (ag : AL S d A (A 0 g) l) : ∃ S' d', f_Fc_gatherFrom S d (A 0 f) (some (A 0 g)) = some ((), S', d') ∧ Fm (PG (A 0 f)) S d S' d' ∧ AL S' d' A (A 0 f) (inhL s f acc l l.length) := by
  have hll := gl_len b hl
  unfold f_Fc_gatherFrom
  refine itr_q (B := f_Fc_gatherFrom_B2 (A 0 f)) (fun (y : gS × gD × Nat) K => K y.1 y.2.1 (some (A 0 g)) (nI y.2.2)) (fun t => ∃ S' d', t = some ((), S', d') ∧ Fm (PG (A 0 f)) S d S' d' ∧ AL S' d' A (A 0 f) (inhL s f acc l l.length)) (fun k y => y.2.2 = k ∧ Fm (PG (A 0 f)) S d y.1 y.2.1 ∧ AL y.1 y.2.1 A (A 0 f) (inhL s f acc l k)) l.length (by omega) ?_ ?_ (x := (S, d, 0)) ⟨rfl, fm_r, al⟩
  · rintro k hk ⟨S1, d1, k'⟩ ⟨rfl, hm, al1⟩ K hK
    simp only at hk hm al1 hK ⊢
    have h1 := ce_pga h (fm_m hm (pg_pga hf))
    have c1 := h1.F.2.1 f hf
    have c2 := h1.F.2.1 g (by omega)
    have ag1 := al_sep h.F hf (by omega) (by omega) ag hm
    have hv := hl.2 _ (getD_mem hk)
    have o := h1.M.1 _ (vx_vm hv)
    have hn := b.nameT (l.getD k' 0)
    obtain ⟨S2, d2, e2, m2, a2⟩ := c_gather b c1 h1.M (gl_inhL (f := f) hac hl k' (by omega)) al1 hv
    have hh := c_hasOwn b hf c1 h1.M (nm := s 13 (l.getD k' 0)) (by omega) (pkp s (l.getD k' 0))
    rw [hasO_hid b hf (vx_vm hv)] at hh
    simp (maxSteps := 1000000) (disch := omega) only [f_Fc_gatherFrom_B2, f_Fc_gatherFrom_J37, l0_e, l0_le, l0_ge, l0_lt, l0_gt, l1_m, l1_a, l1_b, l1_s, l1_e, l1_le, l1_ge, l1_lt, l1_gt, lt_t, nn_t, bd_t, bdD_t, bdP_t, nI_clamp, gi_n, nI_add, nI_1, pk_mul, b2_eq0, b2_01, nb_t, if_true, if_false, ni_le, ni_eq, ni_lt, kd_t c2.sh.k, c2.sh.p8, kd_t c2.sh.k3, c2.sh.n3, ag1.1, ag1.2 k' hk, kd_t o.k, o.g2, o.g3, kd_t c1.sh.k, hh, e2]
    rw [if_neg (by omega)]
    have hst : inhL s f acc l (k' + 1) = inh1 s f (inhL s f acc l k') (l.getD k' 0) := rfl
    cases q : hid s f (l.getD k' 0) with
    | false =>
      rw [if_pos rfl]
      refine hK (S2, d2, k' + 1) ⟨rfl, fm_t hm m2, ?_⟩
      rw [hst]; unfold inh1; rw [q, Bool.false_or]
      unfold adL at a2
      by_cases r : l.getD k' 0 ∈ inhL s f acc l k'
      · rw [if_pos (decide_eq_true r)]; rw [if_pos r] at a2; exact a2
      · rw [if_neg (by rw [decide_eq_false r]; decide)]; rw [if_neg r] at a2; exact a2
    | true =>
      rw [if_neg (by decide)]
      refine hK (S1, d1, k' + 1) ⟨rfl, hm, ?_⟩
      rw [hst]; unfold inh1; rw [q, Bool.true_or, if_pos rfl]; exact al1
  · rintro ⟨S1, d1, k'⟩ ⟨rfl, hm, al1⟩ K
    simp only at hm al1 ⊢
    have h1 := ce_pga h (fm_m hm (pg_pga hf))
    have c2 := h1.F.2.1 g (by omega)
    have ag1 := al_sep h.F hf (by omega) (by omega) ag hm
    simp (maxSteps := 1000000) (disch := omega) only [f_Fc_gatherFrom_B2, l0_e, l0_le, l0_ge, l0_lt, l0_gt, lt_t, nn_t, bd_t, bdD_t, bdP_t, nI_clamp, gi_n, nI_add, nI_1, pk_mul, b2_eq0, b2_01, nb_t, if_true, if_false, ni_le, ni_eq, ni_lt, kd_t c2.sh.k, ag1.1]
    rw [if_pos (Nat.le_refl _)]
    exact ⟨S1, d1, rfl, hm, al1⟩
theorem c_gm_23 (b : BI s) (h : CE S d x s A) {f : Nat} (hf : f < s 5 0) (hal : ∀ g, g < f → AL S d A (A 0 g) (lst s g)) (al : AL S d A (A 0 f) (own s f (s 12 f))) (Q : Option (Unit × gS × gD) → Prop) {v1 : Int32} {kx : gS → gD → Int32 → Option (Unit × gS × gD)} {z : gS → gD → Int32 → Option Nat → Int32 → Option (Unit × gS × gD)} (hk : ∀ S' d', Fm (PG (A 0 f)) S d S' d' → AL S' d' A (A 0 f) (lst s f) → Q (kx S' d' v1)) : Q (itr (f_M_gatherMethods_B23 x kx) z fu S d v1 (some (A 0 f)) 0) := by
  have hN := b.parentN f
  have hF := b.faces
  refine itr_q (B := f_M_gatherMethods_B23 x kx) (fun (y : gS × gD × Nat) K => K y.1 y.2.1 v1 (some (A 0 f)) (nI y.2.2)) Q (fun k y => y.2.2 = k ∧ Fm (PG (A 0 f)) S d y.1 y.2.1 ∧ AL y.1 y.2.1 A (A 0 f) (inh s f (lst s) k)) (s 11 f) (by omega) ?_ ?_ (x := (S, d, 0)) ⟨rfl, fm_r, al⟩
  · rintro k hkk ⟨S1, d1, k'⟩ ⟨rfl, hm, al1⟩ K hK
    simp only at hkk hm al1 hK ⊢
    have h1 := ce_pga h (fm_m hm (pg_pga hf))
    have c1 := h1.F.2.1 f hf
    have hp := b.parentF f k' hkk
    have c2 := h1.F.2.1 (s 10 (2 * f + k')) (by omega)
    have ag := al_sep h.F hf (g := s 10 (2 * f + k')) (by omega) (by omega) (hal _ hp) hm
    obtain ⟨S2, d2, e2, m2, a2⟩ := c_gatherFrom b h1 hf hp (gl_inh b hf (fun g hg => gl_lst b _ g (Nat.lt_succ_self g) (by omega)) k' (by omega)) (gl_lst b _ _ (Nat.lt_succ_self _) (by omega)) al1 ag
    have e1 : nI (24 + s 10 (2 * f + k')) - 24 = nI (s 10 (2 * f + k')) := by rw [l24_s _ (by omega)]; congr 1; omega
    simp (maxSteps := 1000000) (disch := omega) only [f_M_gatherMethods_B23, kd_t (cs_K0 h1.cs), cs_P0_0 h1.cs, kd_t (cs_K1 h1.cs), cs_P1_0 h1.cs, kd_t (cs_K2 h1.cs), cs_N2 h1.cs, cs_P0_1 h1.cs, kd_t (cs_K3 h1.cs), cs_N3 h1.cs, cs_P0_3 h1.cs, kd_t (cs_K4 h1.cs), cs_N4 h1.cs, cs_P0_5 h1.cs, kd_t (cs_K5 h1.cs), cs_N5 h1.cs, cs_P0_6 h1.cs, kd_t (cs_K6 h1.cs), cs_N6 h1.cs, cs_P0_8 h1.cs, kd_t (cs_K7 h1.cs), cs_N7 h1.cs, cs_P0_9 h1.cs, kd_t (cs_K8 h1.cs), cs_N8 h1.cs, cs_P0_11 h1.cs, kd_t (cs_K9 h1.cs), cs_P9_0 h1.cs, cs_P9_1 h1.cs, kd_t (cs_K10 h1.cs), cs_N10 h1.cs, cs_P9_3 h1.cs, kd_t (cs_K11 h1.cs), cs_P11_0 h1.cs, kd_t (cs_K12 h1.cs), cs_N12 h1.cs, cs_P0_12 h1.cs, kd_t (cs_K13 h1.cs), cs_P13_0 h1.cs, kd_t (cs_K14 h1.cs), cs_N14 h1.cs, cs_P13_2 h1.cs, kd_t (cs_K15 h1.cs), cs_N15 h1.cs, cs_P13_4 h1.cs, kd_t (cs_K16 h1.cs), cs_N16 h1.cs, cs_P0_16 h1.cs, kd_t (cs_K17 h1.cs), cs_N17 h1.cs, cs_P0_17 h1.cs, kd_t (cs_K18 h1.cs), cs_N18 h1.cs, cs_P7_0 h1.cs, cs_P7_1 h1.cs, cs_P7_2 h1.cs, l1_m, l1_a, l1_b, l1_s, l1_e, l1_le, l1_ge, l1_lt, l1_gt, l24_m, l24_a, l24_b, l24_s, l24_e, l24_le, l24_ge, l24_lt, l24_gt, lt_t, nn_t, bd_t, bdD_t, bdP_t, nI_clamp, gi_n, nI_add, nI_1, pk_mul, b2_eq0, b2_01, nb_t, if_true, if_false, ni_le, ni_eq, ni_lt, kd_t c1.sh.k, c1.g5, c1.sh.p4, kd_t c1.sh.k1, c1.sh.n1, c1.gp k' hkk, e1, c2.p, e2]
    rw [if_neg (by omega)]
    exact hK (S2, d2, k' + 1) ⟨rfl, fm_t hm m2, a2⟩
  · rintro ⟨S1, d1, k'⟩ ⟨rfl, hm, al1⟩ K
    simp only at hm al1 ⊢
    have h1 := ce_pga h (fm_m hm (pg_pga hf))
    have c1 := h1.F.2.1 f hf
    simp (maxSteps := 1000000) (disch := omega) only [f_M_gatherMethods_B23, kd_t (cs_K0 h1.cs), cs_P0_0 h1.cs, kd_t (cs_K1 h1.cs), cs_P1_0 h1.cs, kd_t (cs_K2 h1.cs), cs_N2 h1.cs, cs_P0_1 h1.cs, kd_t (cs_K3 h1.cs), cs_N3 h1.cs, cs_P0_3 h1.cs, kd_t (cs_K4 h1.cs), cs_N4 h1.cs, cs_P0_5 h1.cs, kd_t (cs_K5 h1.cs), cs_N5 h1.cs, cs_P0_6 h1.cs, kd_t (cs_K6 h1.cs), cs_N6 h1.cs, cs_P0_8 h1.cs, kd_t (cs_K7 h1.cs), cs_N7 h1.cs, cs_P0_9 h1.cs, kd_t (cs_K8 h1.cs), cs_N8 h1.cs, cs_P0_11 h1.cs, kd_t (cs_K9 h1.cs), cs_P9_0 h1.cs, cs_P9_1 h1.cs, kd_t (cs_K10 h1.cs), cs_N10 h1.cs, cs_P9_3 h1.cs, kd_t (cs_K11 h1.cs), cs_P11_0 h1.cs, kd_t (cs_K12 h1.cs), cs_N12 h1.cs, cs_P0_12 h1.cs, kd_t (cs_K13 h1.cs), cs_P13_0 h1.cs, kd_t (cs_K14 h1.cs), cs_N14 h1.cs, cs_P13_2 h1.cs, kd_t (cs_K15 h1.cs), cs_N15 h1.cs, cs_P13_4 h1.cs, kd_t (cs_K16 h1.cs), cs_N16 h1.cs, cs_P0_16 h1.cs, kd_t (cs_K17 h1.cs), cs_N17 h1.cs, cs_P0_17 h1.cs, kd_t (cs_K18 h1.cs), cs_N18 h1.cs, cs_P7_0 h1.cs, cs_P7_1 h1.cs, cs_P7_2 h1.cs, l1_m, l1_a, l1_b, l1_s, l1_e, l1_le, l1_ge, l1_lt, l1_gt, l24_m, l24_a, l24_b, l24_s, l24_e, l24_le, l24_ge, l24_lt, l24_gt, lt_t, nn_t, bd_t, bdD_t, bdP_t, nI_clamp, gi_n, nI_add, nI_1, pk_mul, b2_eq0, b2_01, nb_t, if_true, if_false, ni_le, ni_eq, ni_lt, kd_t c1.sh.k, c1.g5]
    rw [if_pos (Nat.le_refl _)]
    rw [← lst_eq b] at al1
    exact hk S1 d1 hm al1
def PGM (x : Nat) (s A : Nat → Nat → Nat) (c j : Nat) : Prop := PGA s A c j ∨ (c = x ∧ j = 13)
theorem c_gatherMethods (b : BI s) (h : CE S d x s A) : ∃ S' d', f_M_gatherMethods S d x = some ((), S', d') ∧ Fm (PGM x s A) S d S' d' ∧ dI d' x 13 = 1 ∧ ∀ g, g < s 5 0 → AL S' d' A (A 0 g) (lst s g) := by
  have hF := b.faces
  unfold f_M_gatherMethods
  refine itr_q (B := f_M_gatherMethods_B2 x (f_M_gatherMethods_J61 x)) (fun (y : gS × gD × Nat) K => K y.1 y.2.1 (nI y.2.2)) (fun t => ∃ S' d', t = some ((), S', d') ∧ Fm (PGM x s A) S d S' d' ∧ dI d' x 13 = 1 ∧ ∀ g, g < s 5 0 → AL S' d' A (A 0 g) (lst s g)) (fun k y => y.2.2 = k ∧ Fm (PGA s A) S d y.1 y.2.1 ∧ ∀ g, g < k → AL y.1 y.2.1 A (A 0 g) (lst s g)) (s 5 0) (by omega) ?_ ?_ (x := (S, d, 0)) ⟨rfl, fm_r, fun g hg => absurd hg (Nat.not_lt_zero _)⟩
  · rintro k hk ⟨S1, d1, k'⟩ ⟨rfl, hm, al1⟩ K hK
    simp only at hk hm al1 hK ⊢
    have h1 := ce_pga h hm
    have c1 := h1.F.2.1 k' hk
    obtain ⟨S2, d2, e2, m2, a2⟩ := c_gatherOwn b h1 hk
    have h2 := ce_pga h1 (fm_m m2 (pg_pga hk))
    have hal : ∀ g, g < k' → AL S2 d2 A (A 0 g) (lst s g) := fun g hg => al_sep h1.F hk (by omega) (by omega) (al1 g hg) m2
    simp (maxSteps := 1000000) (disch := omega) only [f_M_gatherMethods_B2, kd_t (cs_K0 h1.cs), cs_P0_0 h1.cs, kd_t (cs_K1 h1.cs), cs_P1_0 h1.cs, kd_t (cs_K2 h1.cs), cs_N2 h1.cs, cs_P0_1 h1.cs, kd_t (cs_K3 h1.cs), cs_N3 h1.cs, cs_P0_3 h1.cs, kd_t (cs_K4 h1.cs), cs_N4 h1.cs, cs_P0_5 h1.cs, kd_t (cs_K5 h1.cs), cs_N5 h1.cs, cs_P0_6 h1.cs, kd_t (cs_K6 h1.cs), cs_N6 h1.cs, cs_P0_8 h1.cs, kd_t (cs_K7 h1.cs), cs_N7 h1.cs, cs_P0_9 h1.cs, kd_t (cs_K8 h1.cs), cs_N8 h1.cs, cs_P0_11 h1.cs, kd_t (cs_K9 h1.cs), cs_P9_0 h1.cs, cs_P9_1 h1.cs, kd_t (cs_K10 h1.cs), cs_N10 h1.cs, cs_P9_3 h1.cs, kd_t (cs_K11 h1.cs), cs_P11_0 h1.cs, kd_t (cs_K12 h1.cs), cs_N12 h1.cs, cs_P0_12 h1.cs, kd_t (cs_K13 h1.cs), cs_P13_0 h1.cs, kd_t (cs_K14 h1.cs), cs_N14 h1.cs, cs_P13_2 h1.cs, kd_t (cs_K15 h1.cs), cs_N15 h1.cs, cs_P13_4 h1.cs, kd_t (cs_K16 h1.cs), cs_N16 h1.cs, cs_P0_16 h1.cs, kd_t (cs_K17 h1.cs), cs_N17 h1.cs, cs_P0_17 h1.cs, kd_t (cs_K18 h1.cs), cs_N18 h1.cs, cs_P7_0 h1.cs, cs_P7_1 h1.cs, cs_P7_2 h1.cs, l0_e, l0_le, l0_ge, l0_lt, l0_gt, lt_t, nn_t, bd_t, bdD_t, bdP_t, nI_clamp, gi_n, nI_add, nI_1, pk_mul, b2_eq0, b2_01, nb_t, if_true, if_false, ni_le, ni_eq, ni_lt, h1.F.1, c1.p, kd_t c1.sh.k, e2]
    rw [if_neg (by omega)]
    refine c_gm_23 b h2 hk hal a2 (fun t => ∃ S' d', t = some ((), S', d') ∧ Fm (PGM x s A) S d S' d' ∧ dI d' x 13 = 1 ∧ ∀ g, g < s 5 0 → AL S' d' A (A 0 g) (lst s g)) ?_
    intro S3 d3 m3 a3
    simp (maxSteps := 1000000) (disch := omega) only [f_M_gatherMethods_J55, l1_m, l1_a, l1_b, l1_s, l1_e, l1_le, l1_ge, l1_lt, l1_gt, lt_t, nn_t, bd_t, bdD_t, bdP_t, nI_clamp, gi_n, nI_add, nI_1, pk_mul, b2_eq0, b2_01, nb_t, if_true, if_false, ni_le, ni_eq, ni_lt]
    refine hK (S3, d3, k' + 1) ⟨rfl, fm_t (fm_t hm (fm_m m2 (pg_pga hk))) (fm_m m3 (pg_pga hk)), ?_⟩
    intro g hg
    by_cases q : g = k'
    · rw [q]; exact a3
    · exact al_sep h2.F hk (by omega) (by omega) (hal g (by omega)) m3
  · rintro ⟨S1, d1, k'⟩ ⟨rfl, hm, al1⟩ K
    simp only at hm al1 ⊢
    have h1 := ce_pga h hm
    simp (maxSteps := 1000000) (disch := omega) only [f_M_gatherMethods_B2, f_M_gatherMethods_J61, kd_t (cs_K0 h1.cs), cs_P0_0 h1.cs, kd_t (cs_K1 h1.cs), cs_P1_0 h1.cs, kd_t (cs_K2 h1.cs), cs_N2 h1.cs, cs_P0_1 h1.cs, kd_t (cs_K3 h1.cs), cs_N3 h1.cs, cs_P0_3 h1.cs, kd_t (cs_K4 h1.cs), cs_N4 h1.cs, cs_P0_5 h1.cs, kd_t (cs_K5 h1.cs), cs_N5 h1.cs, cs_P0_6 h1.cs, kd_t (cs_K6 h1.cs), cs_N6 h1.cs, cs_P0_8 h1.cs, kd_t (cs_K7 h1.cs), cs_N7 h1.cs, cs_P0_9 h1.cs, kd_t (cs_K8 h1.cs), cs_N8 h1.cs, cs_P0_11 h1.cs, kd_t (cs_K9 h1.cs), cs_P9_0 h1.cs, cs_P9_1 h1.cs, kd_t (cs_K10 h1.cs), cs_N10 h1.cs, cs_P9_3 h1.cs, kd_t (cs_K11 h1.cs), cs_P11_0 h1.cs, kd_t (cs_K12 h1.cs), cs_N12 h1.cs, cs_P0_12 h1.cs, kd_t (cs_K13 h1.cs), cs_P13_0 h1.cs, kd_t (cs_K14 h1.cs), cs_N14 h1.cs, cs_P13_2 h1.cs, kd_t (cs_K15 h1.cs), cs_N15 h1.cs, cs_P13_4 h1.cs, kd_t (cs_K16 h1.cs), cs_N16 h1.cs, cs_P0_16 h1.cs, kd_t (cs_K17 h1.cs), cs_N17 h1.cs, cs_P0_17 h1.cs, kd_t (cs_K18 h1.cs), cs_N18 h1.cs, cs_P7_0 h1.cs, cs_P7_1 h1.cs, cs_P7_2 h1.cs, l0_e, l0_le, l0_ge, l0_lt, l0_gt, l1_m, l1_a, l1_b, l1_s, l1_e, l1_le, l1_ge, l1_lt, l1_gt, lt_t, nn_t, bd_t, bdD_t, bdP_t, nI_clamp, gi_n, nI_add, nI_1, pk_mul, b2_eq0, b2_01, nb_t, if_true, if_false, ni_le, ni_eq, ni_lt, h1.F.1]
    rw [if_pos (Nat.le_refl _)]
    refine ⟨S1, _, rfl, fm_t (fm_m hm (fun a j _ p => .inl p)) (fm_wI (.inr ⟨rfl, rfl⟩)), by rw [dI_wI, if_pos ⟨rfl, rfl⟩], ?_⟩
    intro g hg
    have c := h1.F.2.1 g hg
    have := c.lo
    exact ⟨by rw [dI_wI, if_neg (by omega)]; exact (al1 g hg).1, (al1 g hg).2⟩
end cls
