section st
variable {S : gS} {d : gD} {x : Nat} {s : Nat → Nat → Nat} {A : Nat → Nat → Nat} {q : (Nat → Int64) × Int64 × (Nat → Int64) × (Nat → Int32)}
theorem st_handler (h : IV S d x s A q) (v1 v2 : Int32) {t : Nat} (ht : t ≤ 1) : ∃ r d1 e s' q', f_M_handler S d x v1 v2 (nI t) = some (r, d1) ∧ f_R_handler S d1 (x + 28) v1 v2 (nI t) = some (r, e) ∧ IV S e x s' A q' := by
  have hcs := h.g1.ce.cs
  have hx := h.g1.ce.hx
  have hS := h.b.stands
  have hO := h.b.objects
  have st1 := h.g1.st1
  have o1 := h.g2.o1
  cases Classical.em (∃ c, hdOk s v1 v2 t c) with
  | inr no =>
    have no' : ∀ c, ¬ hdOk s v1 v2 t c := fun c w => no ⟨c, w⟩
    refine ⟨0, d, _, s, q, ?_, r_handler_n h.rp h.b ht no', iv_w0 h⟩
    cases c1 : cIn 0 (nI (s 21 0)) v1 with
    | false => simp (maxSteps := 1000000) (disch := omega) only [f_M_handler, kd_t (cs_K0 hcs), cs_P0_0 hcs, kd_t (cs_K1 hcs), cs_P1_0 hcs, kd_t (cs_K2 hcs), cs_N2 hcs, cs_P0_1 hcs, kd_t (cs_K3 hcs), cs_N3 hcs, cs_P0_3 hcs, kd_t (cs_K4 hcs), cs_N4 hcs, cs_P0_5 hcs, kd_t (cs_K5 hcs), cs_N5 hcs, cs_P0_6 hcs, kd_t (cs_K6 hcs), cs_N6 hcs, cs_P0_8 hcs, kd_t (cs_K7 hcs), cs_N7 hcs, cs_P0_9 hcs, kd_t (cs_K8 hcs), cs_N8 hcs, cs_P0_11 hcs, kd_t (cs_K9 hcs), cs_P9_0 hcs, cs_P9_1 hcs, kd_t (cs_K10 hcs), cs_N10 hcs, cs_P9_3 hcs, kd_t (cs_K11 hcs), cs_P11_0 hcs, kd_t (cs_K12 hcs), cs_N12 hcs, cs_P0_12 hcs, kd_t (cs_K13 hcs), cs_P13_0 hcs, kd_t (cs_K14 hcs), cs_N14 hcs, cs_P13_2 hcs, kd_t (cs_K15 hcs), cs_N15 hcs, cs_P13_4 hcs, kd_t (cs_K16 hcs), cs_N16 hcs, cs_P0_16 hcs, kd_t (cs_K17 hcs), cs_N17 hcs, cs_P0_17 hcs, kd_t (cs_K18 hcs), cs_N18 hcs, cs_P7_0 hcs, cs_P7_1 hcs, cs_P7_2 hcs, lt_t, nn_t, bd_t, bdD_t, bdP_t, nI_clamp, gi_n, nI_add, nI_1, pk_mul, b2_eq0, b2_01, nb_t, if_true, if_false, ni_le, ni_eq, ni_lt, st1, c_within, c1]
    | true =>
      obtain ⟨c, -, hc, rfl⟩ := cIn_of (lo := 0) c1 (by omega) (by omega)
      have no := no' c
      by_cases q3 : v2 = -1
      · have hn0 : ¬ nI t = 0 := by
          rw [l0_e _ (by omega)]
          exact fun e => no ⟨rfl, hc, .inl ⟨q3, e⟩⟩
        simp (maxSteps := 1000000) (disch := omega) only [f_M_handler, f_M_handler_J29, kd_t (cs_K0 hcs), cs_P0_0 hcs, kd_t (cs_K1 hcs), cs_P1_0 hcs, kd_t (cs_K2 hcs), cs_N2 hcs, cs_P0_1 hcs, kd_t (cs_K3 hcs), cs_N3 hcs, cs_P0_3 hcs, kd_t (cs_K4 hcs), cs_N4 hcs, cs_P0_5 hcs, kd_t (cs_K5 hcs), cs_N5 hcs, cs_P0_6 hcs, kd_t (cs_K6 hcs), cs_N6 hcs, cs_P0_8 hcs, kd_t (cs_K7 hcs), cs_N7 hcs, cs_P0_9 hcs, kd_t (cs_K8 hcs), cs_N8 hcs, cs_P0_11 hcs, kd_t (cs_K9 hcs), cs_P9_0 hcs, cs_P9_1 hcs, kd_t (cs_K10 hcs), cs_N10 hcs, cs_P9_3 hcs, kd_t (cs_K11 hcs), cs_P11_0 hcs, kd_t (cs_K12 hcs), cs_N12 hcs, cs_P0_12 hcs, kd_t (cs_K13 hcs), cs_P13_0 hcs, kd_t (cs_K14 hcs), cs_N14 hcs, cs_P13_2 hcs, kd_t (cs_K15 hcs), cs_N15 hcs, cs_P13_4 hcs, kd_t (cs_K16 hcs), cs_N16 hcs, cs_P0_16 hcs, kd_t (cs_K17 hcs), cs_N17 hcs, cs_P0_17 hcs, kd_t (cs_K18 hcs), cs_N18 hcs, cs_P7_0 hcs, cs_P7_1 hcs, cs_P7_2 hcs, lt_t, nn_t, bd_t, bdD_t, bdP_t, nI_clamp, gi_n, nI_add, nI_1, pk_mul, b2_eq0, b2_01, nb_t, if_true, if_false, ni_le, ni_eq, ni_lt, st1, c_within, c1, q3, hn0]
        rw [if_neg (by decide)]
      · cases c2 : cIn 0 (nI (s 18 0)) v2 with
        | false =>
          simp (maxSteps := 1000000) (disch := omega) only [f_M_handler, kd_t (cs_K0 hcs), cs_P0_0 hcs, kd_t (cs_K1 hcs), cs_P1_0 hcs, kd_t (cs_K2 hcs), cs_N2 hcs, cs_P0_1 hcs, kd_t (cs_K3 hcs), cs_N3 hcs, cs_P0_3 hcs, kd_t (cs_K4 hcs), cs_N4 hcs, cs_P0_5 hcs, kd_t (cs_K5 hcs), cs_N5 hcs, cs_P0_6 hcs, kd_t (cs_K6 hcs), cs_N6 hcs, cs_P0_8 hcs, kd_t (cs_K7 hcs), cs_N7 hcs, cs_P0_9 hcs, kd_t (cs_K8 hcs), cs_N8 hcs, cs_P0_11 hcs, kd_t (cs_K9 hcs), cs_P9_0 hcs, cs_P9_1 hcs, kd_t (cs_K10 hcs), cs_N10 hcs, cs_P9_3 hcs, kd_t (cs_K11 hcs), cs_P11_0 hcs, kd_t (cs_K12 hcs), cs_N12 hcs, cs_P0_12 hcs, kd_t (cs_K13 hcs), cs_P13_0 hcs, kd_t (cs_K14 hcs), cs_N14 hcs, cs_P13_2 hcs, kd_t (cs_K15 hcs), cs_N15 hcs, cs_P13_4 hcs, kd_t (cs_K16 hcs), cs_N16 hcs, cs_P0_16 hcs, kd_t (cs_K17 hcs), cs_N17 hcs, cs_P0_17 hcs, kd_t (cs_K18 hcs), cs_N18 hcs, cs_P7_0 hcs, cs_P7_1 hcs, cs_P7_2 hcs, lt_t, nn_t, bd_t, bdD_t, bdP_t, nI_clamp, gi_n, nI_add, nI_1, pk_mul, b2_eq0, b2_01, nb_t, if_true, if_false, ni_le, ni_eq, ni_lt, st1, c_within, c1, q3, o1, c2]
          rw [if_neg (by decide)]
        | true =>
          obtain ⟨j, -, hj, rfl⟩ := cIn_of (lo := 0) c2 (by omega) (by omega)
          have hn0 : ¬ nI t = 0 := by
            rw [l0_e _ (by omega)]
            exact fun e => no ⟨rfl, hc, .inr ⟨j, hj, rfl, .inl e⟩⟩
          have hb : bw s (nI (s 19 j)) 8 = false := by
            cases r : bw s (nI (s 19 j)) 8 with
            | false => rfl
            | true => exact absurd ⟨rfl, hc, .inr ⟨j, hj, rfl, .inr r⟩⟩ no
          simp (maxSteps := 1000000) (disch := omega) only [f_M_handler, f_M_handler_J29, kd_t (cs_K0 hcs), cs_P0_0 hcs, kd_t (cs_K1 hcs), cs_P1_0 hcs, kd_t (cs_K2 hcs), cs_N2 hcs, cs_P0_1 hcs, kd_t (cs_K3 hcs), cs_N3 hcs, cs_P0_3 hcs, kd_t (cs_K4 hcs), cs_N4 hcs, cs_P0_5 hcs, kd_t (cs_K5 hcs), cs_N5 hcs, cs_P0_6 hcs, kd_t (cs_K6 hcs), cs_N6 hcs, cs_P0_8 hcs, kd_t (cs_K7 hcs), cs_N7 hcs, cs_P0_9 hcs, kd_t (cs_K8 hcs), cs_N8 hcs, cs_P0_11 hcs, kd_t (cs_K9 hcs), cs_P9_0 hcs, cs_P9_1 hcs, kd_t (cs_K10 hcs), cs_N10 hcs, cs_P9_3 hcs, kd_t (cs_K11 hcs), cs_P11_0 hcs, kd_t (cs_K12 hcs), cs_N12 hcs, cs_P0_12 hcs, kd_t (cs_K13 hcs), cs_P13_0 hcs, kd_t (cs_K14 hcs), cs_N14 hcs, cs_P13_2 hcs, kd_t (cs_K15 hcs), cs_N15 hcs, cs_P13_4 hcs, kd_t (cs_K16 hcs), cs_N16 hcs, cs_P0_16 hcs, kd_t (cs_K17 hcs), cs_N17 hcs, cs_P0_17 hcs, kd_t (cs_K18 hcs), cs_N18 hcs, cs_P7_0 hcs, cs_P7_1 hcs, cs_P7_2 hcs, lt_t, nn_t, bd_t, bdD_t, bdP_t, nI_clamp, gi_n, nI_add, nI_1, pk_mul, b2_eq0, b2_01, nb_t, if_true, if_false, ni_le, ni_eq, ni_lt, st1, c_within, c1, q3, o1, c2, hn0, h.g2.o2 j hj, c_isBelow hcs h.g2.t h.b, hb]
          rw [if_neg (by decide), if_neg (by decide)]
  | inl ex =>
    obtain ⟨c, ok⟩ := ex
    have ok0 := ok
    obtain ⟨rfl, hc, ok⟩ := ok
    have si := h.g1.st2 c hc
    have c1 := c0_of h.b hc
    have alo := si.lo
    have fm : Fm (fun a k => a = A 2 c ∧ (k = 6 ∨ k = 7)) S d S (wI (wI d (A 2 c) 6 v2) (A 2 c) 7 (nI t)) := fm_t (fm_wI ⟨rfl, .inl rfl⟩) (fm_wI ⟨rfl, .inr rfl⟩)
    have rp1 := rp_cf fm h.rp hx (fun a k p => by omega)
    obtain ⟨e, fe, re, rf⟩ := r_handler_y rp1 h.b ht ok0
    have k6 := si.k
    have nk : ∀ a k, sK S a ≠ 6 → ¬ (a = A 2 c ∧ (k = 6 ∨ k = 7)) := fun a k hk w => hk (by rw [w.1]; exact k6)
    have so : ∀ k i, k ≠ 27 → up2 s 27 c t k i = s k i := fun k i hk => up2_ne hk i
    have ag : Ag s (up2 s 27 c t) := ag_same (fun k i _ _ h3 => so k i (by omega))
    have g1f : G1 (S := S) (d := wI (wI d (A 2 c) 6 v2) (A 2 c) 7 (nI t)) x (up2 s 27 c t) A (upf q.2.2.2 c v2) := by
      have ce := h.g1.ce
      refine ⟨⟨hcs, hx, ⟨?_, fun f hf => ?_, ce.F.2.2⟩, fun i hi => ?_, ce.M.2⟩, ?_, ?_, fun c' hc' => ?_, h.g1.st3, ?_⟩
      · exact (fm_I fm (by omega) (by omega)).trans ce.F.1
      · have fc := ce.F.2.1 f hf
        have flo := fc.lo
        exact fc_fm fm fc hx (by omega) (fun k _ => nk _ _ (by rw [fc.sh.k]; omega)) (fun k => nk _ _ (by rw [fc.sh.k1]; omega)) (fun k => nk _ _ (by rw [fc.sh.k2]; omega))
      · have o := ce.M.1 i hi
        have o' := om_fm fm o (fun k => ⟨nk _ _ (by rw [o.k]; omega), nk _ _ (by rw [o.rs.k]; omega), nk _ _ (by rw [o.rs.ak]; omega)⟩)
        exact ⟨o'.k, o'.p, o'.rs, o'.g0, o'.g1, o'.g2, o'.g3, o'.g4, by rw [ag_thr ag]; exact o'.tr, o'.hi, o'.lo⟩
      · rcases h.g1.al with a | ⟨a1, a2⟩
        · exact .inl ((fm_I fm (by omega) (by omega)).trans a)
        · refine .inr ⟨(fm_I fm (by omega) (by omega)).trans a1, fun g hg => ?_⟩
          have fc := ce.F.2.1 g hg
          have fhi := fc.hi
          rw [ag_lst ag]
          exact ⟨(fm_I fm (by omega) (nk _ _ (by rw [fc.sh.k]; omega))).trans (a2 g hg).1, fun i hi => (a2 g hg).2 i hi⟩
      · rw [so 21 0 (by decide)]; exact (fm_I fm (by omega) (by omega)).trans st1
      · rw [so 21 0 (by decide)] at hc'
        have si' := h.g1.st2 c' hc'
        have e23 := so 23 c' (by decide)
        have ed := ag_dsc ag h.b (nI (s 23 c'))
        have eu : uT (up2 s 27 c t) c' = uT s c' := ag_uT ag h.b e23 (so 24 c' (by decide)) (so 25 c' (by decide))
        have hne : c' ≠ c → A 2 c' ≠ A 2 c := by
          intro w
          rcases Nat.lt_or_gt_of_ne w with u | u
          · exact h.g1.st3 c' c u hc
          · exact fun z => h.g1.st3 c c' u hc' z.symm
        have ki : ∀ k, (k ≠ 6 ∧ k ≠ 7) → dI (wI (wI d (A 2 c) 6 v2) (A 2 c) 7 (nI t)) (A 2 c') k = dI d (A 2 c') k := by
          intro k hk
          rw [dI_wI, if_neg (by omega), dI_wI, if_neg (by omega)]
        have dk5 : ∀ a k, sK S a ≠ 6 → dI (wI (wI d (A 2 c) 6 v2) (A 2 c) 7 (nI t)) a k = dI d a k := by
          intro a k hk
          rw [dI_wI, if_neg (fun w => hk (by rw [w.1]; exact k6)), dI_wI, if_neg (fun w => hk (by rw [w.1]; exact k6))]
        refine ⟨si'.p, si'.lo, si'.hi, si'.k, si'.p4, si'.k1, by rw [e23, ed.1]; exact si'.n1, fun i hi => ?_, si'.p5, si'.ul, si'.k5, by rw [eu]; exact si'.n5, ?_, by rw [so 22 c' (by decide), ki 0 (by omega)]; exact si'.g0, by rw [e23, ki 1 (by omega)]; exact si'.g1, by rw [so 24 c' (by decide), ki 2 (by omega)]; exact si'.g2, by rw [so 25 c' (by decide), ki 3 (by omega)]; exact si'.g3, ?_, ?_⟩
        · rw [e23, ed.1] at hi
          obtain ⟨m1, m2, m3, m4, m5, m6, m7⟩ := si'.me i hi
          have hof := ord_full (s := s) (fl := dsc s (nI (s 23 c')))
          have hj := (hof.2 _).mp (getD_mem (l := ord s (dsc s (nI (s 23 c')))) (i := i) (by omega))
          have hc8 : cs8 s ((perm s (dsc s (nI (s 23 c')))).getD i df).2 := by rw [perm_at hi]; exact ed.2 _ hj
          rw [e23, ed.1, ag_perm ag, ag_ct ag h.b hc8]
          exact ⟨m1, m2, m3, m4, m5, ⟨(dk5 _ _ (by rw [m2.r1.k]; omega)).trans m6.1, fun j hj => (dk5 _ _ (by rw [m2.r1.ak]; omega)).trans (m6.2 j hj)⟩, ⟨(dk5 _ _ (by rw [m2.r2.k]; omega)).trans m7.1, fun j hj => (dk5 _ _ (by rw [m2.r2.ak]; omega)).trans (m7.2 j hj)⟩⟩
        · rw [eu]
          exact fun i hi => (dk5 _ _ (by rw [si'.k5]; omega)).trans (si'.by_ i hi)
        · unfold upf
          by_cases w : c' = c
          · rw [if_pos w, w, dI_wI, if_neg (by omega), dI_wI, if_pos ⟨rfl, rfl⟩]
          · rw [if_neg w, dI_wI, if_neg (fun z => hne w z.1), dI_wI, if_neg (fun z => hne w z.1)]; exact si'.g6
        · by_cases w : c' = c
          · rw [w, up2_eq, dI_wI, if_pos ⟨rfl, rfl⟩]
          · rw [up2_nk w, dI_wI, if_neg (fun z => hne w z.1), dI_wI, if_neg (fun z => hne w z.1)]; exact si'.g7
      · refine ⟨fun i v hi hv => ?_, h.g1.dk.inj⟩
        obtain ⟨k1, k2, k3, k4⟩ := h.g1.dk.sl i v hi hv
        refine ⟨k1, k2, k3, fun w => k4 ?_⟩
        obtain ⟨c', j, w1, w2, w3⟩ := w
        rw [so 21 0 (by decide)] at w1
        rw [so 23 c' (by decide), (ag_dsc ag h.b _).1] at w2
        exact ⟨c', j, w1, w2, w3⟩
    have g2f : G2 (wI (wI d (A 2 c) 6 v2) (A 2 c) 7 (nI t)) x (up2 s 27 c t) (q.1, q.2.1, q.2.2.1, upf q.2.2.2 c v2) := by
      have g := g2_fm fm h.g2 hx (fun a k p => by omega)
      have hTE : TE (up2 s 27 c t) = TE s := by
        funext a c'
        unfold TE FE
        rw [so 3 0 (by decide), so 5 0 (by decide), so 4 a (by decide), so 11 _ (by decide)]
        simp only [fun i => so 10 i (by decide)]
      exact ⟨⟨g.cl.1, g.cl.2.1, g.cl.2.2⟩, ⟨g.t.1, fun a c' h1 h2 => by rw [hTE]; exact g.t.2 a c' h1 h2⟩, g.o1, g.o2, g.o3, g.fa, g.oc, g.sn⟩
    have bi : BI (up2 s 27 c t) := by
      have e : ∀ k i, k ≠ 27 → up2 s 27 c t k i = s k i := so
      have b := h.b
      exact ⟨(fun k i => by
          unfold up2; split
          · omega
          · exact b.lt k i), (by simp (disch := decide) only [e]; exact b.loaders), (by simp (disch := decide) only [e]; exact b.parentL), (by simp (disch := decide) only [e]; exact b.classes), (by simp (disch := decide) only [e]; exact b.parentC), (by simp (disch := decide) only [e]; exact b.faces), (by simp (disch := decide) only [e]; exact b.faceL), (by simp (disch := decide) only [e]; exact b.facePack), (by simp (disch := decide) only [e]; exact b.faceOpen), (by simp (disch := decide) only [e]; exact b.parentN), (by simp (disch := decide) only [e]; exact b.parentN0), (by simp (disch := decide) only [e]; exact b.parentF), (by simp (disch := decide) only [e]; exact b.ownN), (by simp (disch := decide) only [e]; exact b.ownN0), (by simp (disch := decide) only [e]; exact b.throwN), (by simp (disch := decide) only [e]; exact b.throwT), (by simp (disch := decide) only [e]; exact b.throwD), (by simp (disch := decide) only [e]; exact b.takeT), (by simp (disch := decide) only [e]; exact b.takeZ), (by simp (disch := decide) only [e]; exact b.resT), (by simp (disch := decide) only [e]; exact b.nameT), (by simp (disch := decide) only [e]; exact b.objects), (by simp (disch := decide) only [e]; exact b.stands)⟩
    have sv : SV (up2 s 27 c t) (q.1, q.2.1, q.2.2.1, upf q.2.2.2 c v2) := by
      refine ⟨h.sv.rt, fun c' hc' => ?_, fun c' h1 h2 => ?_, fun c' hc' => ?_, fun c' => ?_, h.sv.pk⟩
      · rw [so 21 0 (by decide)] at hc'
        have := h.sv.ok c' hc'
        rw [so 23 c' (by decide), (ag_dsc ag h.b _).1]
        exact this
      · rw [so 21 0 (by decide)] at h1
        have := h.sv.hn c' h1 h2
        refine ⟨?_, ?_⟩
        · show upf q.2.2.2 c v2 c' = -1
          unfold upf; rw [if_neg (by omega)]; exact this.1
        · rw [up2_nk (by omega)]; exact this.2
      · rw [so 21 0 (by decide)] at hc'
        show (upf q.2.2.2 c v2 c' = -1 ∧ up2 s 27 c t 27 c' = 0) ∨ ∃ jo, jo < up2 s 27 c t 18 0 ∧ upf q.2.2.2 c v2 c' = nI jo
        unfold upf
        by_cases w : c' = c
        · rw [if_pos w, w, up2_eq]
          rcases ok with ⟨o1', o2'⟩ | ⟨j, hj, o1', -⟩
          · exact .inl ⟨o1', o2'⟩
          · exact .inr ⟨j, hj, o1'⟩
        · rw [if_neg w, up2_nk w]; exact h.sv.hh c' hc'
      · by_cases w : c' = c
        · rw [w, up2_eq]; exact ht
        · rw [up2_nk w]; exact h.sv.h1 c'
    refine ⟨1, _, e, _, _, ?_, fe, iv_fin (q' := (q.1, q.2.1, q.2.2.1, upf q.2.2.2 c v2)) g1f g2f re rf bi sv h.ok⟩
    have t01 : nI t = 0 ∨ nI t = 1 := by
      rcases (show t = 0 ∨ t = 1 by omega) with rfl | rfl
      · exact .inl rfl
      · exact .inr rfl
    have j58 : f_M_handler_J58 S x d (nI c) v2 (nI t) = some (1, wI (wI d (A 2 c) 6 v2) (A 2 c) 7 (nI t)) := by
      simp (maxSteps := 1000000) (disch := omega) only [f_M_handler_J58, kd_t (cs_K0 hcs), cs_P0_0 hcs, kd_t (cs_K1 hcs), cs_P1_0 hcs, kd_t (cs_K2 hcs), cs_N2 hcs, cs_P0_1 hcs, kd_t (cs_K3 hcs), cs_N3 hcs, cs_P0_3 hcs, kd_t (cs_K4 hcs), cs_N4 hcs, cs_P0_5 hcs, kd_t (cs_K5 hcs), cs_N5 hcs, cs_P0_6 hcs, kd_t (cs_K6 hcs), cs_N6 hcs, cs_P0_8 hcs, kd_t (cs_K7 hcs), cs_N7 hcs, cs_P0_9 hcs, kd_t (cs_K8 hcs), cs_N8 hcs, cs_P0_11 hcs, kd_t (cs_K9 hcs), cs_P9_0 hcs, cs_P9_1 hcs, kd_t (cs_K10 hcs), cs_N10 hcs, cs_P9_3 hcs, kd_t (cs_K11 hcs), cs_P11_0 hcs, kd_t (cs_K12 hcs), cs_N12 hcs, cs_P0_12 hcs, kd_t (cs_K13 hcs), cs_P13_0 hcs, kd_t (cs_K14 hcs), cs_N14 hcs, cs_P13_2 hcs, kd_t (cs_K15 hcs), cs_N15 hcs, cs_P13_4 hcs, kd_t (cs_K16 hcs), cs_N16 hcs, cs_P0_16 hcs, kd_t (cs_K17 hcs), cs_N17 hcs, cs_P0_17 hcs, kd_t (cs_K18 hcs), cs_N18 hcs, cs_P7_0 hcs, cs_P7_1 hcs, cs_P7_2 hcs, lt_t, nn_t, bd_t, bdD_t, bdP_t, nI_clamp, gi_n, nI_add, nI_1, pk_mul, b2_eq0, b2_01, nb_t, if_true, if_false, ni_le, ni_eq, ni_lt, si.p, kd_t si.k, nb_t t01]
    rcases ok with ⟨rfl, rfl⟩ | ⟨j, hj, rfl, ok⟩
    · simp (maxSteps := 1000000) (disch := omega) only [f_M_handler, f_M_handler_J29, kd_t (cs_K0 hcs), cs_P0_0 hcs, kd_t (cs_K1 hcs), cs_P1_0 hcs, kd_t (cs_K2 hcs), cs_N2 hcs, cs_P0_1 hcs, kd_t (cs_K3 hcs), cs_N3 hcs, cs_P0_3 hcs, kd_t (cs_K4 hcs), cs_N4 hcs, cs_P0_5 hcs, kd_t (cs_K5 hcs), cs_N5 hcs, cs_P0_6 hcs, kd_t (cs_K6 hcs), cs_N6 hcs, cs_P0_8 hcs, kd_t (cs_K7 hcs), cs_N7 hcs, cs_P0_9 hcs, kd_t (cs_K8 hcs), cs_N8 hcs, cs_P0_11 hcs, kd_t (cs_K9 hcs), cs_P9_0 hcs, cs_P9_1 hcs, kd_t (cs_K10 hcs), cs_N10 hcs, cs_P9_3 hcs, kd_t (cs_K11 hcs), cs_P11_0 hcs, kd_t (cs_K12 hcs), cs_N12 hcs, cs_P0_12 hcs, kd_t (cs_K13 hcs), cs_P13_0 hcs, kd_t (cs_K14 hcs), cs_N14 hcs, cs_P13_2 hcs, kd_t (cs_K15 hcs), cs_N15 hcs, cs_P13_4 hcs, kd_t (cs_K16 hcs), cs_N16 hcs, cs_P0_16 hcs, kd_t (cs_K17 hcs), cs_N17 hcs, cs_P0_17 hcs, kd_t (cs_K18 hcs), cs_N18 hcs, cs_P7_0 hcs, cs_P7_1 hcs, cs_P7_2 hcs, lt_t, nn_t, bd_t, bdD_t, bdP_t, nI_clamp, gi_n, nI_add, nI_1, pk_mul, b2_eq0, b2_01, nb_t, if_true, if_false, ni_le, ni_eq, ni_lt, st1, c_within, c1]
      rw [if_neg (by decide), if_pos (show nI 0 = (0 : Int32) from rfl)]; exact j58
    · have mj := m1_lt (show j < 2 ^ 31 by omega)
      have c2 : cIn 0 (nI (s 18 0)) (nI j) = true := cIn0_t (by omega) hj
      simp (maxSteps := 1000000) (disch := omega) only [f_M_handler, f_M_handler_J29, kd_t (cs_K0 hcs), cs_P0_0 hcs, kd_t (cs_K1 hcs), cs_P1_0 hcs, kd_t (cs_K2 hcs), cs_N2 hcs, cs_P0_1 hcs, kd_t (cs_K3 hcs), cs_N3 hcs, cs_P0_3 hcs, kd_t (cs_K4 hcs), cs_N4 hcs, cs_P0_5 hcs, kd_t (cs_K5 hcs), cs_N5 hcs, cs_P0_6 hcs, kd_t (cs_K6 hcs), cs_N6 hcs, cs_P0_8 hcs, kd_t (cs_K7 hcs), cs_N7 hcs, cs_P0_9 hcs, kd_t (cs_K8 hcs), cs_N8 hcs, cs_P0_11 hcs, kd_t (cs_K9 hcs), cs_P9_0 hcs, cs_P9_1 hcs, kd_t (cs_K10 hcs), cs_N10 hcs, cs_P9_3 hcs, kd_t (cs_K11 hcs), cs_P11_0 hcs, kd_t (cs_K12 hcs), cs_N12 hcs, cs_P0_12 hcs, kd_t (cs_K13 hcs), cs_P13_0 hcs, kd_t (cs_K14 hcs), cs_N14 hcs, cs_P13_2 hcs, kd_t (cs_K15 hcs), cs_N15 hcs, cs_P13_4 hcs, kd_t (cs_K16 hcs), cs_N16 hcs, cs_P0_16 hcs, kd_t (cs_K17 hcs), cs_N17 hcs, cs_P0_17 hcs, kd_t (cs_K18 hcs), cs_N18 hcs, cs_P7_0 hcs, cs_P7_1 hcs, cs_P7_2 hcs, lt_t, nn_t, bd_t, bdD_t, bdP_t, nI_clamp, gi_n, nI_add, nI_1, pk_mul, b2_eq0, b2_01, nb_t, if_true, if_false, ni_le, ni_eq, ni_lt, st1, c_within, c1, mj.2, h.g2.o1, c2, h.g2.o2 j hj, c_isBelow hcs h.g2.t h.b]
      rw [if_neg (by decide), if_neg (by decide)]
      rcases ok with rfl | ok
      · rw [if_pos (show nI 0 = (0 : Int32) from rfl)]; exact j58
      · rw [ok]
        by_cases q0 : nI t = 0
        · rw [if_pos q0]; exact j58
        · rw [if_neg q0, if_neg (by decide)]; exact j58
theorem c_fitted (p : Int32) (v : Int64) : f_M_fitted S d p v = some (fitV p v) := by
  unfold f_M_fitted fitV
  repeat (first | rfl | split)
theorem st_object (h : IV S d x s A q) (v : Int32) (w : Int64) : ∃ r d1 e s' q', f_M_object S d x v w = some (r, d1) ∧ f_R_object S d1 (x + 28) v w = some (r, e) ∧ IV S e x s' A q' := by
  have hcs := h.g1.ce.cs
  have hx := h.g1.ce.hx
  have hO := h.b.objects
  have hC := h.b.classes
  have o1 := h.g2.o1
  have ev0 : f_M_object S d x v w = if obOk s v = false then some (-1, d) else f_M_object_J18 S x d v w := by
    simp (maxSteps := 1000000) (disch := omega) only [f_M_object, kd_t (cs_K0 hcs), cs_P0_0 hcs, kd_t (cs_K1 hcs), cs_P1_0 hcs, kd_t (cs_K2 hcs), cs_N2 hcs, cs_P0_1 hcs, kd_t (cs_K3 hcs), cs_N3 hcs, cs_P0_3 hcs, kd_t (cs_K4 hcs), cs_N4 hcs, cs_P0_5 hcs, kd_t (cs_K5 hcs), cs_N5 hcs, cs_P0_6 hcs, kd_t (cs_K6 hcs), cs_N6 hcs, cs_P0_8 hcs, kd_t (cs_K7 hcs), cs_N7 hcs, cs_P0_9 hcs, kd_t (cs_K8 hcs), cs_N8 hcs, cs_P0_11 hcs, kd_t (cs_K9 hcs), cs_P9_0 hcs, cs_P9_1 hcs, kd_t (cs_K10 hcs), cs_N10 hcs, cs_P9_3 hcs, kd_t (cs_K11 hcs), cs_P11_0 hcs, kd_t (cs_K12 hcs), cs_N12 hcs, cs_P0_12 hcs, kd_t (cs_K13 hcs), cs_P13_0 hcs, kd_t (cs_K14 hcs), cs_N14 hcs, cs_P13_2 hcs, kd_t (cs_K15 hcs), cs_N15 hcs, cs_P13_4 hcs, kd_t (cs_K16 hcs), cs_N16 hcs, cs_P0_16 hcs, kd_t (cs_K17 hcs), cs_N17 hcs, cs_P0_17 hcs, kd_t (cs_K18 hcs), cs_N18 hcs, cs_P7_0 hcs, cs_P7_1 hcs, cs_P7_2 hcs, lt_t, nn_t, bd_t, bdD_t, bdP_t, nI_clamp, gi_n, nI_add, nI_1, pk_mul, b2_eq0, b2_01, nb_t, if_true, if_false, ni_le, ni_eq, ni_lt, c_isClass hcs h.g2.t, c_box]
    unfold obOk
    cases cIn 8 (nI (s 3 0)) v with
    | true => rfl
    | false =>
      rw [Bool.false_or]
      rfl
  cases c1 : obOk s v with
  | false =>
    refine ⟨-1, d, _, s, q, by rw [ev0, c1, if_pos rfl], r_object_n h.rp.ri h.b (.inl c1), iv_w0 h⟩
  | true =>
    by_cases h32 : s 18 0 = 32
    · refine ⟨-1, d, _, s, q, ?_, r_object_n h.rp.ri h.b (.inr h32), iv_w0 h⟩
      rw [ev0, c1, if_neg (by decide)]
      simp (maxSteps := 1000000) (disch := omega) only [f_M_object_J18, kd_t (cs_K0 hcs), cs_P0_0 hcs, kd_t (cs_K1 hcs), cs_P1_0 hcs, kd_t (cs_K2 hcs), cs_N2 hcs, cs_P0_1 hcs, kd_t (cs_K3 hcs), cs_N3 hcs, cs_P0_3 hcs, kd_t (cs_K4 hcs), cs_N4 hcs, cs_P0_5 hcs, kd_t (cs_K5 hcs), cs_N5 hcs, cs_P0_6 hcs, kd_t (cs_K6 hcs), cs_N6 hcs, cs_P0_8 hcs, kd_t (cs_K7 hcs), cs_N7 hcs, cs_P0_9 hcs, kd_t (cs_K8 hcs), cs_N8 hcs, cs_P0_11 hcs, kd_t (cs_K9 hcs), cs_P9_0 hcs, cs_P9_1 hcs, kd_t (cs_K10 hcs), cs_N10 hcs, cs_P9_3 hcs, kd_t (cs_K11 hcs), cs_P11_0 hcs, kd_t (cs_K12 hcs), cs_N12 hcs, cs_P0_12 hcs, kd_t (cs_K13 hcs), cs_P13_0 hcs, kd_t (cs_K14 hcs), cs_N14 hcs, cs_P13_2 hcs, kd_t (cs_K15 hcs), cs_N15 hcs, cs_P13_4 hcs, kd_t (cs_K16 hcs), cs_N16 hcs, cs_P0_16 hcs, kd_t (cs_K17 hcs), cs_N17 hcs, cs_P0_17 hcs, kd_t (cs_K18 hcs), cs_N18 hcs, cs_P7_0 hcs, cs_P7_1 hcs, cs_P7_2 hcs, lt_t, nn_t, bd_t, bdD_t, bdP_t, nI_clamp, gi_n, nI_add, nI_1, pk_mul, b2_eq0, b2_01, nb_t, if_true, if_false, ni_le, ni_eq, ni_lt, o1, l32_e]
      rw [if_pos h32]
    · have hv : ∃ t, t < 47 ∧ v = nI t := by
        unfold obOk at c1
        rw [Bool.or_eq_true] at c1
        rcases c1 with c | c
        · obtain ⟨a, -, ha, e⟩ := cIn_of (lo := 8) c (by omega) (by omega)
          exact ⟨a, by omega, e⟩
        · rw [Bool.and_eq_true, decide_eq_true_iff, decide_eq_true_iff] at c
          obtain ⟨a, -, ha, e⟩ := rng (lo := 41) (hi := 46) c.1 c.2 (by omega) (by omega)
          exact ⟨a, by omega, e⟩
      obtain ⟨t, ht, rfl⟩ := hv
      have fm : Fm (fun a k => a = x + 5 ∨ a = x + 6 ∨ (a = x ∧ k = 7)) S d S (wI (wL (wI d (x + 5) (s 18 0) (nI t)) (x + 6) (s 18 0) (obV (nI t) w)) x 7 (nI (s 18 0 + 1))) := fm_t (fm_t (fm_wI (.inl rfl)) (fm_wL (.inr (.inl rfl)))) (fm_wI (.inr (.inr ⟨rfl, rfl⟩)))
      have rp1 := rp_cf fm h.rp hx (fun a k p => by omega)
      obtain ⟨e, fe, re, dl, di⟩ := r_object_z rp1.ri h.b (t := t) (x := w) c1 h32
      have so : ∀ k i, k ≠ 18 → k ≠ 19 → sOb s t k i = s k i := fun k i h1 h2 => by unfold sOb; rw [up2_ne h1, up2_ne h2]
      have ag : Ag s (sOb s t) := ag_same (fun k i _ _ h3 => so k i (by omega) (by omega))
      have e18 : sOb s t 18 0 = s 18 0 + 1 := by unfold sOb; rw [up2_eq]
      have e19 : ∀ i, sOb s t 19 i = if i = s 18 0 then t else s 19 i := by
        intro i
        unfold sOb
        rw [up2_ne (by decide)]
        by_cases c : i = s 18 0
        · rw [if_pos c, c, up2_eq]
        · rw [if_neg c, up2_nk c]
      have G1' := g1_ag (g1_sw fm h.g1 (fun a k p => by unfold SW; omega)) h.b ag (fun k i h1 h2 => so k i (by omega) (by omega)) (fun k i h1 h2 => so k i (by omega) (by omega))
      have hTE : TE (sOb s t) = TE s := by
        funext a c'
        unfold TE FE
        rw [so 3 0 (by decide) (by decide), so 5 0 (by decide) (by decide), so 4 a (by decide) (by decide), so 11 _ (by decide) (by decide)]
        simp only [fun i => so 10 i (by decide) (by decide)]
      have G2' : G2 (wI (wL (wI d (x + 5) (s 18 0) (nI t)) (x + 6) (s 18 0) (obV (nI t) w)) x 7 (nI (s 18 0 + 1))) x (sOb s t) (upf q.1 (s 18 0) (obV (nI t) w), q.2) := by
        have cl := cl_fm fm h.g2.cl hx (by omega) (fun j => by omega)
        have ct := ct_fm fm h.g2.t hx (by omega) (fun j => by omega)
        refine ⟨⟨cl.1, cl.2.1, cl.2.2⟩, ⟨ct.1, fun a c' h1 h2 => by rw [hTE]; exact ct.2 a c' h1 h2⟩, ?_, fun i hi => ?_, fun i hi => ?_, ?_, ?_, fun j hj => ?_⟩
        · rw [e18, dI_wI, if_pos ⟨rfl, rfl⟩]
        · rw [e18] at hi
          rw [e19, dI_wI, if_neg (by omega), dI_wL, dI_wI]
          by_cases c : i = s 18 0
          · rw [if_pos ⟨rfl, c⟩, if_pos c]
          · rw [if_neg (fun z => c z.2), if_neg c]; exact h.g2.o2 i (by omega)
        · rw [e18] at hi
          show _ = upf q.1 (s 18 0) (obV (nI t) w) i
          unfold upf
          rw [dL_wI, dL_wL]
          by_cases c : i = s 18 0
          · rw [if_pos ⟨rfl, c⟩, if_pos c]
          · rw [if_neg (fun z => c z.2), if_neg c, dL_wI]; exact h.g2.o3 i (by omega)
        · exact (fm_I fm (by omega) (by omega)).trans h.g2.fa
        · exact (fm_L fm (by omega) (by omega)).trans h.g2.oc
        · exact (fm_L fm (by omega) (by omega)).trans (h.g2.sn j hj)
      have RP' : RP S e (x + 28) (sOb s t) (upf q.1 (s 18 0) (obV (nI t) w), q.2) := by
        refine ⟨re, fun i hi => ?_, ?_, fun j hj => ?_, fun c hc => ?_⟩
        · show _ = upf q.1 (s 18 0) (obV (nI t) w) i
          unfold upf
          rw [dl]
          by_cases c : i = s 18 0
          · rw [if_pos ⟨rfl, c⟩, if_pos c]
          · rw [if_neg (fun z => c z.2), if_neg c]; exact rp1.ov i hi
        · rw [dl, if_neg (by omega)]; exact rp1.oc
        · rw [dl, if_neg (by omega)]; exact rp1.sn j hj
        · rw [di _ _ (by omega)]; exact rp1.hd c hc
      have rf : Rf (x + 28) (wI (wL (wI d (x + 5) (s 18 0) (nI t)) (x + 6) (s 18 0) (obV (nI t) w)) x 7 (nI (s 18 0 + 1))) e := fun a j n => ⟨di a j (by omega), by rw [dl, if_neg (by omega)]⟩
      refine ⟨nI (s 18 0), _, e, sOb s t, _, ?_, fe, iv_fin (q' := (upf q.1 (s 18 0) (obV (nI t) w), q.2)) G1' G2' RP' rf (bi_object h.b ht h32) ?_ h.ok⟩
      · rw [ev0, c1, if_neg (by decide)]
        have g1' : dI (wI d (x + 5) (s 18 0) (nI t)) x 7 = nI (s 18 0) := by rw [dI_wI, if_neg (by omega)]; exact o1
        have t66 : f_M_object_J66 S x (wI d (x + 5) (s 18 0) (nI t)) (some (x + 6)) (nI (s 18 0)) (obV (nI t) w) = some (nI (s 18 0), wI (wL (wI d (x + 5) (s 18 0) (nI t)) (x + 6) (s 18 0) (obV (nI t) w)) x 7 (nI (s 18 0 + 1))) := by
          have g2' : dI (wL (wI d (x + 5) (s 18 0) (nI t)) (x + 6) (s 18 0) (obV (nI t) w)) x 7 = nI (s 18 0) := by rw [dI_wL]; exact g1'
          have g3' : dI (wI (wL (wI d (x + 5) (s 18 0) (nI t)) (x + 6) (s 18 0) (obV (nI t) w)) x 7 (nI (s 18 0 + 1))) x 7 = nI (s 18 0 + 1) := by rw [dI_wI, if_pos ⟨rfl, rfl⟩]
          simp (maxSteps := 1000000) (disch := omega) only [f_M_object_J66, kd_t (cs_K0 hcs), cs_P0_0 hcs, kd_t (cs_K1 hcs), cs_P1_0 hcs, kd_t (cs_K2 hcs), cs_N2 hcs, cs_P0_1 hcs, kd_t (cs_K3 hcs), cs_N3 hcs, cs_P0_3 hcs, kd_t (cs_K4 hcs), cs_N4 hcs, cs_P0_5 hcs, kd_t (cs_K5 hcs), cs_N5 hcs, cs_P0_6 hcs, kd_t (cs_K6 hcs), cs_N6 hcs, cs_P0_8 hcs, kd_t (cs_K7 hcs), cs_N7 hcs, cs_P0_9 hcs, kd_t (cs_K8 hcs), cs_N8 hcs, cs_P0_11 hcs, kd_t (cs_K9 hcs), cs_P9_0 hcs, cs_P9_1 hcs, kd_t (cs_K10 hcs), cs_N10 hcs, cs_P9_3 hcs, kd_t (cs_K11 hcs), cs_P11_0 hcs, kd_t (cs_K12 hcs), cs_N12 hcs, cs_P0_12 hcs, kd_t (cs_K13 hcs), cs_P13_0 hcs, kd_t (cs_K14 hcs), cs_N14 hcs, cs_P13_2 hcs, kd_t (cs_K15 hcs), cs_N15 hcs, cs_P13_4 hcs, kd_t (cs_K16 hcs), cs_N16 hcs, cs_P0_16 hcs, kd_t (cs_K17 hcs), cs_N17 hcs, cs_P0_17 hcs, kd_t (cs_K18 hcs), cs_N18 hcs, cs_P7_0 hcs, cs_P7_1 hcs, cs_P7_2 hcs, lt_t, nn_t, bd_t, bdD_t, bdP_t, nI_clamp, gi_n, nI_add, nI_1, pk_mul, b2_eq0, b2_01, nb_t, if_true, if_false, ni_le, ni_eq, ni_lt, g2', g3', l1_a, l1_s]
          rw [show s 18 0 + 1 - 1 = s 18 0 by omega]
        simp (maxSteps := 1000000) (disch := omega) only [f_M_object_J18, kd_t (cs_K0 hcs), cs_P0_0 hcs, kd_t (cs_K1 hcs), cs_P1_0 hcs, kd_t (cs_K2 hcs), cs_N2 hcs, cs_P0_1 hcs, kd_t (cs_K3 hcs), cs_N3 hcs, cs_P0_3 hcs, kd_t (cs_K4 hcs), cs_N4 hcs, cs_P0_5 hcs, kd_t (cs_K5 hcs), cs_N5 hcs, cs_P0_6 hcs, kd_t (cs_K6 hcs), cs_N6 hcs, cs_P0_8 hcs, kd_t (cs_K7 hcs), cs_N7 hcs, cs_P0_9 hcs, kd_t (cs_K8 hcs), cs_N8 hcs, cs_P0_11 hcs, kd_t (cs_K9 hcs), cs_P9_0 hcs, cs_P9_1 hcs, kd_t (cs_K10 hcs), cs_N10 hcs, cs_P9_3 hcs, kd_t (cs_K11 hcs), cs_P11_0 hcs, kd_t (cs_K12 hcs), cs_N12 hcs, cs_P0_12 hcs, kd_t (cs_K13 hcs), cs_P13_0 hcs, kd_t (cs_K14 hcs), cs_N14 hcs, cs_P13_2 hcs, kd_t (cs_K15 hcs), cs_N15 hcs, cs_P13_4 hcs, kd_t (cs_K16 hcs), cs_N16 hcs, cs_P0_16 hcs, kd_t (cs_K17 hcs), cs_N17 hcs, cs_P0_17 hcs, kd_t (cs_K18 hcs), cs_N18 hcs, cs_P7_0 hcs, cs_P7_1 hcs, cs_P7_2 hcs, lt_t, nn_t, bd_t, bdD_t, bdP_t, nI_clamp, gi_n, nI_add, nI_1, pk_mul, b2_eq0, b2_01, nb_t, if_true, if_false, ni_le, ni_eq, ni_lt, o1, l32_e, g1', c_box, c_fitted]
        rw [if_neg h32]
        unfold obV at t66 ⊢
        by_cases c : (decide (41 ≤ nI t) && decide (nI t ≤ 46)) = false
        · rw [if_pos c] at t66; rw [if_pos c, if_pos c]; exact t66
        · rw [if_neg c] at t66; rw [if_neg c, if_neg c]; exact t66
      · have := sv_ag h.sv h.b ag (fun i _ => so 13 i (by decide) (by decide)) (by rw [so 5 0 (by decide) (by decide)]; exact Nat.le_refl _) (by rw [e18]; omega) (fun k i h1 h2 => so k i (by omega) (by omega))
        exact ⟨this.rt, this.ok, this.hn, this.hh, this.h1, this.pk⟩
end st
