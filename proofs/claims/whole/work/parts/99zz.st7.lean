section st
variable {S S1 : gS} {d d1 : gD} {x : Nat} {s s' : Nat → Nat → Nat} {A A' : Nat → Nat → Nat} {hd : Nat → Int32} {q : (Nat → Int64) × Int64 × (Nat → Int64) × (Nat → Int32)}
theorem si_ag {c : Nat} (si : SIr S d x s A hd c) (b : BI s) (ag : Ag s s') (h2 : ∀ k, 22 ≤ k → k ≤ 27 → s' k c = s k c) (hA : ∀ k i, 1 ≤ k → A' k i = A k i) : SIr S d x s' A' hd c := by
  have e23 := h2 23 (by omega) (by omega)
  have ed := ag_dsc ag b (nI (s 23 c))
  have eu : uT s' c = uT s c := ag_uT ag b e23 (h2 24 (by omega) (by omega)) (h2 25 (by omega) (by omega))
  have a2 := hA 2 c (by omega)
  have a4 := hA 4 c (by omega)
  refine ⟨by rw [a2]; exact si.p, by rw [a2]; exact si.lo, by rw [a2]; exact si.hi, by rw [a2]; exact si.k, by rw [a2]; exact si.p4, by rw [a2]; exact si.k1, by rw [a2, e23, ed.1]; exact si.n1, fun i hi => ?_, by rw [a2, a4]; exact si.p5, by rw [a4]; exact si.ul, by rw [a4]; exact si.k5, by rw [a4, eu]; exact si.n5, by rw [a4, eu]; exact si.by_, by rw [a2, h2 22 (by omega) (by omega)]; exact si.g0, by rw [a2, e23]; exact si.g1, by rw [a2, h2 24 (by omega) (by omega)]; exact si.g2, by rw [a2, h2 25 (by omega) (by omega)]; exact si.g3, by rw [a2]; exact si.g6, by rw [a2, h2 27 (by omega) (by omega)]; exact si.g7⟩
  rw [e23, ed.1] at hi
  obtain ⟨m1, m2, m3, m4, m5, m6, m7⟩ := si.me i hi
  have hof := ord_full (s := s) (fl := dsc s (nI (s 23 c)))
  have hj := (hof.2 _).mp (getD_mem (l := ord s (dsc s (nI (s 23 c)))) (i := i) (by omega))
  have hc8 : cs8 s ((perm s (dsc s (nI (s 23 c)))).getD i df).2 := by rw [perm_at hi]; exact ed.2 _ hj
  rw [a2, hA 3 _ (by omega), hA 1 _ (by omega), e23, ed.1, ag_perm ag, ag_ct ag b hc8]
  exact ⟨m1, m2, m3, m4, m5, m6, m7⟩
theorem st_face (h : IV S d x s A q) (v1 v2 v3 : Int32) {o : Nat} (ho : o ≤ 1) : ∃ r S1 d1 n m e s' A', f_M_face S d x v1 v2 v3 (nI o) = some ((r, S1, d1), n, m) ∧ n ≤ 1000 ∧ m ≤ 10000 ∧ f_R_face S1 d1 (x + 28) v1 v2 v3 (nI o) = some (r, e) ∧ IV S1 e x s' A' q := by
  have hcs := h.g1.ce.cs
  have hx := h.g1.ce.hx
  have hF := h.b.faces
  have hL := h.b.loaders
  have F := h.g1.ce.F
  have no : ∀ (hv : v1 < 0 ∨ nI (s 1 0) ≤ v1 ∨ v2 < 0 ∨ 25 < v2 ∨ v3 < 0 ∨ 3 < v3 ∨ (∃ l, v1 = nI l ∧ l < s 1 0 ∧ fnd s l v2 v3 ≠ none) ∨ s 5 0 = 12) (ev : f_M_face S d x v1 v2 v3 (nI o) = some ((-1, S, d), 0, 0)), ∃ r S1 d1 n m e s' A', f_M_face S d x v1 v2 v3 (nI o) = some ((r, S1, d1), n, m) ∧ n ≤ 1000 ∧ m ≤ 10000 ∧ f_R_face S1 d1 (x + 28) v1 v2 v3 (nI o) = some (r, e) ∧ IV S1 e x s' A' q := fun hv ev => ⟨-1, S, d, 0, 0, _, s, A, ev, by omega, by omega, r_face_n h.rp.ri h.b hv, iv_w0 h⟩
  have e26 : (26 : Int32) = nI 26 := rfl
  have e4 : (4 : Int32) = nI 4 := rfl
  have big : ∀ (n : Nat) (v : Int32), n + 1 < 2 ^ 31 → cIn 0 (nI (n + 1)) v = false → v < 0 ∨ nI n < v := by
    intro n v hn hc
    rcases c0_f hc with w | w
    · exact .inl w
    · right
      exact Int32.lt_of_lt_of_le ((nI_ltI (by omega) (by omega)).mpr (Nat.lt_succ_self n)) w
  cases c1 : cIn 0 (nI (s 1 0)) v1 with
  | false =>
    refine no ?_ ?_
    · rcases c0_f c1 with w | w
      · exact .inl w
      · exact .inr (.inl w)
    · simp only [f_M_face, kd_t (cs_K0 hcs), c_isLoader hcs h.g2.cl, c1, bd_t, b2_eq0]
      rw [if_pos trivial]
  | true =>
    cases c2 : cIn 0 (nI 26) v2 with
    | false =>
      refine no ?_ ?_
      · rcases big 25 v2 (by omega) c2 with w | w
        · exact .inr (.inr (.inl w))
        · exact .inr (.inr (.inr (.inl w)))
      · simp only [f_M_face, kd_t (cs_K0 hcs), c_isLoader hcs h.g2.cl, c1, bd_t, b2_eq0, c_within, e26, c2]
        rw [if_neg (by decide), if_pos trivial]
    | true =>
      cases c3 : cIn 0 (nI 4) v3 with
      | false =>
        refine no ?_ ?_
        · rcases big 3 v3 (by omega) c3 with w | w
          · exact .inr (.inr (.inr (.inr (.inl w))))
          · exact .inr (.inr (.inr (.inr (.inr (.inl w)))))
        · simp only [f_M_face, kd_t (cs_K0 hcs), c_isLoader hcs h.g2.cl, c1, bd_t, b2_eq0, c_within, e26, c2, e4, c3]
          rw [if_neg (by decide), if_neg (by decide), if_pos trivial]
      | true =>
        obtain ⟨l, -, hl, rfl⟩ := cIn_of (lo := 0) c1 (by omega) (by omega)
        obtain ⟨nm, -, hn, rfl⟩ := cIn_of (lo := 0) (hi := 26) c2 (by omega) (by omega)
        obtain ⟨pk, -, hp, rfl⟩ := cIn_of (lo := 0) (hi := 4) c3 (by omega) (by omega)
        by_cases qf : fnd s l (nI nm) (nI pk) = none
        · by_cases q12 : s 5 0 = 12
          · refine no (.inr (.inr (.inr (.inr (.inr (.inr (.inr q12))))))) ?_
            simp only [f_M_face, kd_t (cs_K0 hcs), c_isLoader hcs h.g2.cl, c1, bd_t, b2_eq0, c_within, e26, c2, e4, c3, c_foundBy hcs h.g2.cl F h.b l hl, qf, o24, lt_t, F.1, l12_e _ (show s 5 0 < 2 ^ 31 by omega)]
            rw [if_neg (by decide), if_neg (by decide), if_neg (by decide), if_pos trivial, if_pos q12]
          · have o01 : nI o = 0 ∨ nI o = 1 := by
              rcases (show o = 0 ∨ o = 1 by omega) with rfl | rfl
              · exact .inl rfl
              · exact .inr rfl
            have init := c_fcInit (S := S) (d := d) (v1 := nI l) (v2 := nI nm) (v3 := nI pk) (v4 := nI o) o01
            obtain ⟨fs, fz, fmi, g0, g1, g2, g3, g5, g7, g9⟩ := c_fcInit_s (S := S) (d := d) (v1 := nI l) (v2 := nI nm) (v3 := nI pk) (v4 := nI o)
            generalize hSE : fcE S = SE at init fs fz fmi
            generalize hDE : fcD S d (nI l) (nI nm) (nI pk) (nI o) = DE at init fmi g0 g1 g2 g3 g5 g7 g9
            have kz : ∀ a, a < sZ S → sK SE a = sK S a := fun a ha => fm_K fmi ha
            have pz : ∀ a j, a < sZ S → sP SE a j = sP S a j := fun a j ha => fm_P fmi ha id
            have nz' : ∀ a, a < sZ S → sN SE a = sN S a := fun a ha => fm_N fmi ha
            have iz : ∀ a j, a < sZ S → dI DE a j = dI d a j := fun a j ha => fm_I fmi ha id
            have i4 : dI DE x 4 = nI (s 5 0) := (iz _ _ (by omega)).trans F.1
            have fm : Fm (fun a j => (a = x + 4 ∧ j = s 5 0) ∨ (a = x ∧ j = 4) ∨ a = x + 2) S d (wP SE (x + 4) (s 5 0) (some (sZ S))) (wL (wI DE x 4 (nI (s 5 0 + 1))) (x + 2) (24 + s 5 0) (bi (24 + s 5 0) ||| bi 7)) :=
              fm_t (fm_t (fm_t (fm_m fmi (fun _ _ _ f => f.elim)) (fm_wP (.inl ⟨rfl, rfl⟩))) (fm_wI (.inr (.inl ⟨rfl, rfl⟩)))) (fm_wL (.inr (.inr rfl)))
            generalize hS1 : wP SE (x + 4) (s 5 0) (some (sZ S)) = S1 at fm
            have ag := ag_face h.b hl hn hp ho q12
            have bi' := bi_face h.b hl hn hp ho q12
            have eo : ∀ k i, k < 5 ∨ 9 < k → sFa s l nm pk o k i = s k i := by
              intro k i h1
              unfold sFa
              rw [up2_ne (by omega), up2_ne (by omega), up2_ne (by omega), up2_ne (by omega), up2_ne (by omega)]
            have e5 : sFa s l nm pk o 5 0 = s 5 0 + 1 := by unfold sFa; rw [up2_eq]
            have e6 : ∀ i, sFa s l nm pk o 6 i = if i = s 5 0 then l else s 6 i := by
              intro i; unfold sFa; rw [up2_ne (by decide), up2_ne (by decide), up2_ne (by decide), up2_ne (by decide)]
              by_cases c : i = s 5 0
              · rw [if_pos c, c, up2_eq]
              · rw [if_neg c, up2_nk c]
            have e7 : ∀ i, sFa s l nm pk o 7 i = if i = s 5 0 then nm else s 7 i := by
              intro i; unfold sFa; rw [up2_ne (by decide), up2_ne (by decide), up2_ne (by decide)]
              by_cases c : i = s 5 0
              · rw [if_pos c, c, up2_eq]
              · rw [if_neg c, up2_nk c, up2_ne (by decide)]
            have e8 : ∀ i, sFa s l nm pk o 8 i = if i = s 5 0 then pk else s 8 i := by
              intro i; unfold sFa; rw [up2_ne (by decide), up2_ne (by decide)]
              by_cases c : i = s 5 0
              · rw [if_pos c, c, up2_eq]
              · rw [if_neg c, up2_nk c, up2_ne (by decide), up2_ne (by decide)]
            have e9 : ∀ i, sFa s l nm pk o 9 i = if i = s 5 0 then o else s 9 i := by
              intro i; unfold sFa; rw [up2_ne (by decide)]
              by_cases c : i = s 5 0
              · rw [if_pos c, c, up2_eq]
              · rw [if_neg c, up2_nk c, up2_ne (by decide), up2_ne (by decide), up2_ne (by decide)]
            have rp1 := rp_cf fm h.rp hx (fun a j p => by omega)
            obtain ⟨e, fe, re, ce⟩ := r_face_z rp1.ri h.b hl hn hp ho qf q12
            have z1 : sZ S1 = sZ S + 4 := by rw [← hS1, sZ_wP]; exact fz
            have a0 : ∀ f, f ≠ s 5 0 → up2 A 0 (s 5 0) (sZ S) 0 f = A 0 f := fun f hf => up2_nk hf
            have a0' : up2 A 0 (s 5 0) (sZ S) 0 (s 5 0) = sZ S := up2_eq
            have a1 : ∀ k i, 1 ≤ k → up2 A 0 (s 5 0) (sZ S) k i = A k i := fun k i hk => up2_ne (by omega) i
            have dz : ∀ j, dI (wL (wI DE x 4 (nI (s 5 0 + 1))) (x + 2) (24 + s 5 0) (bi (24 + s 5 0) ||| bi 7)) (sZ S) j = dI DE (sZ S) j := fun j => by rw [dI_wL, dI_wI, if_neg (by omega)]
            have pz1 : ∀ a j, a ≠ x + 4 → sP S1 a j = sP SE a j := fun a j ha => by rw [← hS1, sP_wP, if_neg (fun w => ha w.1)]
            have kz1 : ∀ a, sK S1 a = sK SE a := fun a => by rw [← hS1, sK_wP]
            have nz1 : ∀ a, sN S1 a = sN SE a := fun a => by rw [← hS1, sN_wP]
            have fs1 : FCs S1 (sZ S) := ⟨(kz1 _).trans fs.k, (pz1 _ _ (by omega)).trans fs.p4, (kz1 _).trans fs.k1, (nz1 _).trans fs.n1, (pz1 _ _ (by omega)).trans fs.p6, (kz1 _).trans fs.k2, (nz1 _).trans fs.n2, (pz1 _ _ (by omega)).trans fs.p8, (kz1 _).trans fs.k3, (nz1 _).trans fs.n3⟩
            have p0 : s 11 (s 5 0) = 0 := h.b.parentN0 _ (Nat.le_refl _)
            have n0 : s 12 (s 5 0) = 0 := h.b.ownN0 _ (Nat.le_refl _)
            have G1' : G1 S1 (wL (wI DE x 4 (nI (s 5 0 + 1))) (x + 2) (24 + s 5 0) (bi (24 + s 5 0) ||| bi 7)) x (sFa s l nm pk o) (up2 A 0 (s 5 0) (sZ S)) q.2.2.2 := by
              have g := h.g1
              refine ⟨⟨cs_fm fm hcs hx (fun a j w => by unfold stc at w; omega), by omega, ⟨?_, fun f hf => ?_, fun f f' h1 h2 => ?_⟩, fun i hi => ?_, fun k hk => by rw [a1 _ _ (by omega)]; exact g.ce.M.2 k hk⟩, ?_, ?_, fun c hc => ?_, fun c c' h1 h2 => ?_, ?_⟩
              · rw [e5, dI_wL, dI_wI, if_pos ⟨rfl, rfl⟩]
              · rw [e5] at hf
                by_cases cf : f = s 5 0
                · subst cf
                  refine ⟨by rw [← hS1, sP_wP, if_pos ⟨rfl, rfl⟩, a0'], by rw [a0']; exact hx, by rw [a0', z1]; omega, by rw [a0']; exact fs1, by rw [a0', dz, e6, if_pos rfl]; exact g0, by rw [a0', dz, e7, if_pos rfl]; exact g1, by rw [a0', dz, e8, if_pos rfl]; exact g2, by rw [a0', dz, e9, if_pos rfl]; exact g3, by rw [a0', dz, eo 11 _ (.inr (by omega)), p0]; exact g5, fun i hi => by rw [eo 11 _ (.inr (by omega)), p0] at hi; omega, by rw [a0', dz, eo 12 _ (.inr (by omega)), n0]; exact g7, fun i hi => by rw [eo 12 _ (.inr (by omega)), n0] at hi; omega⟩
                · have c := F.2.1 f (by omega)
                  have clo := c.lo
                  have c' := fc_fm fm c hx (by omega) (fun j _ => by omega) (fun j => by omega) (fun j => by omega)
                  have ea := a0 f cf
                  exact ⟨by rw [ea]; exact c'.p, by rw [ea]; exact c'.lo, by rw [ea]; exact c'.hi, by rw [ea]; exact c'.sh, by rw [ea, e6, if_neg cf]; exact c'.g0, by rw [ea, e7, if_neg cf]; exact c'.g1, by rw [ea, e8, if_neg cf]; exact c'.g2, by rw [ea, e9, if_neg cf]; exact c'.g3, by rw [ea, eo 11 _ (.inr (by omega))]; exact c'.g5, fun i hi => by rw [eo 11 _ (.inr (by omega))] at hi; rw [ea, eo 10 _ (.inr (by omega))]; exact c'.gp i hi, by rw [ea, eo 12 _ (.inr (by omega))]; exact c'.g7, fun i hi => by rw [eo 12 _ (.inr (by omega))] at hi; rw [ea, a1 1 _ (by omega)]; exact c'.ow i hi⟩
              · rw [e5] at h2
                have hfl := (F.2.1 f (by omega)).hi
                by_cases cf : f' = s 5 0
                · rw [cf, a0', a0 f (by omega)]; omega
                · rw [a0 f (by omega), a0 f' cf]; exact F.2.2 f f' h1 (by omega)
              · have hvx : vx s i := by
                  unfold vx at hi ⊢
                  rw [e5, eo 12 _ (.inr (by omega))] at hi
                  rcases hi with w | w
                  · left
                    refine ⟨?_, w.2⟩
                    rcases Nat.lt_or_ge (i / 6) (s 5 0) with u | u
                    · exact u
                    · rw [h.b.ownN0 _ u] at w; omega
                  · exact .inr w
                have oi := g.ce.M.1 i hvx
                have olo := oi.lo
                have o' := om_fm fm oi (fun j => ⟨by omega, by omega, by omega⟩)
                rw [a1 1 i (by omega)]
                exact ⟨o'.k, o'.p, o'.rs, o'.g0, o'.g1, by rw [eo 13 i (.inr (by omega))]; exact o'.g2, by unfold pkp; rw [eo 15 _ (.inr (by omega)), eo 15 _ (.inr (by omega)), eo 15 _ (.inr (by omega))]; exact o'.g3, by rw [eo 14 i (.inr (by omega))]; exact o'.g4, by rw [ag_thr ag]; exact o'.tr, o'.hi, o'.lo⟩
              · have e13 : dI (wL (wI DE x 4 (nI (s 5 0 + 1))) (x + 2) (24 + s 5 0) (bi (24 + s 5 0) ||| bi 7)) x 13 = dI d x 13 := fm_I fm (by omega) (by omega)
                rcases g.al with a | ⟨a1', a2'⟩
                · exact .inl (e13.trans a)
                · refine .inr ⟨e13.trans a1', fun f hf => ?_⟩
                  rw [e5] at hf
                  by_cases cf : f = s 5 0
                  · have hl0 : lst (sFa s l nm pk o) f = [] := by
                      rw [lst_eq bi', eo 11 _ (.inr (by omega)), cf, p0]
                      show own _ _ (sFa s l nm pk o 12 (s 5 0)) = []
                      rw [eo 12 _ (.inr (by omega)), n0]; rfl
                    rw [hl0, cf, a0']
                    exact ⟨(dz 9).trans g9, fun i hi => absurd hi (Nat.not_lt_zero _)⟩
                  · have c := F.2.1 f (by omega)
                    have clo := c.lo
                    have chi := c.hi
                    rw [ag_lst ag, a0 f cf]
                    exact ⟨(fm_I fm (by omega) (by omega)).trans (a2' f (by omega)).1, fun i hi => by rw [a1 1 _ (by omega)]; exact (fm_P fm (by omega) (by omega)).trans ((a2' f (by omega)).2 i hi)⟩
              · rw [eo 21 0 (.inr (by omega))]; exact (fm_I fm (by omega) (by omega)).trans g.st1
              · rw [eo 21 0 (.inr (by omega))] at hc
                have si := g.st2 c hc
                have slo := si.lo
                have sul := si.ul
                have si' := si_fm fm si hx (by omega) (fun j => by omega) (fun j => by omega) (fun i j hi => by have := (si.me i hi).2.2.1; omega) (fun j => by omega)
                exact si_ag si' h.b ag (fun k _ _ => eo k c (.inr (by omega))) a1
              · rw [eo 21 0 (.inr (by omega))] at h2
                rw [a1 2 c (by omega), a1 2 c' (by omega)]; exact g.st3 c c' h1 h2
              · have dk' := dk_fm fm g.dk hx (fun i _ => by omega) (fun a j ha _ _ => by omega)
                refine ⟨fun i v hi hv => ?_, dk'.inj⟩
                obtain ⟨k1, k2, k3, k4⟩ := dk'.sl i v hi hv
                refine ⟨k1, k2, k3, fun w => k4 ?_⟩
                obtain ⟨c, j, w1, w2, w3⟩ := w
                rw [eo 21 0 (.inr (by omega))] at w1
                rw [eo 23 c (.inr (by omega)), (ag_dsc ag h.b _).1] at w2
                rw [a1 3 _ (by omega)] at w3
                exact ⟨c, j, w1, w2, w3⟩
            have G2' : G2 (wL (wI DE x 4 (nI (s 5 0 + 1))) (x + 2) (24 + s 5 0) (bi (24 + s 5 0) ||| bi 7)) x (sFa s l nm pk o) q := by
              have fm2 : Fm (fun a j => a = x ∧ j = 4) S d SE (wI DE x 4 (nI (s 5 0 + 1))) := fm_t (fm_m fmi (fun _ _ _ f => f.elim)) (fm_wI ⟨rfl, rfl⟩)
              have t1 := ct_fm fm2 h.g2.t hx (by omega) (fun j => by omega)
              have cl := cl_fm fm h.g2.cl hx (by omega) (fun j => by omega)
              refine ⟨⟨by rw [eo 1 0 (.inl (by omega))]; exact cl.1, cl.2.1, fun i h0 hi => by rw [eo 1 0 (.inl (by omega))] at hi; rw [eo 2 i (.inl (by omega))]; exact cl.2.2 i h0 hi⟩, ct_face h.b hl hn hp ho q12 t1, by rw [eo 18 0 (.inr (by omega))]; exact (fm_I fm (by omega) (by omega)).trans h.g2.o1, fun i hi => ?_, fun i hi => ?_, by rw [eo 28 0 (.inr (by omega))]; exact (fm_I fm (by omega) (by omega)).trans h.g2.fa, (fm_L fm (by omega) (by omega)).trans h.g2.oc, fun j hj => (fm_L fm (by omega) (by omega)).trans (h.g2.sn j hj)⟩
              · rw [eo 18 0 (.inr (by omega))] at hi
                rw [eo 19 i (.inr (by omega))]
                exact (fm_I fm (by omega) (by omega)).trans (h.g2.o2 i hi)
              · rw [eo 18 0 (.inr (by omega))] at hi
                exact (fm_L fm (by omega) (by omega)).trans (h.g2.o3 i hi)
            refine ⟨nI (24 + s 5 0), S1, _, 4, 90, e, sFa s l nm pk o, up2 A 0 (s 5 0) (sZ S), ?_, by omega, by omega, fe, iv_fin G1' G2' (rp_ch rp1 ce re (fun c => by omega)) (rf_ch ce (fun a k p => by omega)) bi' (sv_ag h.sv h.b ag (fun i _ => eo 13 i (.inr (by omega))) (by rw [e5]; omega) (by rw [eo 18 0 (.inr (by omega))]; exact Nat.le_refl _) (fun k i h1 h2 => eo k i (.inr (by omega)))) ⟨(fm_K fm hx).trans h.ok.1, (fm_N fm hx).trans h.ok.2⟩⟩
            have k60 : sK SE (x + 4) = 60 := (kz _ (by omega)).trans (cs_K4 hcs)
            have n60 : sN SE (x + 4) = 12 := (nz' _ (by omega)).trans (cs_N4 hcs)
            have kS1 : ∀ a κ, a < sZ S → sK S a = κ → sK S1 a = κ := fun a κ ha hk => by rw [kz1, kz a ha]; exact hk
            have pS1 : sP S1 x 0 = some (x + 1) := by rw [pz1 _ _ (by omega), pz _ _ (by omega)]; exact cs_P0_0 hcs
            have pS2 : sP S1 (x + 1) 0 = some (x + 2) := by rw [pz1 _ _ (by omega), pz _ _ (by omega)]; exact cs_P1_0 hcs
            have nS2 : sN S1 (x + 2) = 47 := by rw [nz1, nz' _ (by omega)]; exact cs_N2 hcs
            have addF : f_Ty_addFace S1 (wI DE x 4 (nI (s 5 0 + 1))) (x + 1) (nI (24 + s 5 0)) = some ((), wL (wI DE x 4 (nI (s 5 0 + 1))) (x + 2) (24 + s 5 0) (bi (24 + s 5 0) ||| bi 7)) := by
              simp (disch := omega) only [f_Ty_addFace, kd_t (kS1 _ _ (show x + 1 < sZ S by omega) (cs_K1 hcs)), lt_t, pS2, show (7 : Int32) = nI 7 from rfl, c_bit, bd_t, nn_t, kd_t (kS1 _ _ (show x + 2 < sZ S by omega) (cs_K2 hcs)), nS2, gi_n, nI_clamp]
            simp (disch := omega) only [f_M_face, kd_t (cs_K0 hcs), c_isLoader hcs h.g2.cl, c1, bd_t, b2_eq0, c_within, e26, c2, e4, c3, c_foundBy hcs h.g2.cl F h.b l hl, qf, o24, lt_t, F.1, l12_e, cs_P0_3 hcs, init, bdA_t, nn_t, kd_t k60, n60, gi_n, nI_clamp, kd_t fs.k, hS1, kd_t (kS1 _ _ (show x < sZ S by omega) (cs_K0 hcs)), i4, l1_a, pS1, kd_t (kS1 _ _ (show x + 1 < sZ S by omega) (cs_K1 hcs)), l24_b, addF, bdD_t, ac_t]
            rw [if_neg (by decide), if_neg (by decide), if_neg (by decide), if_pos trivial, if_neg q12]
        · refine no (.inr (.inr (.inr (.inr (.inr (.inr (.inl ⟨l, rfl, hl, qf⟩))))))) ?_
          have hne : ¬ o24 (fnd s l (nI nm) (nI pk)) = -1 := by rw [o24_m1 (fnd_12 h.b)]; exact qf
          simp only [f_M_face, kd_t (cs_K0 hcs), c_isLoader hcs h.g2.cl, c1, bd_t, b2_eq0, c_within, e26, c2, e4, c3, c_foundBy hcs h.g2.cl F h.b l hl]
          rw [if_neg (by decide), if_neg (by decide), if_neg (by decide), if_neg hne]
end st
