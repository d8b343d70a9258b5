theorem lst_cg {s s' : Nat → Nat → Nat} (h : ∀ k i, 10 ≤ k → k ≤ 15 → s' k i = s k i) (f : Nat) : lst s' f = lst s f := by
  have hsg : sg s' = sg s := by
    funext a c
    unfold sg
    rw [h 13 a (by omega) (by omega), h 13 c (by omega) (by omega), h 15 _ (by omega) (by omega), h 15 _ (by omega) (by omega), h 15 _ (by omega) (by omega), h 15 _ (by omega) (by omega), h 15 _ (by omega) (by omega), h 15 _ (by omega) (by omega)]
  have hhid : hid s' = hid s := by
    funext f x
    unfold hid
    rw [hsg, h 12 f (by omega) (by omega)]
  have hL : ∀ f acc l k, inhL s' f acc l k = inhL s f acc l k := by
    intro f acc l k
    induction k with
    | zero => rfl
    | succ k ih => unfold inhL inh1; rw [ih, hhid]
  have hI : ∀ f T p, inh s' f T p = inh s f T p := by
    intro f T p
    induction p with
    | zero => unfold inh; rw [ag_own, h 12 f (by omega) (by omega)]
    | succ p ih => unfold inh; rw [ih, h 10 _ (by omega) (by omega), hL]
  have hT : ∀ n f, tab s' n f = tab s n f := by
    intro n
    induction n with
    | zero => intro f; rfl
    | succ n ih =>
      intro f
      unfold tab
      rw [show tab s' n = tab s n from funext ih, hI, h 11 n (by omega) (by omega)]
  exact hT _ _
theorem lst_gb {s : Nat → Nat → Nat} (b : BI s) {f0 nm r : Nat} {v : Int32} {k0 : Nat} (hf0 : f0 < s 5 0) (h6 : s 12 f0 < 6) (hk0 : k0 ≤ 3) : ∀ n f, f < n → f < s 5 0 → lst (sG s (6 * f0 + s 12 f0) nm r v k0) f = lst s f := by
  have hF := b.faces
  have so : ∀ k i, k ≠ 13 → k ≠ 14 → k ≠ 15 → sG s (6 * f0 + s 12 f0) nm r v k0 k i = s k i := fun k i h1 h2 h3 => sG_o ⟨h1, h2, h3⟩ k0
  have vne : ∀ y, vm s y → y ≠ 6 * f0 + s 12 f0 := by
    rintro y ⟨h1, h2⟩ e
    rw [e, show (6 * f0 + s 12 f0) / 6 = f0 by omega, show (6 * f0 + s 12 f0) % 6 = s 12 f0 by omega] at h2
    omega
  have hsg : ∀ a c, vm s a → vm s c → sg (sG s (6 * f0 + s 12 f0) nm r v k0) a c = sg s a c := by
    intro a c ha hc
    have na := vne a ha
    have nc := vne c hc
    unfold sg
    rw [sG_13, sG_13, if_neg na, if_neg nc, sG_15, if_neg (by omega), sG_15, if_neg (by omega), sG_15, if_neg (by omega), sG_15, if_neg (by omega), sG_15, if_neg (by omega), sG_15, if_neg (by omega)]
  have vmo : ∀ f j, f < s 5 0 → j < s 12 f → vm s (6 * f + j) := by
    intro f j hf hj
    have := b.ownN f
    exact ⟨by rw [show (6 * f + j) / 6 = f by omega]; exact hf, by rw [show (6 * f + j) / 6 = f by omega, show (6 * f + j) % 6 = j by omega]; exact hj⟩
  have hhid : ∀ f y, f < s 5 0 → vm s y → hid (sG s (6 * f0 + s 12 f0) nm r v k0) f y = hid s f y := by
    intro f y hf hy
    unfold hid anyb
    rw [so 12 f (by decide) (by decide) (by decide), fst_congr (fun j hj => hsg _ _ (vmo f j hf hj) hy)]
  intro n
  induction n with
  | zero => intro f h; omega
  | succ n ih =>
    intro f hfn hf
    have b' : ∀ p, p < s 11 f → s 10 (2 * f + p) < f := fun p hp => b.parentF f p hp
    have hL : ∀ acc l, gl s l → ∀ k, k ≤ l.length → inhL (sG s (6 * f0 + s 12 f0) nm r v k0) f acc l k = inhL s f acc l k := by
      intro acc l hl k
      induction k with
      | zero => intro _; rfl
      | succ k ihk =>
        intro hk
        unfold inhL inh1
        rw [ihk (by omega), hhid f _ hf (hl.2 _ (getD_mem (by omega)))]
    have hI : ∀ p, p ≤ s 11 f → inh (sG s (6 * f0 + s 12 f0) nm r v k0) f (lst (sG s (6 * f0 + s 12 f0) nm r v k0)) p = inh s f (lst s) p := by
      intro p
      induction p with
      | zero => intro _; unfold inh; rw [ag_own, so 12 f (by decide) (by decide) (by decide)]
      | succ p ihp =>
        intro hp
        have hlt := b' p (by omega)
        unfold inh
        rw [ihp (by omega), so 10 _ (by decide) (by decide) (by decide), ih _ (by omega) (by omega), hL _ _ (gl_lst b _ _ (Nat.lt_succ_self _) (by omega)) _ (Nat.le_refl _)]
    have l1 : lst s f = inh s f (lst s) (s 11 f) := lst_eq b f
    have l2 : lst (sG s (6 * f0 + s 12 f0) nm r v k0) f = inh (sG s (6 * f0 + s 12 f0) nm r v k0) f (lst (sG s (6 * f0 + s 12 f0) nm r v k0)) (sG s (6 * f0 + s 12 f0) nm r v k0 11 f) := by
      have hlt : ∀ p, p < sG s (6 * f0 + s 12 f0) nm r v k0 11 f → sG s (6 * f0 + s 12 f0) nm r v k0 10 (2 * f + p) < f := by
        intro p hp
        rw [so 11 f (by decide) (by decide) (by decide)] at hp
        rw [so 10 _ (by decide) (by decide) (by decide)]
        exact b' p hp
      have : ∀ p, p ≤ sG s (6 * f0 + s 12 f0) nm r v k0 11 f → inh (sG s (6 * f0 + s 12 f0) nm r v k0) f (tab (sG s (6 * f0 + s 12 f0) nm r v k0) f) p = inh (sG s (6 * f0 + s 12 f0) nm r v k0) f (lst (sG s (6 * f0 + s 12 f0) nm r v k0)) p := by
        intro p
        induction p with
        | zero => intro _; rfl
        | succ p ihp =>
          intro hp
          unfold inh
          rw [ihp (by omega), tab_lst _ f _ (hlt p (by omega))]
      have e1 : lst (sG s (6 * f0 + s 12 f0) nm r v k0) f = inh (sG s (6 * f0 + s 12 f0) nm r v k0) f (tab (sG s (6 * f0 + s 12 f0) nm r v k0) f) (sG s (6 * f0 + s 12 f0) nm r v k0 11 f) := by
        unfold lst
        show (if f = f then _ else _) = _
        rw [if_pos rfl]
      rw [e1]; exact this _ (Nat.le_refl _)
    rw [l2, so 11 f (by decide) (by decide) (by decide), hI _ (Nat.le_refl _), l1]
section st
variable {S : gS} {d : gD} {x : Nat} {s : Nat → Nat → Nat} {A : Nat → Nat → Nat} {q : (Nat → Int64) × Int64 × (Nat → Int64) × (Nat → Int32)}
theorem sv_0 {s' : Nat → Nat → Nat} (h : SV s q) (h0 : s 21 0 = 0) (h13 : ∀ i, 72 ≤ i → s' 13 i = s 13 i) (h2 : ∀ k i, 21 ≤ k → k ≤ 27 → s' k i = s k i) : SV s' q := by
  have e21 : s' 21 0 = 0 := (h2 21 0 (by omega) (by omega)).trans h0
  refine ⟨⟨by rw [h13 _ (by omega)]; exact h.rt.1, by rw [h13 _ (by omega)]; exact h.rt.2.1, by rw [h13 _ (by omega)]; exact h.rt.2.2⟩, fun c hc => by omega, fun c h3 h4 => ?_, fun c hc => by omega, fun c => by rw [h2 27 c (by omega) (by omega)]; exact h.h1 c, fun c hc => by omega⟩
  rw [h2 27 c (by omega) (by omega)]
  exact h.hn c (by omega) h4
theorem st_extend (h : IV S d x s A q) (v1 v2 : Int32) : ∃ r d1 e s', f_M_extend S d x v1 v2 = some (r, d1) ∧ f_R_extend S d1 (x + 28) v1 v2 = some (r, e) ∧ IV S e x s' A q := by
  have hcs := h.g1.ce.cs
  have hx := h.g1.ce.hx
  have hF := h.b.faces
  have hS := h.b.stands
  have F := h.g1.ce.F
  cases Classical.em (∃ f p, exOk s v1 v2 f p) with
  | inr no =>
    have no' : ∀ f p, ¬ exOk s v1 v2 f p := fun f p w => no ⟨f, p, w⟩
    refine ⟨0, d, _, s, ?_, r_extend_n h.rp.ri h.b no', iv_w0 h⟩
    simp only [f_M_extend, kd_t (cs_K0 hcs), lt_t, h.g1.st1, c_isFace hcs F, bd_t, b2_eq0, l0_gt _ (show s 21 0 < 2 ^ 31 by omega)]
    by_cases q0 : 0 < s 21 0
    · rw [if_pos q0]
    · rw [if_neg q0]
      cases c1 : cIn 24 (nI (24 + s 5 0)) v1 with
      | false => rw [if_pos rfl]
      | true =>
        cases c2 : cIn 24 (nI (24 + s 5 0)) v2 with
        | false => rw [if_neg (by decide), if_pos rfl]
        | true =>
          rw [if_neg (by decide), if_neg (by decide)]
          obtain ⟨a, ha1, ha2, rfl⟩ := cIn_of (lo := 24) c1 (by omega) (by omega)
          obtain ⟨c, hc1, hc2, rfl⟩ := cIn_of (lo := 24) c2 (by omega) (by omega)
          obtain ⟨f, rfl⟩ : ∃ f, a = 24 + f := ⟨a - 24, by omega⟩
          obtain ⟨p, rfl⟩ : ∃ p, c = 24 + p := ⟨c - 24, by omega⟩
          have fc := F.2.1 f (by omega)
          have hN := h.b.parentN f
          have h6 := h.b.faceL f (by omega)
          have no := no' f p
          have s1 : nI (24 + f) - 24 = nI f := by rw [l24_s _ (by omega)]; congr 1; omega
          by_cases q1 : p < f
          · have c3 := c_hasParent h.b (show f < 12 by omega) fc (p := p) (by omega)
            simp (maxSteps := 1000000) (disch := omega) only [f_M_extend, kd_t (cs_K0 hcs), cs_P0_0 hcs, kd_t (cs_K1 hcs), cs_P1_0 hcs, kd_t (cs_K2 hcs), cs_N2 hcs, cs_P0_1 hcs, kd_t (cs_K3 hcs), cs_N3 hcs, cs_P0_3 hcs, kd_t (cs_K4 hcs), cs_N4 hcs, cs_P0_5 hcs, kd_t (cs_K5 hcs), cs_N5 hcs, cs_P0_6 hcs, kd_t (cs_K6 hcs), cs_N6 hcs, cs_P0_8 hcs, kd_t (cs_K7 hcs), cs_N7 hcs, cs_P0_9 hcs, kd_t (cs_K8 hcs), cs_N8 hcs, cs_P0_11 hcs, kd_t (cs_K9 hcs), cs_P9_0 hcs, cs_P9_1 hcs, kd_t (cs_K10 hcs), cs_N10 hcs, cs_P9_3 hcs, kd_t (cs_K11 hcs), cs_P11_0 hcs, kd_t (cs_K12 hcs), cs_N12 hcs, cs_P0_12 hcs, kd_t (cs_K13 hcs), cs_P13_0 hcs, kd_t (cs_K14 hcs), cs_N14 hcs, cs_P13_2 hcs, kd_t (cs_K15 hcs), cs_N15 hcs, cs_P13_4 hcs, kd_t (cs_K16 hcs), cs_N16 hcs, cs_P0_16 hcs, kd_t (cs_K17 hcs), cs_N17 hcs, cs_P0_17 hcs, kd_t (cs_K18 hcs), cs_N18 hcs, cs_P7_0 hcs, cs_P7_1 hcs, cs_P7_2 hcs, lt_t, nn_t, bd_t, bdD_t, bdP_t, nI_clamp, gi_n, nI_add, nI_1, pk_mul, b2_eq0, b2_01, nb_t, if_true, if_false, ni_le, ni_eq, ni_lt, s1, fc.p, kd_t fc.sh.k, c3, fc.g5, fc.g0, c_isVisible hcs h.g2.cl F h.b (s 6 f) p h6 (show p < s 5 0 by omega), l2_e]
            rw [if_pos (by omega)]
            cases c4 : anyb (fun k => decide (s 10 (2 * f + k) = p)) (s 11 f) with
            | true => rfl
            | false =>
              rw [if_pos rfl]
              by_cases q2 : s 11 f = 2
              · rw [if_pos q2]
              · rw [if_neg q2]
                cases c5 : vis s (s 6 f) p with
                | false => rw [if_pos rfl]
                | true =>
                  exfalso
                  refine no ⟨rfl, rfl, q1, by omega, by omega, q2, ?_, c5⟩
                  rintro ⟨w1, w2⟩
                  have : anyb (fun k => decide (s 10 (2 * f + k) = p)) (s 11 f) = true := (anyb_iff _ _).mpr ⟨0, by omega, by simpa using w2⟩
                  rw [this] at c4; exact absurd c4 (by decide)
          · rw [if_neg (fun w => by rw [nI_ltI (by omega) (by omega)] at w; omega)]
  | inl ex =>
    obtain ⟨f, p, ok⟩ := ex
    have ok0 := ok
    obtain ⟨rfl, rfl, hp, hf, h21, h11, hno, hvis⟩ := ok
    have fc := F.2.1 f hf
    have hN := h.b.parentN f
    have h6 := h.b.faceL f hf
    have flo := fc.lo
    have fhi := fc.hi
    have s1 : nI (24 + f) - 24 = nI f := by rw [l24_s _ (by omega)]; congr 1; omega
    have c3 := c_hasParent h.b (show f < 12 by omega) fc (p := p) (by omega)
    have c4 : anyb (fun k => decide (s 10 (2 * f + k) = p)) (s 11 f) = false := by
      cases c4 : anyb (fun k => decide (s 10 (2 * f + k) = p)) (s 11 f) with
      | false => rfl
      | true =>
        obtain ⟨k, hk, e⟩ := (anyb_iff _ _).mp c4
        have hk0 : k = 0 := by omega
        subst hk0
        exact absurd ⟨by omega, by simpa using e⟩ hno
    -- the parent row
    have fm1 : Fm (fun a k => a = A 0 f + 1 ∨ (a = A 0 f ∧ k = 5)) S d S (wI (wI d (A 0 f + 1) (s 11 f) (nI (24 + p))) (A 0 f) 5 (nI (s 11 f + 1))) := fm_t (fm_wI (.inl rfl)) (fm_wI (.inr ⟨rfl, rfl⟩))
    have t1 : CT (wI (wI d (A 0 f + 1) (s 11 f) (nI (24 + p))) (A 0 f) 5 (nI (s 11 f + 1))) x s := ct_fm fm1 h.g2.t hx (by omega) (fun j => by omega)
    obtain ⟨e1, f1, i1, l1, ct1⟩ := ct_extend hcs h.b t1 hp hf h11
    have eo : ∀ k i, k ≠ 10 → k ≠ 11 → sEx s f p k i = s k i := fun k i h1 h2 => by unfold sEx; rw [up2_ne h2, up2_ne h1]
    have e10 : ∀ i, sEx s f p 10 i = if i = 2 * f + s 11 f then p else s 10 i := by
      intro i
      unfold sEx
      rw [up2_ne (by decide)]
      by_cases w : i = 2 * f + s 11 f
      · rw [if_pos w, w, up2_eq]
      · rw [if_neg w, up2_nk w]
    have e11 : ∀ i, sEx s f p 11 i = if i = f then s 11 f + 1 else s 11 i := by
      intro i
      unfold sEx
      by_cases w : i = f
      · rw [if_pos w, w, up2_eq]
      · rw [if_neg w, up2_nk w, up2_ne (by decide)]
    have fm : Fm (fun a k => a = A 0 f + 1 ∨ (a = A 0 f ∧ k = 5) ∨ a = x + 2 ∨ (a = x ∧ k = 13)) S d S (wI e1 x 13 0) := by
      refine fm_t (fm_t (fm_m fm1 (fun a k _ w => by omega)) ⟨Nat.le_refl _, fun a _ => ⟨rfl, rfl, fun j n => ⟨rfl, i1 a j, l1 a j (by omega)⟩⟩⟩) (fm_wI (.inr (.inr (.inr ⟨rfl, rfl⟩))))
    have rp1 := rp_cf fm h.rp hx (fun a k w => by omega)
    obtain ⟨e, fe, re, ce⟩ := r_extend_z rp1.ri h.b ok0
    have dfn : ∀ a k, dI (wI e1 x 13 0) a k = if a = x ∧ k = 13 then 0 else if a = A 0 f ∧ k = 5 then nI (s 11 f + 1) else if a = A 0 f + 1 ∧ k = s 11 f then nI (24 + p) else dI d a k := by
      intro a k
      rw [dI_wI, i1, dI_wI, dI_wI]
    have g1' : G1 S (wI e1 x 13 0) x (sEx s f p) A q.2.2.2 := by
      have ce0 := h.g1.ce
      refine ⟨⟨cs_fm fm hcs hx (fun a k w => by unfold stc at w; omega), hx, ⟨?_, fun g hg => ?_, by rw [eo 5 0 (by decide) (by decide)]; exact F.2.2⟩, fun i hi => ?_, ce0.M.2⟩, .inl (by rw [dI_wI, if_pos ⟨rfl, rfl⟩]), ?_, fun c hc => ?_, fun c c' h1 h2 => ?_, ?_⟩
      · rw [eo 5 0 (by decide) (by decide), dfn, if_neg (by omega), if_neg (by omega), if_neg (by omega)]; exact F.1
      · rw [eo 5 0 (by decide) (by decide)] at hg
        have c := F.2.1 g hg
        have clo := c.lo
        have sep : g ≠ f → A 0 g ≠ A 0 f ∧ A 0 g + 1 ≠ A 0 f ∧ A 0 g ≠ A 0 f + 1 := by
          intro w
          rcases Nat.lt_or_gt_of_ne w with u | u
          · have := F.2.2 g f u hf; omega
          · have := F.2.2 f g u hg; omega
        have k1 : ∀ k, (g ≠ f ∨ k ≠ 5) → dI (wI e1 x 13 0) (A 0 g) k = dI d (A 0 g) k := by
          intro k w
          rw [dfn, if_neg (by omega)]
          by_cases u : g = f
          · rw [u, if_neg (by omega), if_neg (by omega)]
          · have := sep u
            rw [if_neg (by omega), if_neg (by omega)]
        refine ⟨c.p, clo, c.hi, c.sh, by rw [eo 6 g (by decide) (by decide), k1 0 (by omega)]; exact c.g0, by rw [eo 7 g (by decide) (by decide), k1 1 (by omega)]; exact c.g1, by rw [eo 8 g (by decide) (by decide), k1 2 (by omega)]; exact c.g2, by rw [eo 9 g (by decide) (by decide), k1 3 (by omega)]; exact c.g3, ?_, fun i hi => ?_, by rw [eo 12 g (by decide) (by decide), k1 7 (by omega)]; exact c.g7, by rw [eo 12 g (by decide) (by decide)]; exact c.ow⟩
        · rw [e11]
          by_cases u : g = f
          · rw [if_pos u, u, dfn, if_neg (by omega), if_pos ⟨rfl, rfl⟩]
          · rw [if_neg u, k1 5 (.inl u)]; exact c.g5
        · rw [e11] at hi
          rw [e10]
          have hNg := h.b.parentN g
          by_cases u : g = f
          · rw [if_pos u] at hi
            rw [u, dfn, if_neg (by omega), if_neg (by omega)]
            by_cases w : i = s 11 f
            · rw [if_pos ⟨rfl, w⟩, if_pos (by omega)]
            · rw [if_neg (fun z => w z.2), if_neg (by omega), ← u]
              exact c.gp i (by rw [u]; omega)
          · rw [if_neg u] at hi
            have := sep u
            rw [if_neg (by omega), dfn, if_neg (by omega), if_neg (by omega), if_neg (by omega)]
            exact c.gp i hi
      · have hvx : vx s i := by
          unfold vx at hi ⊢
          rw [eo 5 0 (by decide) (by decide), eo 12 _ (by decide) (by decide)] at hi
          exact hi
        have o := ce0.M.1 i hvx
        have ok' := om_fm fm o (fun k => ?_)
        · have hth : thr (sEx s f p) i = thr s i := by
            have : ∀ k, thrK (sEx s f p) i k = thrK s i k := by
              intro k
              induction k with
              | zero => rfl
              | succ k ih => unfold thrK; rw [ih, eo 17 _ (by decide) (by decide)]
            unfold thr; rw [this, eo 16 i (by decide) (by decide)]
          exact ⟨ok'.k, ok'.p, ok'.rs, ok'.g0, ok'.g1, by rw [eo 13 i (by decide) (by decide)]; exact ok'.g2, by unfold pkp; rw [eo 15 _ (by decide) (by decide), eo 15 _ (by decide) (by decide), eo 15 _ (by decide) (by decide)]; exact ok'.g3, by rw [eo 14 i (by decide) (by decide)]; exact ok'.g4, by rw [hth]; exact ok'.tr, ok'.hi, ok'.lo⟩
        · have olo := o.lo
          have k0 := o.k
          have k1 := o.rs.k
          have k2 := o.rs.ak
          refine ⟨?_, ?_, ?_⟩
          · rintro (w | w | w | w)
            · rw [w, fc.sh.k1] at k0; cases k0
            · rw [w.1, fc.sh.k] at k0; cases k0
            · omega
            · omega
          · rintro (w | w | w | w)
            · rw [w, fc.sh.k1] at k1; cases k1
            · rw [w.1, fc.sh.k] at k1; cases k1
            · omega
            · omega
          · rintro (w | w | w | w)
            · have : A 1 i + 1 = A 0 f := by omega
              rw [this, fc.sh.k] at k1; cases k1
            · rw [w.1, fc.sh.k] at k2; cases k2
            · omega
            · omega
      · rw [eo 21 0 (by decide) (by decide), dfn, if_neg (by omega), if_neg (by omega), if_neg (by omega)]; exact h.g1.st1
      · rw [eo 21 0 (by decide) (by decide), h21] at hc; omega
      · rw [eo 21 0 (by decide) (by decide), h21] at h2; omega
      · refine ⟨fun i v hi hv => ?_, h.g1.dk.inj⟩
        obtain ⟨k1, k2, k3, k4⟩ := h.g1.dk.sl i v hi hv
        refine ⟨k1, k2, k3, fun w => ?_⟩
        obtain ⟨c, j, w1, -⟩ := w
        rw [eo 21 0 (by decide) (by decide), h21] at w1; omega
    have g2' : G2 (wI e1 x 13 0) x (sEx s f p) q := by
      have cl := cl_fm fm h.g2.cl hx (by omega) (fun j => by omega)
      refine ⟨⟨by rw [eo 1 0 (by decide) (by decide)]; exact cl.1, cl.2.1, fun i h0 hi => by rw [eo 1 0 (by decide) (by decide)] at hi; rw [eo 2 i (by decide) (by decide)]; exact cl.2.2 i h0 hi⟩, ⟨?_, fun a c ha hc => ct1.2 a c ha hc⟩, by rw [eo 18 0 (by decide) (by decide)]; exact (fm_I fm (by omega) (by omega)).trans h.g2.o1, fun i hi => ?_, fun i hi => ?_, by rw [eo 28 0 (by decide) (by decide)]; exact (fm_I fm (by omega) (by omega)).trans h.g2.fa, (fm_L fm (by omega) (by omega)).trans h.g2.oc, fun j hj => (fm_L fm (by omega) (by omega)).trans (h.g2.sn j hj)⟩
      · rw [dI_wI, if_neg (by omega)]; exact ct1.1
      · rw [eo 18 0 (by decide) (by decide)] at hi
        rw [eo 19 i (by decide) (by decide)]
        exact (fm_I fm (by omega) (by omega)).trans (h.g2.o2 i hi)
      · rw [eo 18 0 (by decide) (by decide)] at hi
        exact (fm_L fm (by omega) (by omega)).trans (h.g2.o3 i hi)
    refine ⟨1, _, e, sEx s f p, ?_, fe, iv_fin g1' g2' (rp_ch rp1 ce re (fun c => by omega)) (rf_ch ce (fun a k p => by omega)) (bi_extend h.b hp hf h11) (sv_0 h.sv h21 (fun i _ => eo 13 i (by decide) (by decide)) (fun k i h1 h2 => eo k i (by omega) (by omega))) h.ok⟩
    have cf1 : cIn 24 (nI (24 + s 5 0)) (nI (24 + f)) = true := by
      rw [show (24 : Int32) = nI 24 from rfl, cIn_nI (by omega) (by omega) (by omega), decide_eq_true (by omega), decide_eq_true (by omega)]; rfl
    have cf2 : cIn 24 (nI (24 + s 5 0)) (nI (24 + p)) = true := by
      rw [show (24 : Int32) = nI 24 from rfl, cIn_nI (by omega) (by omega) (by omega), decide_eq_true (by omega), decide_eq_true (by omega)]; rfl
    have ap : f_Fc_addParent S d (A 0 f) (nI (24 + p)) = some ((), wI (wI d (A 0 f + 1) (s 11 f) (nI (24 + p))) (A 0 f) 5 (nI (s 11 f + 1))) := by
      have g5' : dI (wI d (A 0 f + 1) (s 11 f) (nI (24 + p))) (A 0 f) 5 = nI (s 11 f) := by rw [dI_wI, if_neg (by omega)]; exact fc.g5
      simp (maxSteps := 1000000) (disch := omega) only [f_Fc_addParent, lt_t, nn_t, bd_t, bdD_t, bdP_t, nI_clamp, gi_n, nI_add, nI_1, pk_mul, b2_eq0, b2_01, nb_t, if_true, if_false, ni_le, ni_eq, ni_lt, kd_t fc.sh.k, fc.g5, fc.sh.p4, kd_t fc.sh.k1, fc.sh.n1, show Int32.ofNat 2 = nI 2 from rfl, g5', l1_a]
      rw [if_neg (by omega)]
    simp (maxSteps := 1000000) (disch := omega) only [f_M_extend, kd_t (cs_K0 hcs), cs_P0_0 hcs, kd_t (cs_K1 hcs), cs_P1_0 hcs, kd_t (cs_K2 hcs), cs_N2 hcs, cs_P0_1 hcs, kd_t (cs_K3 hcs), cs_N3 hcs, cs_P0_3 hcs, kd_t (cs_K4 hcs), cs_N4 hcs, cs_P0_5 hcs, kd_t (cs_K5 hcs), cs_N5 hcs, cs_P0_6 hcs, kd_t (cs_K6 hcs), cs_N6 hcs, cs_P0_8 hcs, kd_t (cs_K7 hcs), cs_N7 hcs, cs_P0_9 hcs, kd_t (cs_K8 hcs), cs_N8 hcs, cs_P0_11 hcs, kd_t (cs_K9 hcs), cs_P9_0 hcs, cs_P9_1 hcs, kd_t (cs_K10 hcs), cs_N10 hcs, cs_P9_3 hcs, kd_t (cs_K11 hcs), cs_P11_0 hcs, kd_t (cs_K12 hcs), cs_N12 hcs, cs_P0_12 hcs, kd_t (cs_K13 hcs), cs_P13_0 hcs, kd_t (cs_K14 hcs), cs_N14 hcs, cs_P13_2 hcs, kd_t (cs_K15 hcs), cs_N15 hcs, cs_P13_4 hcs, kd_t (cs_K16 hcs), cs_N16 hcs, cs_P0_16 hcs, kd_t (cs_K17 hcs), cs_N17 hcs, cs_P0_17 hcs, kd_t (cs_K18 hcs), cs_N18 hcs, cs_P7_0 hcs, cs_P7_1 hcs, cs_P7_2 hcs, lt_t, nn_t, bd_t, bdD_t, bdP_t, nI_clamp, gi_n, nI_add, nI_1, pk_mul, b2_eq0, b2_01, nb_t, if_true, if_false, ni_le, ni_eq, ni_lt, h.g1.st1, c_isFace hcs F, cf1, cf2, s1, fc.p, kd_t fc.sh.k, c3, c4, fc.g5, fc.g0, c_isVisible hcs h.g2.cl F h.b (s 6 f) p h6 (show p < s 5 0 by omega), hvis, ap, f1, l0_gt, l2_e]
    rw [if_neg (by omega), if_neg (by decide), if_neg (by decide), if_pos (by omega), if_neg h11, if_neg (by decide)]
end st
