section st
variable {S S1 : gS} {d d1 : gD} {x : Nat} {s s' : Nat → Nat → Nat} {A A' : Nat → Nat → Nat} {hd : Nat → Int32} {U : Nat → Prop} {D : List (Nat × List Nat)} {q : (Nat → Int64) × Int64 × (Nat → Int64) × (Nat → Int32)}
theorem si_ag2 {c : Nat} (si : SIr S d x s A hd c) (b : BI s) (ag : Ag s s') (h40 : (dsc s (nI (s 23 c))).length ≤ 40) (h2 : ∀ k, 22 ≤ k → k ≤ 27 → s' k c = s k c) (a1 : ∀ i, A' 1 i = A 1 i) (a2 : A' 2 c = A 2 c) (a3 : ∀ i, i < 40 → A' 3 (40 * c + i) = A 3 (40 * c + i)) (a4 : A' 4 c = A 4 c) : SIr S d x s' A' hd c := by
  have e23 := h2 23 (by omega) (by omega)
  have ed := ag_dsc ag b (nI (s 23 c))
  have eu : uT s' c = uT s c := ag_uT ag b e23 (h2 24 (by omega) (by omega)) (h2 25 (by omega) (by omega))
  refine ⟨by rw [a2]; exact si.p, by rw [a2]; exact si.lo, by rw [a2]; exact si.hi, by rw [a2]; exact si.k, by rw [a2]; exact si.p4, by rw [a2]; exact si.k1, by rw [a2, e23, ed.1]; exact si.n1, fun i hi => ?_, by rw [a2, a4]; exact si.p5, by rw [a4]; exact si.ul, by rw [a4]; exact si.k5, by rw [a4, eu]; exact si.n5, by rw [a4, eu]; exact si.by_, by rw [a2, h2 22 (by omega) (by omega)]; exact si.g0, by rw [a2, e23]; exact si.g1, by rw [a2, h2 24 (by omega) (by omega)]; exact si.g2, by rw [a2, h2 25 (by omega) (by omega)]; exact si.g3, by rw [a2]; exact si.g6, by rw [a2, h2 27 (by omega) (by omega)]; exact si.g7⟩
  rw [e23, ed.1] at hi
  obtain ⟨m1, m2, m3, m4, m5, m6, m7⟩ := si.me i hi
  have hof := ord_full (s := s) (fl := dsc s (nI (s 23 c)))
  have hj := (hof.2 _).mp (getD_mem (l := ord s (dsc s (nI (s 23 c)))) (i := i) (by omega))
  have hc8 : cs8 s ((perm s (dsc s (nI (s 23 c)))).getD i df).2 := by rw [perm_at hi]; exact ed.2 _ hj
  rw [a2, a3 i (by omega), a1, e23, ed.1, ag_perm ag, ag_ct ag b hc8]
  exact ⟨m1, m2, m3, m4, m5, m6, m7⟩
theorem ag_wT (ag : Ag s s') (b : BI s) {fl : List (Nat × List Nat)} (h8 : c8F s fl) {pk nm : Nat} {v : Int32} : wT s' (perm s fl) pk nm v = wT s (perm s fl) pk nm v := by
  have hof := ord_full (s := s) (fl := fl)
  have hm : ∀ k, k ≤ fl.length → MT s' (perm s fl) k = MT s (perm s fl) k := by
    intro k
    induction k with
    | zero => intro _; rfl
    | succ k ih =>
      intro hk
      have hj := (hof.2 _).mp (getD_mem (l := ord s fl) (i := k) (by omega))
      have hc8 : cs8 s ((perm s fl).getD k df).2 := by rw [perm_at (by omega)]; exact h8 _ hj
      unfold MT
      rw [ih (by omega), ag_mT ag, ag_ct ag b hc8]
  unfold wT
  rw [hm _ (by rw [perm_len]; exact Nat.le_refl _)]
def siS (S : gS) (n : Nat) : gS := wP (nS (nS S 6 0) 63 n) (sZ S) 4 (some (sZ S + 1))
def siD (S : gS) (d : gD) (v1 v2 v3 v4 : Int32) : gD := nD (nS S 6 0) (wI (wI (wI (wI (wI (nD S d) (sZ S) 6 (-1)) (sZ S) 0 v1) (sZ S) 1 v2) (sZ S) 2 v3) (sZ S) 3 v4)
theorem c_siInit {v1 v2 v3 v4 : Int32} {n : Nat} (hn : n < 1000) : f_Si_init (nS S 6 0) (nD S d) (sZ S) v1 v2 v3 v4 (nI n) = some (((), siS S n, siD S d v1 v2 v3 v4), 1, n) := by
  have k1 : sK (nS S 6 0) (sZ S) = 6 := by rw [sK_nS, if_pos rfl]
  have k2 : sK (nS (nS S 6 0) 63 n) (sZ S) = 6 := by simp [sK_nS, sZ_nS]
  have z1 : sZ (nS S 6 0) = sZ S + 1 := rfl
  simp only [f_Si_init, kd_t k1, lt_t, nl_n (show n < 67108864 by omega), nI_clamp (show n < 2 ^ 31 by omega), z1, kd_t k2, ac_t, Nat.zero_add]
  rfl
theorem c_siInit_s {v1 v2 v3 v4 : Int32} {n : Nat} : sK (siS S n) (sZ S) = 6 ∧ sP (siS S n) (sZ S) 4 = some (sZ S + 1) ∧ sK (siS S n) (sZ S + 1) = 63 ∧ sN (siS S n) (sZ S + 1) = n ∧ sZ (siS S n) = sZ S + 2 ∧ Fm (fun _ _ => False) S d (siS S n) (siD S d v1 v2 v3 v4) ∧ dI (siD S d v1 v2 v3 v4) (sZ S) 0 = v1 ∧ dI (siD S d v1 v2 v3 v4) (sZ S) 1 = v2 ∧ dI (siD S d v1 v2 v3 v4) (sZ S) 2 = v3 ∧ dI (siD S d v1 v2 v3 v4) (sZ S) 3 = v4 ∧ dI (siD S d v1 v2 v3 v4) (sZ S) 6 = -1 ∧ dI (siD S d v1 v2 v3 v4) (sZ S) 7 = 0 := by
  refine ⟨?_, ?_, ?_, ?_, rfl, ?_, ?_, ?_, ?_, ?_, ?_, ?_⟩
  · simp [siS, sK_nS, sK_wP, sZ_nS]
  · simp [siS, sP_wP]
  · simp [siS, sK_nS, sK_wP, sZ_nS]
  · simp [siS, sN_nS, sN_wP, sZ_nS]
  · exact fm_nP (fm_nN (fm_nI (fm_nI (fm_nI (fm_nI (fm_nI fm_nS (Nat.le_refl _)) (Nat.le_refl _)) (Nat.le_refl _)) (Nat.le_refl _)) (Nat.le_refl _))) (Nat.le_refl _)
  all_goals simp [siD, dI_wI, dI_nD, sZ_nS]
def MD (S : gS) (d : gD) (x : Nat) (s : Nat → Nat → Nat) (A : Nat → Nat → Nat) (D : List (Nat × List Nat)) (l : Nat) (pk : Nat) (cn : Nat) (v : Int32) (S1 : gS) (d1 : gD) : Prop := (sZ S1 = sZ S + 2) ∧ (∀ a, a < sZ S → sK S1 a = sK S a ∧ sN S1 a = sN S a) ∧ (∀ a j, a < sZ S → a ≠ x + 10 → sP S1 a j = sP S a j) ∧ (∀ i, sP S1 (x + 10) i = if i < D.length then none else sP S (x + 10) i) ∧ (∀ a j, a < sZ S → dL d1 a j = dL d a j) ∧ (∀ a j, a < sZ S → ¬ (a = x + 9 ∧ j = 2) → (∀ g u, g < D.length → sP S (x + 10) g = some u → ¬ PRw (u + 3) a j) → dI d1 a j = dI d a j) ∧ (∀ g u, g < D.length → sP S (x + 10) g = some u → RWd d1 (u + 3) (ct s (D.getD g df).2)) ∧ (sK S1 (sZ S) = 6) ∧ (sP S1 (sZ S) 4 = some (sZ S + 1)) ∧ (sK S1 (sZ S + 1) = 63) ∧ (sN S1 (sZ S + 1) = D.length) ∧ (∀ i, i < D.length → sP S1 (sZ S + 1) i = sP S (x + 10) i) ∧ (dI d1 (sZ S) 0 = nI l) ∧ (dI d1 (sZ S) 1 = v) ∧ (dI d1 (sZ S) 2 = nI pk) ∧ (dI d1 (sZ S) 3 = nI cn) ∧ (dI d1 (sZ S) 6 = -1) ∧ (dI d1 (sZ S) 7 = 0)
theorem MD.z {S : gS} {d : gD} {x : Nat} {s : Nat → Nat → Nat} {A : Nat → Nat → Nat} {D : List (Nat × List Nat)} {l : Nat} {pk : Nat} {cn : Nat} {v : Int32} {S1 : gS} {d1 : gD} (h : MD S d x s A D l pk cn v S1 d1) : sZ S1 = sZ S + 2 := h.1
theorem MD.k {S : gS} {d : gD} {x : Nat} {s : Nat → Nat → Nat} {A : Nat → Nat → Nat} {D : List (Nat × List Nat)} {l : Nat} {pk : Nat} {cn : Nat} {v : Int32} {S1 : gS} {d1 : gD} (h : MD S d x s A D l pk cn v S1 d1) : ∀ a, a < sZ S → sK S1 a = sK S a ∧ sN S1 a = sN S a := h.2.1
theorem MD.p {S : gS} {d : gD} {x : Nat} {s : Nat → Nat → Nat} {A : Nat → Nat → Nat} {D : List (Nat × List Nat)} {l : Nat} {pk : Nat} {cn : Nat} {v : Int32} {S1 : gS} {d1 : gD} (h : MD S d x s A D l pk cn v S1 d1) : ∀ a j, a < sZ S → a ≠ x + 10 → sP S1 a j = sP S a j := h.2.2.1
theorem MD.px {S : gS} {d : gD} {x : Nat} {s : Nat → Nat → Nat} {A : Nat → Nat → Nat} {D : List (Nat × List Nat)} {l : Nat} {pk : Nat} {cn : Nat} {v : Int32} {S1 : gS} {d1 : gD} (h : MD S d x s A D l pk cn v S1 d1) : ∀ i, sP S1 (x + 10) i = if i < D.length then none else sP S (x + 10) i := h.2.2.2.1
theorem MD.l {S : gS} {d : gD} {x : Nat} {s : Nat → Nat → Nat} {A : Nat → Nat → Nat} {D : List (Nat × List Nat)} {l : Nat} {pk : Nat} {cn : Nat} {v : Int32} {S1 : gS} {d1 : gD} (h : MD S d x s A D l pk cn v S1 d1) : ∀ a j, a < sZ S → dL d1 a j = dL d a j := h.2.2.2.2.1
theorem MD.i {S : gS} {d : gD} {x : Nat} {s : Nat → Nat → Nat} {A : Nat → Nat → Nat} {D : List (Nat × List Nat)} {l : Nat} {pk : Nat} {cn : Nat} {v : Int32} {S1 : gS} {d1 : gD} (h : MD S d x s A D l pk cn v S1 d1) : ∀ a j, a < sZ S → ¬ (a = x + 9 ∧ j = 2) → (∀ g u, g < D.length → sP S (x + 10) g = some u → ¬ PRw (u + 3) a j) → dI d1 a j = dI d a j := h.2.2.2.2.2.1
theorem MD.c {S : gS} {d : gD} {x : Nat} {s : Nat → Nat → Nat} {A : Nat → Nat → Nat} {D : List (Nat × List Nat)} {l : Nat} {pk : Nat} {cn : Nat} {v : Int32} {S1 : gS} {d1 : gD} (h : MD S d x s A D l pk cn v S1 d1) : ∀ g u, g < D.length → sP S (x + 10) g = some u → RWd d1 (u + 3) (ct s (D.getD g df).2) := h.2.2.2.2.2.2.1
theorem MD.k6 {S : gS} {d : gD} {x : Nat} {s : Nat → Nat → Nat} {A : Nat → Nat → Nat} {D : List (Nat × List Nat)} {l : Nat} {pk : Nat} {cn : Nat} {v : Int32} {S1 : gS} {d1 : gD} (h : MD S d x s A D l pk cn v S1 d1) : sK S1 (sZ S) = 6 := h.2.2.2.2.2.2.2.1
theorem MD.p4 {S : gS} {d : gD} {x : Nat} {s : Nat → Nat → Nat} {A : Nat → Nat → Nat} {D : List (Nat × List Nat)} {l : Nat} {pk : Nat} {cn : Nat} {v : Int32} {S1 : gS} {d1 : gD} (h : MD S d x s A D l pk cn v S1 d1) : sP S1 (sZ S) 4 = some (sZ S + 1) := h.2.2.2.2.2.2.2.2.1
theorem MD.k63 {S : gS} {d : gD} {x : Nat} {s : Nat → Nat → Nat} {A : Nat → Nat → Nat} {D : List (Nat × List Nat)} {l : Nat} {pk : Nat} {cn : Nat} {v : Int32} {S1 : gS} {d1 : gD} (h : MD S d x s A D l pk cn v S1 d1) : sK S1 (sZ S + 1) = 63 := h.2.2.2.2.2.2.2.2.2.1
theorem MD.n63 {S : gS} {d : gD} {x : Nat} {s : Nat → Nat → Nat} {A : Nat → Nat → Nat} {D : List (Nat × List Nat)} {l : Nat} {pk : Nat} {cn : Nat} {v : Int32} {S1 : gS} {d1 : gD} (h : MD S d x s A D l pk cn v S1 d1) : sN S1 (sZ S + 1) = D.length := h.2.2.2.2.2.2.2.2.2.2.1
theorem MD.pm {S : gS} {d : gD} {x : Nat} {s : Nat → Nat → Nat} {A : Nat → Nat → Nat} {D : List (Nat × List Nat)} {l : Nat} {pk : Nat} {cn : Nat} {v : Int32} {S1 : gS} {d1 : gD} (h : MD S d x s A D l pk cn v S1 d1) : ∀ i, i < D.length → sP S1 (sZ S + 1) i = sP S (x + 10) i := h.2.2.2.2.2.2.2.2.2.2.2.1
theorem MD.g0 {S : gS} {d : gD} {x : Nat} {s : Nat → Nat → Nat} {A : Nat → Nat → Nat} {D : List (Nat × List Nat)} {l : Nat} {pk : Nat} {cn : Nat} {v : Int32} {S1 : gS} {d1 : gD} (h : MD S d x s A D l pk cn v S1 d1) : dI d1 (sZ S) 0 = nI l := h.2.2.2.2.2.2.2.2.2.2.2.2.1
theorem MD.g1 {S : gS} {d : gD} {x : Nat} {s : Nat → Nat → Nat} {A : Nat → Nat → Nat} {D : List (Nat × List Nat)} {l : Nat} {pk : Nat} {cn : Nat} {v : Int32} {S1 : gS} {d1 : gD} (h : MD S d x s A D l pk cn v S1 d1) : dI d1 (sZ S) 1 = v := h.2.2.2.2.2.2.2.2.2.2.2.2.2.1
theorem MD.g2 {S : gS} {d : gD} {x : Nat} {s : Nat → Nat → Nat} {A : Nat → Nat → Nat} {D : List (Nat × List Nat)} {l : Nat} {pk : Nat} {cn : Nat} {v : Int32} {S1 : gS} {d1 : gD} (h : MD S d x s A D l pk cn v S1 d1) : dI d1 (sZ S) 2 = nI pk := h.2.2.2.2.2.2.2.2.2.2.2.2.2.2.1
theorem MD.g3 {S : gS} {d : gD} {x : Nat} {s : Nat → Nat → Nat} {A : Nat → Nat → Nat} {D : List (Nat × List Nat)} {l : Nat} {pk : Nat} {cn : Nat} {v : Int32} {S1 : gS} {d1 : gD} (h : MD S d x s A D l pk cn v S1 d1) : dI d1 (sZ S) 3 = nI cn := h.2.2.2.2.2.2.2.2.2.2.2.2.2.2.2.1
theorem MD.g6 {S : gS} {d : gD} {x : Nat} {s : Nat → Nat → Nat} {A : Nat → Nat → Nat} {D : List (Nat × List Nat)} {l : Nat} {pk : Nat} {cn : Nat} {v : Int32} {S1 : gS} {d1 : gD} (h : MD S d x s A D l pk cn v S1 d1) : dI d1 (sZ S) 6 = -1 := h.2.2.2.2.2.2.2.2.2.2.2.2.2.2.2.2.1
theorem MD.g7 {S : gS} {d : gD} {x : Nat} {s : Nat → Nat → Nat} {A : Nat → Nat → Nat} {D : List (Nat × List Nat)} {l : Nat} {pk : Nat} {cn : Nat} {v : Int32} {S1 : gS} {d1 : gD} (h : MD S d x s A D l pk cn v S1 d1) : dI d1 (sZ S) 7 = 0 := h.2.2.2.2.2.2.2.2.2.2.2.2.2.2.2.2.2
theorem c_made (h : G1 S d x s A hd) (t : CT d x s) (b : BI s) (K : DK S x U) (C : DC S d x A D) (hD : ∀ i, i < D.length → cl (D.getD i df).2) (h40 : D.length ≤ 40) {l : Nat} {v : Int32} (ho : okL s v) (hm : mxK s v (ln v) = false) : ∃ S1 d1, f_M_madeOfDraft S d x (nI l) v = some ((some (sZ S), S1, d1), 2, D.length + 8) ∧ MD S d x s A D l (pkK s v (ln v)) (cntP s (pkK s v (ln v)) (s 21 0)) v S1 d1 := by
  have hcs := h.ce.cs
  have hx := h.ce.hx
  have hS := b.stands
  have hpk : pkF s v = pkK s v (ln v) := ((pk_all b ho (ln v) (Nat.le_refl _)).2.1 hm).2.symm
  have pkl : pkK s v (ln v) ≤ 4 := pkK_le b ho _ (Nat.le_refl _)
  have pk1 := c_packageOf hcs h.ce.F b ho
  rw [hpk] at pk1
  have fm0 : Fm (fun _ _ => False) S d (nS S 6 0) (nD S d) := fm_nS
  have cs0 : CS (nS S 6 0) x := cs_fm fm0 hcs hx (fun _ _ _ => id)
  have so := c_standsOf (A := A) (s := s) (d := nD S d) (pk := pkK s v (ln v)) cs0 ((fm_I fm0 (by omega) id).trans h.st1) hS (fun c hc => by
    have si := h.st2 c hc
    have sh := si.hi
    exact ⟨(fm_P fm0 (by omega) id).trans si.p, (fm_K fm0 (by omega)).trans si.k, (fm_I fm0 (by omega) id).trans si.g2⟩) b (by omega)
  have d9 : dI (nD S d) (x + 9) 2 = nI D.length := (fm_I fm0 (by omega) id).trans C.n
  have init := c_siInit (S := S) (d := d) (v1 := nI l) (v2 := v) (v3 := nI (pkK s v (ln v))) (v4 := nI (cntP s (pkK s v (ln v)) (s 21 0))) (n := D.length) (by omega)
  obtain ⟨q1, q2, q3, q4, q5, fmi, g0, g1, g2, g3, g6, g7⟩ := c_siInit_s (S := S) (d := d) (v1 := nI l) (v2 := v) (v3 := nI (pkK s v (ln v))) (v4 := nI (cntP s (pkK s v (ln v)) (s 21 0))) (n := D.length)
  generalize siS S D.length = S2 at init q1 q2 q3 q4 q5 fmi
  generalize siD S d (nI l) v (nI (pkK s v (ln v))) (nI (cntP s (pkK s v (ln v)) (s 21 0))) = d2 at init fmi g0 g1 g2 g3 g6 g7
  have cs2 : CS S2 x := cs_fm fmi hcs hx (fun _ _ _ => id)
  have t2 : CT d2 x s := ct_fm fmi t hx id (fun _ => id)
  have K2 := dk_new hcs hx K fmi
  have sxe : ∀ i, sP S2 (x + 10) i = sP S (x + 10) i := fun i => fm_P fmi (by omega) id
  have C2 : DC S2 d2 x A D := by
    refine ⟨(fm_I fmi (by omega) id).trans C.n, fun i hi => ?_⟩
    obtain ⟨u, e1, e2, e3⟩ := C.c i hi
    have su := K.sl i u (by omega) e1
    exact ⟨u, (sxe i).trans e1, (fm_P fmi (by omega) id).trans e2, rwd_fm fmi e3 (by omega) id (fun _ => id)⟩
  obtain ⟨S3, d3, f3, H⟩ := c_handOver (r := sZ S + 1) cs2 t2 b K2 C2 hD (by omega) (by omega) q3 q4
  have ub : ∀ g u, g < D.length → sP S (x + 10) g = some u → u + 4 < sZ S ∧ x + 64 < u := fun g u hg hu => ⟨(K.sl g u (by omega) hu).2.2.1, (K.sl g u (by omega) hu).2.1⟩
  have newI : ∀ a j, sZ S ≤ a → dI (wI d3 (x + 9) 2 0) a j = dI d2 a j := by
    intro a j ha
    rw [dI_wI, if_neg (by omega)]
    refine H.i a j (fun g u hg hu => ?_)
    rw [sxe] at hu
    have := ub g u hg hu
    unfold PRw
    omega
  refine ⟨S3, wI d3 (x + 9) 2 0, ?_, ⟨H.z.trans q5, fun a ha => ⟨(H.k a).1.trans (fm_K fmi ha), (H.k a).2.trans (fm_N fmi ha)⟩, fun a j ha h10 => (H.p a j h10 (by omega)).trans (fm_P fmi ha id), fun i => by rw [H.px, sxe], fun a j ha => by rw [dL_wI, H.l]; exact fm_L fmi ha id, fun a j ha h9 hn => by rw [dI_wI, if_neg h9, H.i a j (fun g u hg hu => hn g u hg (by rw [← sxe]; exact hu))]; exact fm_I fmi ha id, fun g u hg hu => ?_, (H.k _).1.trans q1, (H.p _ _ (by omega) (by omega)).trans q2, (H.k _).1.trans q3, (H.k _).2.trans q4, fun i hi => by rw [H.pr, if_pos hi, sxe], (newI _ _ (by omega)).trans g0, (newI _ _ (by omega)).trans g1, (newI _ _ (by omega)).trans g2, (newI _ _ (by omega)).trans g3, (newI _ _ (by omega)).trans g6, (newI _ _ (by omega)).trans g7⟩⟩
  · simp only [f_M_madeOfDraft, kd_t (cs_K0 hcs), pk1, bd_t, lt_t, kd_t (cs_K0 cs0), so, cs_P0_11 cs0, nn_t, kd_t (cs_K9 cs0), d9, init, bdA_t, kd_t (cs_K0 cs2), cs_P0_11 cs2, kd_t q1, q2, kd_t (cs_K9 cs2), f3, bdP_t, ac_t, Nat.zero_add]
  · have hc := H.c g u hg (by rw [sxe]; exact hu)
    have := ub g u hg hu
    exact rwd_ch hc (ch_w (P := fun a j => a = x + 9 ∧ j = 2) ⟨rfl, rfl⟩) (by omega) (fun j _ => by omega)
end st
