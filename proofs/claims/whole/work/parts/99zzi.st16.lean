section st
variable {S S1 : gS} {d d1 : gD} {x : Nat} {s s' : Nat → Nat → Nat} {A A' : Nat → Nat → Nat} {hd : Nat → Int32} {U W : Nat → Prop} {D : List (Nat × List Nat)} {q : (Nat → Int64) × Int64 × (Nat → Int64) × (Nat → Int32)}
def aSt (S : gS) (x c : Nat) (A : Nat → Nat → Nat) (k i : Nat) : Nat := if k = 2 ∧ i = c then sZ S else if k = 4 ∧ i = c then sZ S + 2 else if k = 3 ∧ 40 * c ≤ i then (sP S (x + 10) (i - 40 * c)).getD 0 else A k i
theorem sSt_o {l y pk n k i : Nat} (h : k < 21 ∨ 25 < k ∨ (21 < k ∧ i ≠ s 21 0)) : sSt s l y pk n k i = s k i := by
  unfold sSt up2
  rw [if_neg (by omega), if_neg (by omega), if_neg (by omega), if_neg (by omega), if_neg (by omega)]
theorem sSt_n {l y pk n : Nat} : sSt s l y pk n 21 0 = s 21 0 + 1 ∧ sSt s l y pk n 22 (s 21 0) = l ∧ sSt s l y pk n 23 (s 21 0) = y ∧ sSt s l y pk n 24 (s 21 0) = pk ∧ sSt s l y pk n 25 (s 21 0) = n := by
  unfold sSt up2
  refine ⟨?_, ?_, ?_, ?_, ?_⟩ <;> simp
theorem bi_sSt (b : BI s) {l y pk n : Nat} (h16 : s 21 0 < 16) (hl : l < 2 ^ 31) (hy : y < 2 ^ 31) (hp : pk < 2 ^ 31) (hn : n < 2 ^ 31) : BI (sSt s l y pk n) := by
  have e : ∀ k i, k < 21 → sSt s l y pk n k i = s k i := fun k i hk => sSt_o (.inl hk)
  have e21 := (sSt_n (s := s) (l := l) (y := y) (pk := pk) (n := n)).1
  exact ⟨(fun k i => by
      have := b.lt k i
      unfold sSt up2
      (repeat' split) <;> omega), (by simp (disch := decide) only [e]; exact b.loaders), (by simp (disch := decide) only [e]; exact b.parentL), (by simp (disch := decide) only [e]; exact b.classes), (by simp (disch := decide) only [e]; exact b.parentC), (by simp (disch := decide) only [e]; exact b.faces), (by simp (disch := decide) only [e]; exact b.faceL), (by simp (disch := decide) only [e]; exact b.facePack), (by simp (disch := decide) only [e]; exact b.faceOpen), (by simp (disch := decide) only [e]; exact b.parentN), (by simp (disch := decide) only [e]; exact b.parentN0), (by simp (disch := decide) only [e]; exact b.parentF), (by simp (disch := decide) only [e]; exact b.ownN), (by simp (disch := decide) only [e]; exact b.ownN0), (by simp (disch := decide) only [e]; exact b.throwN), (by simp (disch := decide) only [e]; exact b.throwT), (by simp (disch := decide) only [e]; exact b.throwD), (by simp (disch := decide) only [e]; exact b.takeT), (by simp (disch := decide) only [e]; exact b.takeZ), (by simp (disch := decide) only [e]; exact b.resT), (by simp (disch := decide) only [e]; exact b.nameT), (by simp (disch := decide) only [e]; exact b.objects), (by rw [e21]; omega)⟩
theorem ag_sSt {l y pk n : Nat} : Ag s (sSt s l y pk n) := ag_same (fun k i _ _ h => sSt_o (.inl (by omega)))
theorem sv_sSt (h : SV s q) (b : BI s) {l pk n : Nat} {v : Int32} (h16 : s 21 0 < 16) (ho : okL s v) (h40 : (dsc s v).length ≤ 40) (hp : pk < 256) (hn : n < 256) : SV (sSt s l (xN v) pk n) q := by
  obtain ⟨e1, e2, e3, e4, e5⟩ := sSt_n (s := s) (l := l) (y := xN v) (pk := pk) (n := n)
  have ag := ag_sSt (s := s) (l := l) (y := xN v) (pk := pk) (n := n)
  have e27 : ∀ c, sSt s l (xN v) pk n 27 c = s 27 c := fun c => sSt_o (.inr (.inl (by omega)))
  have e13 : ∀ c, sSt s l (xN v) pk n 13 c = s 13 c := fun c => sSt_o (.inl (by omega))
  have okk : ∀ w, okL s w → okL (sSt s l (xN v) pk n) w := fun w hw k hk => by rw [sSt_o (.inl (by omega))]; exact hw k hk
  refine ⟨⟨by rw [e13]; exact h.rt.1, by rw [e13]; exact h.rt.2.1, by rw [e13]; exact h.rt.2.2⟩, fun c hc => ?_, fun c h3 h4 => ?_, fun c hc => ?_, fun c => by rw [e27]; exact h.h1 c, fun c hc => ?_⟩
  · rw [e1] at hc
    rw [(ag_dsc ag b _).1]
    by_cases q : c = s 21 0
    · rw [q, e3, xN_nI]; exact ⟨okk _ ho, h40⟩
    · rw [sSt_o (.inr (.inr ⟨by omega, q⟩))]
      have := h.ok c (by omega)
      exact ⟨okk _ this.1, this.2⟩
  · rw [e1] at h3
    rw [e27]
    exact h.hn c (by omega) h4
  · rw [e1] at hc
    rw [e27, show sSt s l (xN v) pk n 18 0 = s 18 0 from sSt_o (.inl (by omega))]
    by_cases q : c = s 21 0
    · exact .inl (h.hn c (by omega) (by omega))
    · exact h.hh c (by omega)
  · rw [e1] at hc
    by_cases q : c = s 21 0
    · rw [q, e4, e5]; exact ⟨hp, hn⟩
    · rw [sSt_o (.inr (.inr ⟨by omega, q⟩)), sSt_o (.inr (.inr ⟨by omega, q⟩))]
      exact h.pk c (by omega)
theorem c_st87 (h : G1 S d x s A hd) (t : CT d x s) (b : BI s) (K : DK S x U) (hU : ∀ u, U u → ¬ TS s A u) {v : Int32} (C : DC S d x A (perm s (dsc s v))) (h40 : (dsc s v).length ≤ 40) (sv : ∀ c, c < s 21 0 → okL s (nI (s 23 c)) ∧ (dsc s (nI (s 23 c))).length ≤ 40) (h16 : s 21 0 < 16) {l : Nat} (hl : l < 2 ^ 31) (hy : xN v < 2 ^ 31) (ho : okL s v) (hm : mxK s v (ln v) = false) (h14 : dI d x 14 = 0) (hh : hd (s 21 0) = -1 ∧ s 27 (s 21 0) = 0) : ∃ S1 d1 n m W, f_M_stand_J87 x S d (nI l) v = some ((.inl (nI (s 21 0)), S1, d1), n, m) ∧ n ≤ 3 ∧ m ≤ 4048 ∧ W6 S x s A W ∧ Fm (P6 x (s 21 0) W) S d S1 d1 ∧ G1 S1 d1 x (sSt s l (xN v) (pkK s v (ln v)) (cntP s (pkK s v (ln v)) (s 21 0))) (aSt S x (s 21 0) A) hd := by
  have hcs := h.ce.cs
  have hx := h.ce.hx
  have g0 := GF_dscK b ho _ (Nat.le_refl _)
  rw [show dscK s v (ln v) = dsc s v from rfl] at g0
  have pl := perm_len (s := s) (fl := dsc s v)
  have hof := ord_full (s := s) (fl := dsc s v)
  have hvx : ∀ i, i < (perm s (dsc s v)).length → vx s ((perm s (dsc s v)).getD i df).1 ∧ cl ((perm s (dsc s v)).getD i df).2 := by
    intro i hi
    rw [perm_at (by omega)]
    exact gf_vx b g0 ((hof.2 _).mp (getD_mem (l := ord s (dsc s v)) (i := i) (by omega)))
  have pkl : pkK s v (ln v) ≤ 4 := pkK_le b ho _ (Nat.le_refl _)
  have cnl := cntP_le s (pkK s v (ln v)) (s 21 0)
  obtain ⟨S5, d6, f5, M⟩ := c_made h t b K C (fun i hi => (hvx i hi).2) (by omega) (l := l) ho hm
  generalize hpk : pkK s v (ln v) = pk at *
  generalize hcn : cntP s pk (s 21 0) = cn at *
  obtain ⟨e1, e2, e3, e4, e5⟩ := sSt_n (s := s) (l := l) (y := xN v) (pk := pk) (n := cn)
  have ag := ag_sSt (s := s) (l := l) (y := xN v) (pk := pk) (n := cn)
  have bs := bi_sSt b (y := xN v) (pk := pk) (n := cn) h16 hl hy (by omega) (by omega)
  have so : ∀ k i, k < 21 ∨ 25 < k ∨ (21 < k ∧ i ≠ s 21 0) → sSt s l (xN v) pk cn k i = s k i := fun k i hk => sSt_o hk
  generalize hs' : sSt s l (xN v) pk cn = s' at *
  have ed : dsc s' v = dsc s v := (ag_dsc ag b v).1
  have e23 : nI (s' 23 (s 21 0)) = v := by rw [e3]; exact xN_nI v
  have uw : uT s' (s 21 0) = wT s (perm s (dsc s v)) pk cn v := by
    rw [uT_w, e23, ed, ag_perm ag, e4, e5, ag_wT ag b (ag_dsc ag b v).2]
  have okv : okL s' v := fun k hk => by rw [so 5 0 (by omega)]; exact ho k hk
  have ul : (wT s (perm s (dsc s v)) pk cn v).length ≤ 3168 := by
    rw [← uw]
    exact uT_len bs (by rw [e23]; exact okv) (by rw [e23, ed]; exact h40)
  let W : Nat → Prop := fun u => ∃ g, g < (perm s (dsc s v)).length ∧ sP S (x + 10) g = some u
  have w6 : W6 S x s A W := by
    rintro u ⟨g, hg, e⟩
    obtain ⟨k1, k2, k3, k4⟩ := K.sl g u (by omega) e
    exact ⟨k1, k2, hU u k4⟩
  have fm5 : Fm (P6 x (s 21 0) W) S d S5 d6 := by
    refine ⟨by rw [M.z]; omega, fun a ha => ⟨(M.k a ha).1, (M.k a ha).2, fun j n => ⟨M.p a j ha (fun e => n (.inl e)), M.i a j ha (fun e => n (.inr (.inr (.inl e)))) (fun g u hg hu p => n (.inr (.inr (.inr (.inr (.inr ⟨u, ⟨g, hg, hu⟩, p⟩)))))), M.l a j ha⟩⟩⟩
  obtain ⟨ce5, -, -⟩ := g1_p6 h w6 (Nat.le_refl _) fm5
  have cs5 := ce5.cs
  have slot : ∀ i, i < (perm s (dsc s v)).length → ∃ u, sP S (x + 10) i = some u ∧ SMs S u ∧ x + 64 < u ∧ u + 4 < sZ S ∧ sP S u 0 = some (A 1 ((perm s (dsc s v)).getD i df).1) ∧ RWd d (u + 1) ((perm s (dsc s v)).getD i df).2 := by
    intro i hi
    obtain ⟨u, c1, c2, c3⟩ := C.c i hi
    obtain ⟨k1, k2, k3, k4⟩ := K.sl i u (by omega) c1
    exact ⟨u, c1, k1, k2, k3, c2, c3⟩
  have WIr : WI S5 d6 x s A (sZ S) (perm s (dsc s v)) pk cn v := by
    refine ⟨M.k6, by omega, ⟨sZ S + 1, M.p4, M.k63, M.n63, fun i hi => ?_⟩, M.g1, M.g2, M.g3, fun i hi => ce5.M.1 _ (hvx i hi).1⟩
    obtain ⟨u, c1, k1, k2, k3, c2, c3⟩ := slot i hi
    have kk := sms_k k1
    have r1 := fun j => np6_r (c := s 21 0) (j := j) w6 (by omega) k1.k kk.1 kk.2.1 (by omega)
    have n0 := fun j => np6_k (c := s 21 0) (j := j) w6 (by omega) k1.k (by omega) (by omega)
    exact ⟨u, (M.pm i hi).trans c1, sms_fm fm5 k1 k3 (n0 _) (n0 _) (r1 _).1 (np6_v w6 (by omega) k1), k2, (fm_P fm5 (by omega) (n0 _)).trans c2, rwd_fm fm5 c3 (by omega) (r1 _).1 (fun j => (r1 j).2), M.c i u hi c1⟩
  have hub : ∀ k, k < ln v → ub v k < 47 := fun k hk => by
    have := ho k hk
    have := b.faces
    omega
  have hz5 := M.z
  obtain ⟨d7, m7, f7, l7, fm7, br7⟩ := c_write cs5 ce5.hx b WIr (by omega) hvx hub (by omega) (by omega) (by omega)
  generalize hT : (uBy (run ([], []) (wT s (perm s (dsc s v)) pk cn v))) = T at *
  rw [M.z] at f7 br7
  have z6 : sZ (nS S5 52 T.length) = sZ S + 3 := by rw [sZ_nS, M.z]
  have fm76 : Fm (P6 x (s 21 0) W) S5 d6 (nS S5 52 T.length) d7 := fm_m fm7 (fun a j _ p => .inr (.inr (.inr (.inl p))))
  have fm6 := fm_t fm5 fm76
  have cs6 : CS (nS S5 52 T.length) x := (g1_p6 h w6 (Nat.le_refl _) fm6).1.cs
  have fm8 : Fm (P6 x (s 21 0) W) S d (wP (wP (nS S5 52 T.length) (sZ S) 5 (some (sZ S + 2))) (x + 8) (s 21 0) (some (sZ S))) (wI d7 x 10 (nI (s 21 0) + 1)) :=
    fm_t (fm_t (fm_nP fm6 (Nat.le_refl _)) (fm_wP (.inr (.inl ⟨rfl, rfl⟩)))) (fm_wI (.inr (.inr (.inr (.inr (.inl ⟨rfl, rfl⟩))))))
  have d10 : dI d7 x 10 = nI (s 21 0) := by
    rw [fm_I fm7 (by omega) (by unfold PUw; omega), M.i x 10 (by omega) (by omega) (fun g u hg hu p => by
      have := (K.sl g u (by omega) hu).2.1
      unfold PRw at p; omega)]
    exact h.st1
  have k6 : sK (nS S5 52 T.length) (sZ S) = 6 := (fm_K fm7 (by omega)).trans M.k6
  have csA : CS (wP (nS S5 52 T.length) (sZ S) 5 (some (sZ S + 2))) x := by
    exact cs_fm (P := fun a j => a = sZ S) (d := d7) (d' := d7) (fm_wP rfl) cs6 (by omega) (fun a j hs => by unfold stc at hs; omega)
  have ev : f_M_stand_J87 x S d (nI l) v = some ((.inl (nI (s 21 0)), wP (wP (nS S5 52 T.length) (sZ S) 5 (some (sZ S + 2))) (x + 8) (s 21 0) (some (sZ S)), wI d7 x 10 (nI (s 21 0) + 1)), 3, (perm s (dsc s v)).length + 8 + m7) := by
    have g10 : dI (wI d7 x 10 (nI (s 21 0) + 1)) x 10 = nI (s 21 0) + 1 := by rw [dI_wI, if_pos ⟨rfl, rfl⟩]
    simp only [f_M_stand_J87, kd_t (cs_K0 hcs), lt_t, h14, if_true, f5, bdA_t, kd_t (cs_K0 cs5), cs_P0_12 cs5, nn_t, kd_t (cs_K13 cs5), f7, kd_t k6, kd_t (cs_K0 csA), cs_P0_9 csA, d10, kd_t (cs_K8 csA), cs_N8 csA, gi_n (show s 21 0 < 16 from h16) (show 16 < 2 ^ 31 by omega), nI_clamp (show s 21 0 < 2 ^ 31 by omega), g10, Int32.add_sub_cancel, ac_t, Nat.zero_add, Nat.reduceAdd]
    rw [Nat.add_comm m7]
  obtain ⟨ceF, alF, siF⟩ := g1_p6 h w6 (Nat.le_refl _) fm8
  have kF : ∀ a, a < sZ S + 2 → sK (wP (wP (nS S5 52 T.length) (sZ S) 5 (some (sZ S + 2))) (x + 8) (s 21 0) (some (sZ S))) a = sK S5 a ∧ sN (wP (wP (nS S5 52 T.length) (sZ S) 5 (some (sZ S + 2))) (x + 8) (s 21 0) (some (sZ S))) a = sN S5 a := by
    intro a ha
    rw [sK_wP, sK_wP, sN_wP, sN_wP]
    exact ⟨fm_K fm7 (by omega), fm_N fm7 (by omega)⟩
  have pF : ∀ a j, a < sZ S + 2 → ¬ (a = sZ S ∧ j = 5) → a ≠ x + 8 → ¬ PUw x a j → sP (wP (wP (nS S5 52 T.length) (sZ S) 5 (some (sZ S + 2))) (x + 8) (s 21 0) (some (sZ S))) a j = sP S5 a j := by
    intro a j ha n1 n2 n3
    rw [sP_wP, if_neg (fun e => n2 e.1), sP_wP, if_neg n1]
    exact fm_P fm7 (by omega) n3
  have pF5 : sP (wP (wP (nS S5 52 T.length) (sZ S) 5 (some (sZ S + 2))) (x + 8) (s 21 0) (some (sZ S))) (sZ S) 5 = some (sZ S + 2) := by
    rw [sP_wP, if_neg (by omega), sP_wP, if_pos ⟨rfl, rfl⟩]
  have pF8 : sP (wP (wP (nS S5 52 T.length) (sZ S) 5 (some (sZ S + 2))) (x + 8) (s 21 0) (some (sZ S))) (x + 8) (s 21 0) = some (sZ S) := by
    rw [sP_wP, if_pos ⟨rfl, rfl⟩]
  have kF2 : sK (wP (wP (nS S5 52 T.length) (sZ S) 5 (some (sZ S + 2))) (x + 8) (s 21 0) (some (sZ S))) (sZ S + 2) = 52 ∧ sN (wP (wP (nS S5 52 T.length) (sZ S) 5 (some (sZ S + 2))) (x + 8) (s 21 0) (some (sZ S))) (sZ S + 2) = T.length := by
    rw [sK_wP, sK_wP, sN_wP, sN_wP, sK_nS, sN_nS, if_pos M.z.symm, if_pos M.z.symm]
    exact ⟨rfl, rfl⟩
  have zF : sZ (wP (wP (nS S5 52 T.length) (sZ S) 5 (some (sZ S + 2))) (x + 8) (s 21 0) (some (sZ S))) = sZ S + 3 := by rw [sZ_wP, sZ_wP]; exact z6
  have dF : ∀ a j, a < sZ S + 2 → a ≠ x → ¬ PUw x a j → dI (wI d7 x 10 (nI (s 21 0) + 1)) a j = dI d6 a j := by
    intro a j ha n1 n2
    rw [dI_wI, if_neg (fun e => n1 e.1)]
    exact fm_I fm7 (by omega) n2
  have dF10 : dI (wI d7 x 10 (nI (s 21 0) + 1)) x 10 = nI (s 21 0 + 1) := by rw [dI_wI, if_pos ⟨rfl, rfl⟩, ← nI_add]; rfl
  have brF : BRow (wI d7 x 10 (nI (s 21 0) + 1)) (sZ S + 2) T := fun i hi => by rw [dI_wI, if_neg (by omega)]; exact br7 i hi
  have nu2 : ∀ o j, ¬ PUw x (sZ S + o) j := fun o j => by unfold PUw; omega
  have lnF : ∀ u l', x + 64 < u → u + 4 < sZ S → RWd d6 (u + 3) l' → RWd (wI d7 x 10 (nI (s 21 0) + 1)) (u + 3) l' := by
    intro u l' h1 h2 r
    have r7 : RWd d7 (u + 3) l' := rwd_fm fm7 r (by omega) (by unfold PUw; omega) (fun j => by unfold PUw; omega)
    exact rwd_ch r7 (ch_w (P := fun a j => a = x) rfl) (by omega) (fun j _ => by omega)
  generalize wP (wP (nS S5 52 T.length) (sZ S) 5 (some (sZ S + 2))) (x + 8) (s 21 0) (some (sZ S)) = SF at *
  generalize wI d7 x 10 (nI (s 21 0) + 1) = dF' at *
  have a2 : ∀ c, c ≠ s 21 0 → aSt S x (s 21 0) A 2 c = A 2 c := fun c hc => by unfold aSt; rw [if_neg (by omega), if_neg (by omega), if_neg (by omega)]
  have a4 : ∀ c, c ≠ s 21 0 → aSt S x (s 21 0) A 4 c = A 4 c := fun c hc => by unfold aSt; rw [if_neg (by omega), if_neg (by omega), if_neg (by omega)]
  have a3 : ∀ i, i < 40 * s 21 0 → aSt S x (s 21 0) A 3 i = A 3 i := fun i hi => by unfold aSt; rw [if_neg (by omega), if_neg (by omega), if_neg (by omega)]
  have a0 : ∀ i, aSt S x (s 21 0) A 0 i = A 0 i := fun i => by unfold aSt; rw [if_neg (by omega), if_neg (by omega), if_neg (by omega)]
  have a1 : ∀ i, aSt S x (s 21 0) A 1 i = A 1 i := fun i => by unfold aSt; rw [if_neg (by omega), if_neg (by omega), if_neg (by omega)]
  have n2 : aSt S x (s 21 0) A 2 (s 21 0) = sZ S := by unfold aSt; rw [if_pos ⟨rfl, rfl⟩]
  have n4 : aSt S x (s 21 0) A 4 (s 21 0) = sZ S + 2 := by unfold aSt; rw [if_neg (by omega), if_pos ⟨rfl, rfl⟩]
  have n3 : ∀ i, aSt S x (s 21 0) A 3 (40 * s 21 0 + i) = (sP S (x + 10) i).getD 0 := fun i => by unfold aSt; rw [if_neg (by omega), if_neg (by omega), if_pos (by omega), show 40 * s 21 0 + i - 40 * s 21 0 = i by omega]
  generalize aSt S x (s 21 0) A = B at *
  refine ⟨SF, dF', 3, _, W, ev, Nat.le_refl _, by omega, w6, fm8, ce_cg ceF (fun k i h1 h2 => so k i (by omega)) a0 a1, ?_, by rw [e1]; exact dF10, fun c hc => ?_, fun c c' hcc hc' => ?_, ?_⟩
  · rcases alF with a | ⟨p1, p2⟩
    · exact .inl a
    · refine .inr ⟨p1, fun g hg => ?_⟩
      rw [so 5 0 (by omega)] at hg
      rw [a0, ag_lst ag]
      exact ⟨(p2 g hg).1, fun i hi => by rw [a1]; exact (p2 g hg).2 i hi⟩
  · rw [e1] at hc
    by_cases q : c = s 21 0
    · subst q
      refine ⟨by rw [n2]; exact pF8, by rw [n2]; omega, by rw [n2, zF]; omega, by rw [n2]; exact (kF _ (by omega)).1.trans M.k6, by rw [n2]; exact (pF _ _ (by omega) (by omega) (by omega) (nu2 0 _)).trans M.p4, by rw [n2]; exact (kF _ (by omega)).1.trans M.k63, by rw [n2, e23, ed]; exact ((kF _ (by omega)).2.trans M.n63).trans pl, fun i hi => ?_, by rw [n2, n4]; exact pF5, by rw [n4, zF]; omega, by rw [n4]; exact kF2.1, by rw [n4, uw, hT]; exact kF2.2, by rw [n4, uw, hT]; exact brF, by rw [n2, e2]; exact (dF _ _ (by omega) (by omega) (nu2 0 _)).trans M.g0, by rw [n2, e23]; exact (dF _ _ (by omega) (by omega) (nu2 0 _)).trans M.g1, by rw [n2, e4]; exact (dF _ _ (by omega) (by omega) (nu2 0 _)).trans M.g2, by rw [n2, e5]; exact (dF _ _ (by omega) (by omega) (nu2 0 _)).trans M.g3, by rw [n2, hh.1]; exact (dF _ _ (by omega) (by omega) (nu2 0 _)).trans M.g6, by rw [n2, so 27 _ (by omega), hh.2]; exact (dF _ _ (by omega) (by omega) (nu2 0 _)).trans M.g7⟩
      rw [e23, ed] at hi
      obtain ⟨u, c1, k1, k2, k3, c2, c3⟩ := slot i (by omega)
      have kk := sms_k k1
      have r1 := fun j => np6_r (c := s 21 0) (j := j) w6 (by omega) k1.k kk.1 kk.2.1 (by omega)
      have n0 := fun j => np6_k (c := s 21 0) (j := j) w6 (by omega) k1.k (by omega) (by omega)
      have c8 : cs8 s ((perm s (dsc s v)).getD i df).2 := by
        rw [perm_at hi]
        exact (ag_dsc ag b v).2 _ ((hof.2 _).mp (getD_mem (l := ord s (dsc s v)) (i := i) (by omega)))
      rw [n2, n3, c1, e23, ed, ag_perm ag, ag_ct ag b c8, a1, show (some u).getD 0 = u from rfl]
      exact ⟨(pF _ _ (by omega) (by omega) (by omega) (nu2 1 _)).trans ((M.pm i (by omega)).trans c1), sms_fm fm8 k1 k3 (n0 _) (n0 _) (r1 _).1 (np6_v w6 (by omega) k1), k2, by rw [zF]; show u + 4 < _; omega, (fm_P fm8 (by omega) (n0 _)).trans c2, rwd_fm fm8 c3 (by omega) (r1 _).1 (fun j => (r1 j).2), lnF u _ k2 k3 (M.c i u (by omega) c1)⟩
    · have hlt : c < s 21 0 := by omega
      have := (sv c hlt).2
      exact si_ag2 (siF c hlt) b ag this (fun k h1 h2 => so k c (by omega)) a1 (a2 c q) (fun i hi => a3 _ (by omega)) (a4 c q)
  · rw [e1] at hc'
    rw [a2 c (by omega)]
    by_cases q : c' = s 21 0
    · rw [q, n2]
      have := (h.st2 c (by omega)).hi
      omega
    · rw [a2 c' q]; exact h.st3 c c' hcc (by omega)
  · have px : ∀ i, sP SF (x + 10) i = if i < (perm s (dsc s v)).length then none else sP S (x + 10) i := fun i => by rw [pF _ _ (by omega) (by omega) (by omega) (by unfold PUw; omega)]; exact M.px i
    refine ⟨fun i w hi hw => ?_, fun i j w hi hj h1 h2 => ?_⟩
    · rw [px] at hw
      by_cases q : i < (perm s (dsc s v)).length
      · rw [if_pos q] at hw; cases hw
      · rw [if_neg q] at hw
        obtain ⟨k1, k2, k3, k4⟩ := K.sl i w hi hw
        have kk := sms_k k1
        have r1 := fun j => np6_r (c := s 21 0) (j := j) w6 (by omega) k1.k kk.1 kk.2.1 (by omega)
        have n0 := fun j => np6_k (c := s 21 0) (j := j) w6 (by omega) k1.k (by omega) (by omega)
        refine ⟨sms_fm fm8 k1 k3 (n0 _) (n0 _) (r1 _).1 (np6_v w6 (by omega) k1), k2, by rw [zF]; omega, ?_⟩
        rintro ⟨c, j, c1, c2, c3⟩
        rw [e1] at c1
        by_cases qc : c = s 21 0
        · subst qc
          rw [e23, ed] at c2
          obtain ⟨u, p1, -⟩ := slot j (by omega)
          rw [n3, p1] at c3
          have c3' : w = u := c3
          rw [c3'] at hw
          have := K.inj i j u hi (by omega) hw p1
          omega
        · rw [so 23 c (by omega), (ag_dsc ag b _).1] at c2
          have := (sv c (by omega)).2
          rw [a3 _ (by omega)] at c3
          exact hU w k4 ⟨c, j, by omega, c2, c3⟩
    · rw [px] at h1 h2
      by_cases q1 : i < (perm s (dsc s v)).length
      · rw [if_pos q1] at h1; cases h1
      · by_cases q2 : j < (perm s (dsc s v)).length
        · rw [if_pos q2] at h2; cases h2
        · rw [if_neg q1] at h1
          rw [if_neg q2] at h2
          exact K.inj i j w hi hj h1 h2
end st
