section st
variable {S S1 : gS} {d d1 : gD} {x : Nat} {s s' : Nat → Nat → Nat} {A A' : Nat → Nat → Nat} {hd : Nat → Int32} {U : Nat → Prop} {D : List (Nat × List Nat)} {q : (Nat → Int64) × Int64 × (Nat → Int64) × (Nat → Int32)}
theorem c_standMadeFor (h : G1 S d x s A hd) (b : BI s) {l : Nat} (hl : l < 2 ^ 31) (v : Int32) : f_M_standMadeFor S d x (nI l) v = some (if fst (stHit s l v) (s 21 0) < s 21 0 then nI (fst (stHit s l v) (s 21 0)) else -1) := by
  have hS := b.stands
  have hcs := h.ce.cs
  unfold f_M_standMadeFor
  refine itr_f (B := f_M_standMadeFor_B2 S d x) (fun k K => K (nI l) v (nI k)) (stHit s l v) (s 21 0) _ (by omega) ?_ ?_ ?_
  · intro k hk hp K hK
    have si := h.st2 k hk
    have h22 := b.lt 22 k
    simp (maxSteps := 1000000) (disch := omega) only [f_M_standMadeFor_B2, f_M_standMadeFor_J38, kd_t (cs_K0 hcs), cs_P0_0 hcs, kd_t (cs_K1 hcs), cs_P1_0 hcs, kd_t (cs_K2 hcs), cs_N2 hcs, cs_P0_1 hcs, kd_t (cs_K3 hcs), cs_N3 hcs, cs_P0_3 hcs, kd_t (cs_K4 hcs), cs_N4 hcs, cs_P0_5 hcs, kd_t (cs_K5 hcs), cs_N5 hcs, cs_P0_6 hcs, kd_t (cs_K6 hcs), cs_N6 hcs, cs_P0_8 hcs, kd_t (cs_K7 hcs), cs_N7 hcs, cs_P0_9 hcs, kd_t (cs_K8 hcs), cs_N8 hcs, cs_P0_11 hcs, kd_t (cs_K9 hcs), cs_P9_0 hcs, cs_P9_1 hcs, kd_t (cs_K10 hcs), cs_N10 hcs, cs_P9_3 hcs, kd_t (cs_K11 hcs), cs_P11_0 hcs, kd_t (cs_K12 hcs), cs_N12 hcs, cs_P0_12 hcs, kd_t (cs_K13 hcs), cs_P13_0 hcs, kd_t (cs_K14 hcs), cs_N14 hcs, cs_P13_2 hcs, kd_t (cs_K15 hcs), cs_N15 hcs, cs_P13_4 hcs, kd_t (cs_K16 hcs), cs_N16 hcs, cs_P0_16 hcs, kd_t (cs_K17 hcs), cs_N17 hcs, cs_P0_17 hcs, kd_t (cs_K18 hcs), cs_N18 hcs, cs_P7_0 hcs, cs_P7_1 hcs, cs_P7_2 hcs, lt_t, nn_t, bd_t, bdD_t, bdP_t, nI_clamp, gi_n, nI_add, nI_1, pk_mul, b2_eq0, b2_01, nb_t, if_true, if_false, ni_le, ni_eq, ni_lt, h.st1, si.p, kd_t si.k, si.g0, si.g1, l1_a]
    rw [if_neg (by omega)]
    unfold stHit at hp
    by_cases c1 : s 22 k = l
    · rw [if_pos c1]
      by_cases c2 : nI (s 23 k) = v
      · simp [c1, c2] at hp
      · rw [if_neg c2]; exact hK
    · rw [if_neg c1]; exact hK
  · intro k hk hp he K
    have si := h.st2 k hk
    have h22 := b.lt 22 k
    simp (maxSteps := 1000000) (disch := omega) only [f_M_standMadeFor_B2, f_M_standMadeFor_J38, kd_t (cs_K0 hcs), cs_P0_0 hcs, kd_t (cs_K1 hcs), cs_P1_0 hcs, kd_t (cs_K2 hcs), cs_N2 hcs, cs_P0_1 hcs, kd_t (cs_K3 hcs), cs_N3 hcs, cs_P0_3 hcs, kd_t (cs_K4 hcs), cs_N4 hcs, cs_P0_5 hcs, kd_t (cs_K5 hcs), cs_N5 hcs, cs_P0_6 hcs, kd_t (cs_K6 hcs), cs_N6 hcs, cs_P0_8 hcs, kd_t (cs_K7 hcs), cs_N7 hcs, cs_P0_9 hcs, kd_t (cs_K8 hcs), cs_N8 hcs, cs_P0_11 hcs, kd_t (cs_K9 hcs), cs_P9_0 hcs, cs_P9_1 hcs, kd_t (cs_K10 hcs), cs_N10 hcs, cs_P9_3 hcs, kd_t (cs_K11 hcs), cs_P11_0 hcs, kd_t (cs_K12 hcs), cs_N12 hcs, cs_P0_12 hcs, kd_t (cs_K13 hcs), cs_P13_0 hcs, kd_t (cs_K14 hcs), cs_N14 hcs, cs_P13_2 hcs, kd_t (cs_K15 hcs), cs_N15 hcs, cs_P13_4 hcs, kd_t (cs_K16 hcs), cs_N16 hcs, cs_P0_16 hcs, kd_t (cs_K17 hcs), cs_N17 hcs, cs_P0_17 hcs, kd_t (cs_K18 hcs), cs_N18 hcs, cs_P7_0 hcs, cs_P7_1 hcs, cs_P7_2 hcs, lt_t, nn_t, bd_t, bdD_t, bdP_t, nI_clamp, gi_n, nI_add, nI_1, pk_mul, b2_eq0, b2_01, nb_t, if_true, if_false, ni_le, ni_eq, ni_lt, h.st1, si.p, kd_t si.k, si.g0, si.g1]
    unfold stHit at hp
    rw [Bool.and_eq_true, decide_eq_true_iff, decide_eq_true_iff] at hp
    rw [if_neg (by omega), if_pos hp.1, if_pos hp.2, he, if_pos hk]
  · intro he K
    simp (maxSteps := 1000000) (disch := omega) only [f_M_standMadeFor_B2, kd_t (cs_K0 hcs), cs_P0_0 hcs, kd_t (cs_K1 hcs), cs_P1_0 hcs, kd_t (cs_K2 hcs), cs_N2 hcs, cs_P0_1 hcs, kd_t (cs_K3 hcs), cs_N3 hcs, cs_P0_3 hcs, kd_t (cs_K4 hcs), cs_N4 hcs, cs_P0_5 hcs, kd_t (cs_K5 hcs), cs_N5 hcs, cs_P0_6 hcs, kd_t (cs_K6 hcs), cs_N6 hcs, cs_P0_8 hcs, kd_t (cs_K7 hcs), cs_N7 hcs, cs_P0_9 hcs, kd_t (cs_K8 hcs), cs_N8 hcs, cs_P0_11 hcs, kd_t (cs_K9 hcs), cs_P9_0 hcs, cs_P9_1 hcs, kd_t (cs_K10 hcs), cs_N10 hcs, cs_P9_3 hcs, kd_t (cs_K11 hcs), cs_P11_0 hcs, kd_t (cs_K12 hcs), cs_N12 hcs, cs_P0_12 hcs, kd_t (cs_K13 hcs), cs_P13_0 hcs, kd_t (cs_K14 hcs), cs_N14 hcs, cs_P13_2 hcs, kd_t (cs_K15 hcs), cs_N15 hcs, cs_P13_4 hcs, kd_t (cs_K16 hcs), cs_N16 hcs, cs_P0_16 hcs, kd_t (cs_K17 hcs), cs_N17 hcs, cs_P0_17 hcs, kd_t (cs_K18 hcs), cs_N18 hcs, cs_P7_0 hcs, cs_P7_1 hcs, cs_P7_2 hcs, lt_t, nn_t, bd_t, bdD_t, bdP_t, nI_clamp, gi_n, nI_add, nI_1, pk_mul, b2_eq0, b2_01, nb_t, if_true, if_false, ni_le, ni_eq, ni_lt, h.st1]
    rw [if_pos (Nat.le_refl _), he, if_neg (Nat.lt_irrefl _)]
theorem c_standsOf {pk : Nat} (hcs : CS S x) (h1 : dI d x 10 = nI (s 21 0)) (hS : s 21 0 ≤ 16) (h2 : ∀ c, c < s 21 0 → sP S (x + 8) c = some (A 2 c) ∧ sK S (A 2 c) = 6 ∧ dI d (A 2 c) 2 = nI (s 24 c)) (b : BI s) (hp : pk < 2 ^ 31) : f_M_standsOfPackage S d x (nI pk) = some (nI (cntP s pk (s 21 0))) := by
  unfold f_M_standsOfPackage
  refine itr_0 (B := f_M_standsOfPackage_B4 S d x) (fun k K => K (nI pk) (nI (cntP s pk k)) (nI k)) _ (s 21 0) (by omega) ?_ ?_
  · intro k hk K hK
    obtain ⟨p1, p2, p3⟩ := h2 k hk
    have h24 := b.lt 24 k
    have hcn := cntP_le s pk k
    simp (maxSteps := 1000000) (disch := omega) only [f_M_standsOfPackage_B4, f_M_standsOfPackage_J31, kd_t (cs_K0 hcs), cs_P0_0 hcs, kd_t (cs_K1 hcs), cs_P1_0 hcs, kd_t (cs_K2 hcs), cs_N2 hcs, cs_P0_1 hcs, kd_t (cs_K3 hcs), cs_N3 hcs, cs_P0_3 hcs, kd_t (cs_K4 hcs), cs_N4 hcs, cs_P0_5 hcs, kd_t (cs_K5 hcs), cs_N5 hcs, cs_P0_6 hcs, kd_t (cs_K6 hcs), cs_N6 hcs, cs_P0_8 hcs, kd_t (cs_K7 hcs), cs_N7 hcs, cs_P0_9 hcs, kd_t (cs_K8 hcs), cs_N8 hcs, cs_P0_11 hcs, kd_t (cs_K9 hcs), cs_P9_0 hcs, cs_P9_1 hcs, kd_t (cs_K10 hcs), cs_N10 hcs, cs_P9_3 hcs, kd_t (cs_K11 hcs), cs_P11_0 hcs, kd_t (cs_K12 hcs), cs_N12 hcs, cs_P0_12 hcs, kd_t (cs_K13 hcs), cs_P13_0 hcs, kd_t (cs_K14 hcs), cs_N14 hcs, cs_P13_2 hcs, kd_t (cs_K15 hcs), cs_N15 hcs, cs_P13_4 hcs, kd_t (cs_K16 hcs), cs_N16 hcs, cs_P0_16 hcs, kd_t (cs_K17 hcs), cs_N17 hcs, cs_P0_17 hcs, kd_t (cs_K18 hcs), cs_N18 hcs, cs_P7_0 hcs, cs_P7_1 hcs, cs_P7_2 hcs, lt_t, nn_t, bd_t, bdD_t, bdP_t, nI_clamp, gi_n, nI_add, nI_1, pk_mul, b2_eq0, b2_01, nb_t, if_true, if_false, ni_le, ni_eq, ni_lt, h1, p1, kd_t p2, p3, l1_a]
    rw [if_neg (by omega)]
    have hst : cntP s pk (k + 1) = if s 24 k = pk then cntP s pk k + 1 else cntP s pk k := rfl
    rw [hst] at hK
    by_cases c : s 24 k = pk
    · rw [if_pos c] at hK ⊢; exact hK
    · rw [if_neg c] at hK ⊢
      rw [show nI (cntP s pk k) + 0 = nI (cntP s pk k) from nI_add (cntP s pk k) 0]
      exact hK
  · intro K
    simp (maxSteps := 1000000) (disch := omega) only [f_M_standsOfPackage_B4, kd_t (cs_K0 hcs), cs_P0_0 hcs, kd_t (cs_K1 hcs), cs_P1_0 hcs, kd_t (cs_K2 hcs), cs_N2 hcs, cs_P0_1 hcs, kd_t (cs_K3 hcs), cs_N3 hcs, cs_P0_3 hcs, kd_t (cs_K4 hcs), cs_N4 hcs, cs_P0_5 hcs, kd_t (cs_K5 hcs), cs_N5 hcs, cs_P0_6 hcs, kd_t (cs_K6 hcs), cs_N6 hcs, cs_P0_8 hcs, kd_t (cs_K7 hcs), cs_N7 hcs, cs_P0_9 hcs, kd_t (cs_K8 hcs), cs_N8 hcs, cs_P0_11 hcs, kd_t (cs_K9 hcs), cs_P9_0 hcs, cs_P9_1 hcs, kd_t (cs_K10 hcs), cs_N10 hcs, cs_P9_3 hcs, kd_t (cs_K11 hcs), cs_P11_0 hcs, kd_t (cs_K12 hcs), cs_N12 hcs, cs_P0_12 hcs, kd_t (cs_K13 hcs), cs_P13_0 hcs, kd_t (cs_K14 hcs), cs_N14 hcs, cs_P13_2 hcs, kd_t (cs_K15 hcs), cs_N15 hcs, cs_P13_4 hcs, kd_t (cs_K16 hcs), cs_N16 hcs, cs_P0_16 hcs, kd_t (cs_K17 hcs), cs_N17 hcs, cs_P0_17 hcs, kd_t (cs_K18 hcs), cs_N18 hcs, cs_P7_0 hcs, cs_P7_1 hcs, cs_P7_2 hcs, lt_t, nn_t, bd_t, bdD_t, bdP_t, nI_clamp, gi_n, nI_add, nI_1, pk_mul, b2_eq0, b2_01, nb_t, if_true, if_false, ni_le, ni_eq, ni_lt, h1]
    rw [if_pos (Nat.le_refl _)]
def HO (S : gS) (d : gD) (x : Nat) (s : Nat → Nat → Nat) (r : Nat) (D : List (Nat × List Nat)) (n : Nat) (S1 : gS) (d1 : gD) : Prop := (∀ a, sK S1 a = sK S a ∧ sN S1 a = sN S a) ∧ (sZ S1 = sZ S) ∧ (∀ a j, a ≠ x + 10 → a ≠ r → sP S1 a j = sP S a j) ∧ (∀ i, sP S1 r i = if i < n then sP S (x + 10) i else sP S r i) ∧ (∀ i, sP S1 (x + 10) i = if i < n then none else sP S (x + 10) i) ∧ (∀ a j, dL d1 a j = dL d a j) ∧ (∀ a j, (∀ g u, g < n → sP S (x + 10) g = some u → ¬ PRw (u + 3) a j) → dI d1 a j = dI d a j) ∧ (∀ g u, g < n → sP S (x + 10) g = some u → RWd d1 (u + 3) (ct s (D.getD g df).2))
theorem HO.k {S : gS} {d : gD} {x : Nat} {s : Nat → Nat → Nat} {r : Nat} {D : List (Nat × List Nat)} {n : Nat} {S1 : gS} {d1 : gD} (h : HO S d x s r D n S1 d1) : ∀ a, sK S1 a = sK S a ∧ sN S1 a = sN S a := h.1
theorem HO.z {S : gS} {d : gD} {x : Nat} {s : Nat → Nat → Nat} {r : Nat} {D : List (Nat × List Nat)} {n : Nat} {S1 : gS} {d1 : gD} (h : HO S d x s r D n S1 d1) : sZ S1 = sZ S := h.2.1
theorem HO.p {S : gS} {d : gD} {x : Nat} {s : Nat → Nat → Nat} {r : Nat} {D : List (Nat × List Nat)} {n : Nat} {S1 : gS} {d1 : gD} (h : HO S d x s r D n S1 d1) : ∀ a j, a ≠ x + 10 → a ≠ r → sP S1 a j = sP S a j := h.2.2.1
theorem HO.pr {S : gS} {d : gD} {x : Nat} {s : Nat → Nat → Nat} {r : Nat} {D : List (Nat × List Nat)} {n : Nat} {S1 : gS} {d1 : gD} (h : HO S d x s r D n S1 d1) : ∀ i, sP S1 r i = if i < n then sP S (x + 10) i else sP S r i := h.2.2.2.1
theorem HO.px {S : gS} {d : gD} {x : Nat} {s : Nat → Nat → Nat} {r : Nat} {D : List (Nat × List Nat)} {n : Nat} {S1 : gS} {d1 : gD} (h : HO S d x s r D n S1 d1) : ∀ i, sP S1 (x + 10) i = if i < n then none else sP S (x + 10) i := h.2.2.2.2.1
theorem HO.l {S : gS} {d : gD} {x : Nat} {s : Nat → Nat → Nat} {r : Nat} {D : List (Nat × List Nat)} {n : Nat} {S1 : gS} {d1 : gD} (h : HO S d x s r D n S1 d1) : ∀ a j, dL d1 a j = dL d a j := h.2.2.2.2.2.1
theorem HO.i {S : gS} {d : gD} {x : Nat} {s : Nat → Nat → Nat} {r : Nat} {D : List (Nat × List Nat)} {n : Nat} {S1 : gS} {d1 : gD} (h : HO S d x s r D n S1 d1) : ∀ a j, (∀ g u, g < n → sP S (x + 10) g = some u → ¬ PRw (u + 3) a j) → dI d1 a j = dI d a j := h.2.2.2.2.2.2.1
theorem HO.c {S : gS} {d : gD} {x : Nat} {s : Nat → Nat → Nat} {r : Nat} {D : List (Nat × List Nat)} {n : Nat} {S1 : gS} {d1 : gD} (h : HO S d x s r D n S1 d1) : ∀ g u, g < n → sP S (x + 10) g = some u → RWd d1 (u + 3) (ct s (D.getD g df).2) := h.2.2.2.2.2.2.2
theorem c_handOver (hcs : CS S x) (t : CT d x s) (b : BI s) (K : DK S x U) (C : DC S d x A D) (hD : ∀ i, i < D.length → cl (D.getD i df).2) (h75 : D.length ≤ 75) {r : Nat} (hr : x + 64 < r) (kr : sK S r = 63) (nr : sN S r = D.length) : ∃ S1 d1, f_Dr_handOver S d (x + 9) (some r) = some ((), S1, wI d1 (x + 9) 2 0) ∧ HO S d x s r D D.length S1 d1 := by
  have e75 : ∀ n : Nat, Int32.ofNat n = nI n := fun _ => rfl
  have key : ∀ z, ∃ S1 d1, itr (f_Dr_handOver_B2 (x + 9) (f_Dr_handOver_J48 (x + 9))) z fu S d (some r) 0 = some ((), S1, wI d1 (x + 9) 2 0) ∧ HO S d x s r D D.length S1 d1 := by
    intro z
    refine itr_q (B := f_Dr_handOver_B2 (x + 9) (f_Dr_handOver_J48 (x + 9))) (fun (y : gS × gD × Nat) K => K y.1 y.2.1 (some r) (nI y.2.2)) (fun t => ∃ S1 d1, t = some ((), S1, wI d1 (x + 9) 2 0) ∧ HO S d x s r D D.length S1 d1) (fun k y => y.2.2 = k ∧ HO S d x s r D k y.1 y.2.1) D.length (by omega) ?_ ?_ (x := (S, d, 0)) ⟨rfl, fun a => ⟨rfl, rfl⟩, rfl, fun _ _ _ _ => rfl, fun i => by rw [if_neg (by omega)], fun i => by rw [if_neg (by omega)], fun _ _ => rfl, fun _ _ _ => rfl, fun g u hg => absurd hg (Nat.not_lt_zero _)⟩
    · rintro k hk ⟨S2, d2, k'⟩ ⟨rfl, H⟩ KK hK
      simp only at hk H hK ⊢
      obtain ⟨u, e1, e2, e3⟩ := C.c k' hk
      have su := K.sl k' u (by omega) e1
      have ulo := su.2.1
      have k2 := fun a => (H.k a).1
      have n2 := fun a => (H.k a).2
      have sx : sP S2 (x + 10) k' = some u := by rw [H.px, if_neg (Nat.lt_irrefl _)]; exact e1
      have hcs2 : CS S2 x := by
        have Q0 : ∀ o j, o < 30 → o ≠ 10 → sP S2 (x + o) j = sP S (x + o) j := fun o j ho h10 => H.p _ _ (by omega) (by omega)
        have fm2 : Fm (fun a _ => a = x + 10 ∨ a = r) S d S2 d := ⟨Nat.le_of_eq H.z.symm, fun a _ => ⟨k2 a, n2 a, fun j n => ⟨H.p a j (fun e => n (.inl e)) (fun e => n (.inr e)), rfl, rfl⟩⟩⟩
        by_cases hz : x + 64 < sZ S
        · exact cs_fm fm2 hcs hz (fun a j w => by unfold stc at w; omega)
        · have := su.2.2.1; omega
      have sepu : ∀ a j κ, sK S a = κ → κ ≠ 2 → κ ≠ 50 → ∀ g v, g < k' → sP S (x + 10) g = some v → ¬ PRw (v + 3) a j := by
        intro a j κ hκ h1 h2 g v hg hv w
        have sv := (K.sl g v (by omega) hv).1
        rcases w with w | w
        · rw [w.1, sv.r2.k] at hκ; exact h1 hκ.symm
        · rw [w, sv.r2.ak] at hκ; exact h2 hκ.symm
      have d9 : dI d2 (x + 9) 2 = nI D.length := (H.i _ _ (sepu _ _ _ (cs_K9 hcs) (by omega) (by omega))).trans C.n
      have t2 : CT d2 x s := ⟨(H.i _ _ (sepu _ _ _ (cs_K1 hcs) (by omega) (by omega))).trans t.1, fun a c ha hc => by rw [H.l]; exact t.2 a c ha hc⟩
      have su2 : SMs S2 u := by
        have P : ∀ a j, a ≠ x + 10 → sK S a ≠ 63 → sP S2 a j = sP S a j := fun a j h1 h2 => H.p a j h1 (fun e => h2 (by rw [e]; exact kr))
        have m := su.1
        exact ⟨(k2 _).trans m.k, (P _ _ (by omega) (by rw [m.k]; omega)).trans m.p1, (P _ _ (by omega) (by rw [m.k]; omega)).trans m.p2, ⟨(k2 _).trans m.r1.k, (P _ _ (by omega) (by rw [m.r1.k]; omega)).trans m.r1.p, (k2 _).trans m.r1.ak, (n2 _).trans m.r1.an⟩, ⟨(k2 _).trans m.r2.k, (P _ _ (by omega) (by rw [m.r2.k]; omega)).trans m.r2.p, (k2 _).trans m.r2.ak, (n2 _).trans m.r2.an⟩⟩
      have usep : ∀ g v, g < 75 → g ≠ k' → sP S (x + 10) g = some v → v ≠ u := fun g v hg hne hv e => hne (K.inj g k' u hg (by omega) (e ▸ hv) e1)
      have w1 : RWd d2 (u + 1) (D.getD k' df).2 := by
        have nn : ∀ g v, g < k' → sP S (x + 10) g = some v → ¬ PRw (v + 3) (u + 1) 1 ∧ ∀ j, ¬ PRw (v + 3) (u + 1 + 1) j := by
          intro g v hg hv
          have sv := (K.sl g v (by omega) hv).1
          exact rw_sep su.1.r1 sv.r2 (by
            intro e
            have kk := sv.r1.ak
            rw [show v + 1 + 1 = u by omega, su.1.k] at kk
            cases kk)
        exact ⟨(H.i _ _ (fun g v hg hv => (nn g v hg hv).1)).trans e3.1, fun j hj => (H.i _ _ (fun g v hg hv => (nn g v hg hv).2 _)).trans (e3.2 j hj)⟩
      obtain ⟨d3, f3, c3, w3⟩ := c_fillCaught hcs2 t2 b su2 (hD k' hk) w1
      have kr2 : sK S2 r = 63 := (k2 _).trans kr
      have nr2 : sN S2 r = D.length := (n2 _).trans nr
      have pS : sP (wP S2 r k' (some u)) (x + 9) 1 = some (x + 10) := by rw [sP_wP, if_neg (by omega)]; exact cs_P9_1 hcs2
      have kP9 : sK (wP S2 r k' (some u)) (x + 9) = 3 := by rw [sK_wP]; exact cs_K9 hcs2
      have kP10 : sK (wP S2 r k' (some u)) (x + 10) = 63 := by rw [sK_wP]; exact cs_K10 hcs2
      have nP10 : sN (wP S2 r k' (some u)) (x + 10) = 75 := by rw [sN_wP]; exact cs_N10 hcs2
      simp (maxSteps := 1000000) (disch := omega) only [f_Dr_handOver_B2, kd_t (cs_K0 hcs2), cs_P0_0 hcs2, kd_t (cs_K1 hcs2), cs_P1_0 hcs2, kd_t (cs_K2 hcs2), cs_N2 hcs2, cs_P0_1 hcs2, kd_t (cs_K3 hcs2), cs_N3 hcs2, cs_P0_3 hcs2, kd_t (cs_K4 hcs2), cs_N4 hcs2, cs_P0_5 hcs2, kd_t (cs_K5 hcs2), cs_N5 hcs2, cs_P0_6 hcs2, kd_t (cs_K6 hcs2), cs_N6 hcs2, cs_P0_8 hcs2, kd_t (cs_K7 hcs2), cs_N7 hcs2, cs_P0_9 hcs2, kd_t (cs_K8 hcs2), cs_N8 hcs2, cs_P0_11 hcs2, kd_t (cs_K9 hcs2), cs_P9_0 hcs2, cs_P9_1 hcs2, kd_t (cs_K10 hcs2), cs_N10 hcs2, cs_P9_3 hcs2, kd_t (cs_K11 hcs2), cs_P11_0 hcs2, kd_t (cs_K12 hcs2), cs_N12 hcs2, cs_P0_12 hcs2, kd_t (cs_K13 hcs2), cs_P13_0 hcs2, kd_t (cs_K14 hcs2), cs_N14 hcs2, cs_P13_2 hcs2, kd_t (cs_K15 hcs2), cs_N15 hcs2, cs_P13_4 hcs2, kd_t (cs_K16 hcs2), cs_N16 hcs2, cs_P0_16 hcs2, kd_t (cs_K17 hcs2), cs_N17 hcs2, cs_P0_17 hcs2, kd_t (cs_K18 hcs2), cs_N18 hcs2, cs_P7_0 hcs2, cs_P7_1 hcs2, cs_P7_2 hcs2, lt_t, nn_t, bd_t, bdD_t, bdP_t, nI_clamp, gi_n, nI_add, nI_1, pk_mul, b2_eq0, b2_01, nb_t, if_true, if_false, ni_le, ni_eq, ni_lt, d9, kd_t kr2, nr2, e75, sx, f3, kd_t su2.k, pS, kd_t kP9, kd_t kP10, nP10, l1_a]
      rw [if_neg (by omega), if_neg (by omega)]
      refine hK (wP (wP S2 r k' (some u)) (x + 10) k' none, d3, k' + 1) ⟨rfl, fun a => ⟨by rw [sK_wP, sK_wP]; exact k2 a, by rw [sN_wP, sN_wP]; exact n2 a⟩, by rw [sZ_wP, sZ_wP]; exact H.z, fun a j h1 h2 => by rw [sP_wP, if_neg (fun w => h1 w.1), sP_wP, if_neg (fun w => h2 w.1)]; exact H.p a j h1 h2, fun i => ?_, fun i => ?_, fun a j => (c3.1 a j).trans (H.l a j), fun a j hn => ?_, fun g v hg hv => ?_⟩
      · rw [sP_wP, if_neg (by omega), sP_wP]
        by_cases c : i = k'
        · rw [if_pos ⟨rfl, c⟩, if_pos (by omega), c]; exact e1.symm
        · rw [if_neg (fun w => c w.2), H.pr]
          by_cases c2 : i < k'
          · rw [if_pos c2, if_pos (by omega)]
          · rw [if_neg c2, if_neg (by omega)]
      · rw [sP_wP]
        by_cases c : i = k'
        · rw [if_pos ⟨rfl, c⟩, if_pos (by omega)]
        · rw [if_neg (fun w => c w.2), sP_wP, if_neg (by omega), H.px]
          by_cases c2 : i < k'
          · rw [if_pos c2, if_pos (by omega)]
          · rw [if_neg c2, if_neg (by omega)]
      · rw [c3.2 a j (hn k' u (by omega) e1)]
        exact H.i a j (fun g v hg hv => hn g v (by omega) hv)
      · by_cases c : g = k'
        · subst c
          rw [hv] at e1
          cases e1
          exact w3
        · have hvv := H.c g v (by omega) hv
          have hne := usep g v (by omega) c hv
          have sv := (K.sl g v (by omega) hv).1
          have sp := rw_sep sv.r2 su.1.r2 (by omega)
          exact rwd_ch hvv c3 sp.1 (fun j _ => sp.2 j)
    · rintro ⟨S2, d2, k'⟩ ⟨rfl, H⟩ KK
      simp only at H ⊢
      have sepu : ∀ g v, g < D.length → sP S (x + 10) g = some v → ¬ PRw (v + 3) (x + 9) 2 := by
        intro g v hg hv w
        have sv := K.sl g v (by omega) hv
        have hv1 := sv.2.1
        unfold PRw at w
        omega
      have d9 : dI d2 (x + 9) 2 = nI D.length := (H.i _ _ sepu).trans C.n
      have k9 : sK S2 (x + 9) = 3 := ((H.k _).1).trans (cs_K9 hcs)
      simp (disch := omega) only [f_Dr_handOver_B2, f_Dr_handOver_J48, kd_t k9, lt_t, d9, ni_le]
      rw [if_pos (Nat.le_refl _)]
      exact ⟨S2, d2, rfl, H⟩
  unfold f_Dr_handOver
  exact key _
end st
