theorem ub_ext {a c : Int32} (h : ∀ k, k < 4 → ub a k = ub c k) : a = c := by
  have h0 := h 0 (by omega)
  have h1 := h 1 (by omega)
  have h2 := h 2 (by omega)
  have h3 := h 3 (by omega)
  have ha : a.toBitVec.toNat < 2 ^ 32 := a.toBitVec.isLt
  have hc : c.toBitVec.toNat < 2 ^ 32 := c.toBitVec.isLt
  have e0 : ∀ y : Int32, ub y 0 = y.toBitVec.toNat / 1 % 256 := fun y => rfl
  have e1 : ∀ y : Int32, ub y 1 = y.toBitVec.toNat / 256 % 256 := fun y => rfl
  have e2 : ∀ y : Int32, ub y 2 = y.toBitVec.toNat / 65536 % 256 := fun y => rfl
  have e3 : ∀ y : Int32, ub y 3 = y.toBitVec.toNat / 16777216 % 256 := fun y => rfl
  rw [e0, e0] at h0
  rw [e1, e1] at h1
  rw [e2, e2] at h2
  rw [e3, e3] at h3
  apply Int32.toBitVec_inj.mp
  apply BitVec.eq_of_toNat_eq
  omega
def shw (v : Int32) : Int32 := (Int32.toUInt32 v >>> (Int32.toUInt32 8 &&& Int32.toUInt32 31)).toInt32
theorem ub_shw (v : Int32) {k : Nat} (hk : k < 4) : ub (shw v) k = if k < 3 then ub v (k + 1) else 0 := by
  apply Nat.eq_of_testBit_eq
  intro i
  have hm : ((Int32.toUInt32 8 &&& Int32.toUInt32 31) % 32).toNat = 8 := by decide
  have hb : ∀ i, bt (shw v) i = bt v (8 + i) := fun i => b_ushr v _ hm
  rw [ub_bt, hb]
  by_cases c : k < 3
  · rw [if_pos c, ub_bt]
    congr 2; omega
  · rw [if_neg c]
    have : k = 3 := by omega
    subst this
    rw [Nat.zero_testBit]
    have : bt v (8 + (8 * 3 + i)) = false := by
      unfold bt
      exact BitVec.getLsbD_of_ge _ _ (by omega)
    rw [this, Bool.and_false]
theorem ln_shw (v : Int32) : ln (shw v) = n3 v := by
  have hn := n3_le v
  have : fst (fun k => decide (ub (shw v) k = 0)) 4 = n3 v := by
    apply fst_eq
    · omega
    · intro j hj
      simp only [decide_eq_false_iff_not]
      rw [ub_shw v (by omega), if_pos (by omega)]
      exact n3_no hj
    · intro h4
      simp only [decide_eq_true_iff]
      rw [ub_shw v h4]
      by_cases c : n3 v < 3
      · rw [if_pos c]; exact n3_yes c
      · rw [if_neg c]
  exact this
def cutp (v : Int32) : Int32 := cln (shw v) (ln (shw v))
theorem ub_cutp (v : Int32) {k : Nat} (hk : k < 4) : ub (cutp v) k = if k < 3 then tkv v k else 0 := by
  have hl := ln_le (shw v)
  have hn := n3_le v
  unfold cutp
  rw [ub_cln _ hl k hk, ln_shw]
  unfold tkv
  by_cases c : k < n3 v
  · rw [if_pos c, ub_shw v hk, if_pos (by omega), if_pos (by omega), if_pos c]
  · rw [if_neg c, if_neg c]
    by_cases c3 : k < 3
    · rw [if_pos c3]
    · rw [if_neg c3]
theorem cutp_eq (v : Int32) : cutp v = nI (tkv v 0 + 256 * tkv v 1 + 65536 * tkv v 2) := by
  have h0 := tkv_lt v 0
  have h1 := tkv_lt v 1
  have h2 := tkv_lt v 2
  apply ub_ext
  intro k hk
  rw [ub_cutp v hk]
  have e : (nI (tkv v 0 + 256 * tkv v 1 + 65536 * tkv v 2)).toBitVec.toNat = tkv v 0 + 256 * tkv v 1 + 65536 * tkv v 2 := by
    show (BitVec.ofNat 32 _).toNat = _
    rw [BitVec.toNat_ofNat, Nat.mod_eq_of_lt (by omega)]
  unfold ub
  rw [e]
  rcases (show k = 0 ∨ k = 1 ∨ k = 2 ∨ k = 3 by omega) with rfl | rfl | rfl | rfl
  · rw [if_pos (by omega)]
    show _ = (tkv v 0 + 256 * tkv v 1 + 65536 * tkv v 2) / 1 % 256
    omega
  · rw [if_pos (by omega)]
    show _ = (tkv v 0 + 256 * tkv v 1 + 65536 * tkv v 2) / 256 % 256
    omega
  · rw [if_pos (by omega)]
    show _ = (tkv v 0 + 256 * tkv v 1 + 65536 * tkv v 2) / 65536 % 256
    omega
  · rw [if_neg (by omega)]
    show _ = (tkv v 0 + 256 * tkv v 1 + 65536 * tkv v 2) / 16777216 % 256
    omega
theorem pkp_cut {s : Nat → Nat → Nat} (b : BI s) {i : Nat} (hi : vx s i) (v : Int32) : (pkp s i = cutp v) ↔ (s 15 (3 * i) = tkv v 0 ∧ s 15 (3 * i + 1) = tkv v 1 ∧ s 15 (3 * i + 2) = tkv v 2) := by
  obtain ⟨h0, h1, h2⟩ := pkp_lt b hi
  have t0 := tkv_lt v 0
  have t1 := tkv_lt v 1
  have t2 := tkv_lt v 2
  rw [cutp_eq]
  unfold pkp
  rw [nI_eq (by omega) (by omega)]
  constructor
  · intro e
    have e0 : s 15 (3 * i) = tkv v 0 := by omega
    have e1 : s 15 (3 * i + 1) = tkv v 1 := by omega
    exact ⟨e0, e1, by omega⟩
  · rintro ⟨e0, e1, e2⟩; rw [e0, e1, e2]
section st
variable {S S1 : gS} {d d1 : gD} {x : Nat} {s s' : Nat → Nat → Nat} {A A' : Nat → Nat → Nat} {hd : Nat → Int32} {q : (Nat → Int64) × Int64 × (Nat → Int64) × (Nat → Int32)}
def omA (S : gS) : gS := nS (nS S 5 0) 2 0
def omB (S : gS) : gS := wP (wP (nS (omA S) 50 3) (sZ S + 1) 0 (some (sZ S + 2))) (sZ S) 5 (some (sZ S + 1))
def omD (S : gS) (d : gD) (v1 v2 v3 v4 v5 : Int32) : gD := wI (wI (wI (wI (wI (nD (omA S) (nD (nS S 5 0) (nD S d))) (sZ S) 0 v1) (sZ S) 1 v2) (sZ S) 2 v3) (sZ S) 3 v4) (sZ S) 4 v5
theorem c_omInit {v1 v2 v3 v4 v5 : Int32} : f_Om_init (nS S 5 0) (nD S d) (sZ S) v1 v2 v3 v4 v5 = some (((), omB S, omD S d v1 v2 v3 v4 v5), 2, 5) := by
  have zA : sZ (omA S) = sZ S + 2 := rfl
  have kA : sK (omA S) (sZ S + 1) = 2 := by show (if sZ S + 1 = sZ S + 1 then 2 else _) = 2; rw [if_pos rfl]
  have r1 := c_rwInit (S := omA S) (d := nD (nS S 5 0) (nD S d)) (r := sZ S + 1) (n := 3) (v := 3) (by decide) (by decide) kA (by rw [zA]; omega)
  rw [zA] at r1
  have k1 : sK (wP (nS (omA S) 50 3) (sZ S + 1) 0 (some (sZ S + 2))) (sZ S) = 5 := by
    simp [omA, sK_wP, sK_nS, sZ_nS, Nat.add_assoc]
  unfold f_Om_init
  show ac 1 2 (bdA (f_Rw_init (omA S) (nD (nS S 5 0) (nD S d)) (sZ S + 1) 3) _) = _
  rw [r1, bdA_t, kd_t k1]
  rfl
theorem c_omInit_s {v1 v2 v3 v4 v5 : Int32} : (sK (omB S) (sZ S) = 5 ∧ sP (omB S) (sZ S) 5 = some (sZ S + 1) ∧ RWs (omB S) (sZ S + 1) 3) ∧ sZ (omB S) = sZ S + 3 ∧ Fm (fun _ _ => False) S d (omB S) (omD S d v1 v2 v3 v4 v5) ∧ (dI (omD S d v1 v2 v3 v4 v5) (sZ S) 0 = v1 ∧ dI (omD S d v1 v2 v3 v4 v5) (sZ S) 1 = v2 ∧ dI (omD S d v1 v2 v3 v4 v5) (sZ S) 2 = v3 ∧ dI (omD S d v1 v2 v3 v4 v5) (sZ S) 3 = v4 ∧ dI (omD S d v1 v2 v3 v4 v5) (sZ S) 4 = v5) ∧ RWd (omD S d v1 v2 v3 v4 v5) (sZ S + 1) [] := by
  refine ⟨⟨?_, ?_, ⟨?_, ?_, ?_, ?_⟩⟩, rfl, ?_, ⟨?_, ?_, ?_, ?_, ?_⟩, ?_, row_n⟩
  · simp [omB, omA, sK_nS, sK_wP, sZ_nS, Nat.add_assoc]
  · simp [omB, omA, sP_nS, sP_wP, sZ_nS, Nat.add_assoc]
  · simp [omB, omA, sK_nS, sK_wP, sZ_nS, Nat.add_assoc]
  · simp [omB, omA, sP_nS, sP_wP, sZ_nS, Nat.add_assoc]
  · simp [omB, omA, sK_nS, sK_wP, sZ_nS, Nat.add_assoc]
  · simp [omB, omA, sN_nS, sN_wP, sZ_nS, Nat.add_assoc]
  · exact fm_nI (fm_nI (fm_nI (fm_nI (fm_nI (fm_nP (fm_nP (fm_nN (fm_nN fm_nS)) (by omega)) (Nat.le_refl _)) (Nat.le_refl _)) (Nat.le_refl _)) (Nat.le_refl _)) (Nat.le_refl _)) (Nat.le_refl _)
  all_goals simp [omD, omA, dI_wI, dI_nD, sZ_nS, Nat.add_assoc]
  rfl
theorem c_isResult (h : CS S x) (t : CT d x s) (b : BI s) {r : Nat} (hr : r < 2 ^ 31) : f_M_isResult S d x (nI r) = some (b2 (decide (r = 0) || thI s (nI r))) := by
  simp (maxSteps := 1000000) (disch := omega) only [f_M_isResult, f_M_isResult_J15, kd_t (cs_K0 h), cs_P0_0 h, kd_t (cs_K1 h), cs_P1_0 h, kd_t (cs_K2 h), cs_N2 h, cs_P0_1 h, kd_t (cs_K3 h), cs_N3 h, cs_P0_3 h, kd_t (cs_K4 h), cs_N4 h, cs_P0_5 h, kd_t (cs_K5 h), cs_N5 h, cs_P0_6 h, kd_t (cs_K6 h), cs_N6 h, cs_P0_8 h, kd_t (cs_K7 h), cs_N7 h, cs_P0_9 h, kd_t (cs_K8 h), cs_N8 h, cs_P0_11 h, kd_t (cs_K9 h), cs_P9_0 h, cs_P9_1 h, kd_t (cs_K10 h), cs_N10 h, cs_P9_3 h, kd_t (cs_K11 h), cs_P11_0 h, kd_t (cs_K12 h), cs_N12 h, cs_P0_12 h, kd_t (cs_K13 h), cs_P13_0 h, kd_t (cs_K14 h), cs_N14 h, cs_P13_2 h, kd_t (cs_K15 h), cs_N15 h, cs_P13_4 h, kd_t (cs_K16 h), cs_N16 h, cs_P0_16 h, kd_t (cs_K17 h), cs_N17 h, cs_P0_17 h, kd_t (cs_K18 h), cs_N18 h, cs_P7_0 h, cs_P7_1 h, cs_P7_2 h, lt_t, nn_t, bd_t, bdD_t, bdP_t, nI_clamp, gi_n, nI_add, nI_1, pk_mul, b2_eq0, b2_01, nb_t, if_true, if_false, ni_le, ni_eq, ni_lt, c_isThere h t b, l0_e]
  by_cases c : r = 0
  · rw [if_pos c, decide_eq_true c]; rfl
  · rw [if_neg c, decide_eq_false c, Bool.false_or]
    cases thI s (nI r) <;> rfl
theorem c_areParameters (h : CS S x) (t : CT d x s) (b : BI s) (v : Int32) : f_M_areParameters S d x v = some (b2 (decide (∀ k, k < ln v → thI s (nI (ub v k)) = true))) := by
  have hl := ln_le v
  have hd : ∀ c : Bool, (c = true ↔ ∀ k, k < ln v → thI s (nI (ub v k)) = true) → c = decide (∀ k, k < ln v → thI s (nI (ub v k)) = true) := by
    intro c hc
    rw [Bool.eq_iff_iff, hc, decide_eq_true_iff]
  unfold f_M_areParameters
  refine itr_f (B := f_M_areParameters_B2 S d x) (fun k K => K v (nI k)) (fun k => !thI s (nI (ub v k))) (ln v) _ (by omega) ?_ ?_ ?_
  · intro k hk hp K hK
    rw [Bool.not_eq_false'] at hp
    simp (maxSteps := 1000000) (disch := omega) only [f_M_areParameters_B2, kd_t (cs_K0 h), cs_P0_0 h, kd_t (cs_K1 h), cs_P1_0 h, kd_t (cs_K2 h), cs_N2 h, cs_P0_1 h, kd_t (cs_K3 h), cs_N3 h, cs_P0_3 h, kd_t (cs_K4 h), cs_N4 h, cs_P0_5 h, kd_t (cs_K5 h), cs_N5 h, cs_P0_6 h, kd_t (cs_K6 h), cs_N6 h, cs_P0_8 h, kd_t (cs_K7 h), cs_N7 h, cs_P0_9 h, kd_t (cs_K8 h), cs_N8 h, cs_P0_11 h, kd_t (cs_K9 h), cs_P9_0 h, cs_P9_1 h, kd_t (cs_K10 h), cs_N10 h, cs_P9_3 h, kd_t (cs_K11 h), cs_P11_0 h, kd_t (cs_K12 h), cs_N12 h, cs_P0_12 h, kd_t (cs_K13 h), cs_P13_0 h, kd_t (cs_K14 h), cs_N14 h, cs_P13_2 h, kd_t (cs_K15 h), cs_N15 h, cs_P13_4 h, kd_t (cs_K16 h), cs_N16 h, cs_P0_16 h, kd_t (cs_K17 h), cs_N17 h, cs_P0_17 h, kd_t (cs_K18 h), cs_N18 h, cs_P7_0 h, cs_P7_1 h, cs_P7_2 h, lt_t, nn_t, bd_t, bdD_t, bdP_t, nI_clamp, gi_n, nI_add, nI_1, pk_mul, b2_eq0, b2_01, nb_t, if_true, if_false, ni_le, ni_eq, ni_lt, c_lengthOf v, c_byteOf v (show k < 4 by omega), c_isThere h t b, hp, l1_a]
    rw [if_neg (by omega), if_neg (by decide)]; exact hK
  · intro k hk hp he K
    rw [Bool.not_eq_true'] at hp
    simp (maxSteps := 1000000) (disch := omega) only [f_M_areParameters_B2, kd_t (cs_K0 h), cs_P0_0 h, kd_t (cs_K1 h), cs_P1_0 h, kd_t (cs_K2 h), cs_N2 h, cs_P0_1 h, kd_t (cs_K3 h), cs_N3 h, cs_P0_3 h, kd_t (cs_K4 h), cs_N4 h, cs_P0_5 h, kd_t (cs_K5 h), cs_N5 h, cs_P0_6 h, kd_t (cs_K6 h), cs_N6 h, cs_P0_8 h, kd_t (cs_K7 h), cs_N7 h, cs_P0_9 h, kd_t (cs_K8 h), cs_N8 h, cs_P0_11 h, kd_t (cs_K9 h), cs_P9_0 h, cs_P9_1 h, kd_t (cs_K10 h), cs_N10 h, cs_P9_3 h, kd_t (cs_K11 h), cs_P11_0 h, kd_t (cs_K12 h), cs_N12 h, cs_P0_12 h, kd_t (cs_K13 h), cs_P13_0 h, kd_t (cs_K14 h), cs_N14 h, cs_P13_2 h, kd_t (cs_K15 h), cs_N15 h, cs_P13_4 h, kd_t (cs_K16 h), cs_N16 h, cs_P0_16 h, kd_t (cs_K17 h), cs_N17 h, cs_P0_17 h, kd_t (cs_K18 h), cs_N18 h, cs_P7_0 h, cs_P7_1 h, cs_P7_2 h, lt_t, nn_t, bd_t, bdD_t, bdP_t, nI_clamp, gi_n, nI_add, nI_1, pk_mul, b2_eq0, b2_01, nb_t, if_true, if_false, ni_le, ni_eq, ni_lt, c_lengthOf v, c_byteOf v (show k < 4 by omega), c_isThere h t b, hp]
    rw [if_neg (by omega), ← hd false ⟨fun c => absurd c (by decide), fun c => by rw [c k hk] at hp; exact absurd hp (by decide)⟩]; rfl
  · intro he K
    simp (maxSteps := 1000000) (disch := omega) only [f_M_areParameters_B2, kd_t (cs_K0 h), cs_P0_0 h, kd_t (cs_K1 h), cs_P1_0 h, kd_t (cs_K2 h), cs_N2 h, cs_P0_1 h, kd_t (cs_K3 h), cs_N3 h, cs_P0_3 h, kd_t (cs_K4 h), cs_N4 h, cs_P0_5 h, kd_t (cs_K5 h), cs_N5 h, cs_P0_6 h, kd_t (cs_K6 h), cs_N6 h, cs_P0_8 h, kd_t (cs_K7 h), cs_N7 h, cs_P0_9 h, kd_t (cs_K8 h), cs_N8 h, cs_P0_11 h, kd_t (cs_K9 h), cs_P9_0 h, cs_P9_1 h, kd_t (cs_K10 h), cs_N10 h, cs_P9_3 h, kd_t (cs_K11 h), cs_P11_0 h, kd_t (cs_K12 h), cs_N12 h, cs_P0_12 h, kd_t (cs_K13 h), cs_P13_0 h, kd_t (cs_K14 h), cs_N14 h, cs_P13_2 h, kd_t (cs_K15 h), cs_N15 h, cs_P13_4 h, kd_t (cs_K16 h), cs_N16 h, cs_P0_16 h, kd_t (cs_K17 h), cs_N17 h, cs_P0_17 h, kd_t (cs_K18 h), cs_N18 h, cs_P7_0 h, cs_P7_1 h, cs_P7_2 h, lt_t, nn_t, bd_t, bdD_t, bdP_t, nI_clamp, gi_n, nI_add, nI_1, pk_mul, b2_eq0, b2_01, nb_t, if_true, if_false, ni_le, ni_eq, ni_lt, c_lengthOf v]
    rw [if_pos (Nat.le_refl _), ← hd true ⟨fun _ k hk => by
      have := fst_no (fun k => !thI s (nI (ub v k))) (ln v) k (by omega)
      simpa using this, fun _ => rfl⟩]; rfl
theorem iv_gb {e : gD} (h : IV S d x s A q) (g : Gb s s') (r : RP S e (x + 28) s' q) (f : Rf (x + 28) d e) : IV S e x s' A q := by
  rcases g with rfl | ⟨h21, f0, nm, rr, v, k0, hf, h6, hn, hr, hk0, rfl⟩
  · exact iv_rf h r f
  · have so : ∀ k i, k ≠ 13 → k ≠ 14 → k ≠ 15 → sG s (6 * f0 + s 12 f0) nm rr v k0 k i = s k i := fun k i h1 h2 h3 => sG_o ⟨h1, h2, h3⟩ k0
    have hF := h.b.faces
    have own : ∀ y, vx s y → y ≠ 6 * f0 + s 12 f0 := by
      rintro y (⟨h1, h2⟩ | h1) e
      · rw [e, show (6 * f0 + s 12 f0) / 6 = f0 by omega, show (6 * f0 + s 12 f0) % 6 = s 12 f0 by omega] at h2
        omega
      · omega
    have hth : ∀ i, thr (sG s (6 * f0 + s 12 f0) nm rr v k0) i = thr s i := by
      intro i
      have : ∀ k, thrK (sG s (6 * f0 + s 12 f0) nm rr v k0) i k = thrK s i k := by
        intro k
        induction k with
        | zero => rfl
        | succ k ih => unfold thrK; rw [ih, so 17 _ (by decide) (by decide) (by decide)]
      unfold thr; rw [this, so 16 i (by decide) (by decide) (by decide)]
    have g1 := h.g1
    have F := g1.ce.F
    have G1' : G1 S d x (sG s (6 * f0 + s 12 f0) nm rr v k0) A q.2.2.2 := by
      refine ⟨⟨g1.ce.cs, g1.ce.hx, ⟨by rw [so 5 0 (by decide) (by decide) (by decide)]; exact F.1, fun f hf => ?_, by rw [so 5 0 (by decide) (by decide) (by decide)]; exact F.2.2⟩, fun i hi => ?_, g1.ce.M.2⟩, ?_, by rw [so 21 0 (by decide) (by decide) (by decide)]; exact g1.st1, fun c hc => ?_, fun c c' h1 h2 => ?_, ?_⟩
      · rw [so 5 0 (by decide) (by decide) (by decide)] at hf
        have c := F.2.1 f hf
        exact ⟨c.p, c.lo, c.hi, c.sh, by rw [so 6 f (by decide) (by decide) (by decide)]; exact c.g0, by rw [so 7 f (by decide) (by decide) (by decide)]; exact c.g1, by rw [so 8 f (by decide) (by decide) (by decide)]; exact c.g2, by rw [so 9 f (by decide) (by decide) (by decide)]; exact c.g3, by rw [so 11 f (by decide) (by decide) (by decide)]; exact c.g5, fun p hp => by rw [so 11 f (by decide) (by decide) (by decide)] at hp; rw [so 10 _ (by decide) (by decide) (by decide)]; exact c.gp p hp, by rw [so 12 f (by decide) (by decide) (by decide)]; exact c.g7, by rw [so 12 f (by decide) (by decide) (by decide)]; exact c.ow⟩
      · have hvx : vx s i := by
          unfold vx at hi ⊢
          rw [so 5 0 (by decide) (by decide) (by decide), so 12 _ (by decide) (by decide) (by decide)] at hi
          exact hi
        have hne := own i hvx
        have o := g1.ce.M.1 i hvx
        exact ⟨o.k, o.p, o.rs, o.g0, o.g1, by rw [sG_13, if_neg hne]; exact o.g2, by unfold pkp; rw [sG_15, if_neg (by omega), sG_15, if_neg (by omega), sG_15, if_neg (by omega)]; exact o.g3, by rw [sG_14, if_neg hne]; exact o.g4, by rw [hth]; exact o.tr, o.hi, o.lo⟩
      · rcases g1.al with a | ⟨a1, a2⟩
        · exact .inl a
        · refine .inr ⟨a1, fun g hg => ?_⟩
          rw [so 5 0 (by decide) (by decide) (by decide)] at hg
          rw [lst_gb h.b hf h6 hk0 _ g (Nat.lt_succ_self g) hg]
          exact a2 g hg
      · rw [so 21 0 (by decide) (by decide) (by decide), h21] at hc; omega
      · rw [so 21 0 (by decide) (by decide) (by decide), h21] at h2; omega
      · refine ⟨fun i v hi hv => ?_, g1.dk.inj⟩
        obtain ⟨k1, k2, k3, k4⟩ := g1.dk.sl i v hi hv
        refine ⟨k1, k2, k3, fun w => ?_⟩
        obtain ⟨c, j, w1, -⟩ := w
        rw [so 21 0 (by decide) (by decide) (by decide), h21] at w1; omega
    have G2' : G2 d x (sG s (6 * f0 + s 12 f0) nm rr v k0) q := by
      have g := h.g2
      have hTE : TE (sG s (6 * f0 + s 12 f0) nm rr v k0) = TE s := by
        funext a c'
        unfold TE FE
        rw [so 3 0 (by decide) (by decide) (by decide), so 5 0 (by decide) (by decide) (by decide), so 4 a (by decide) (by decide) (by decide), so 11 _ (by decide) (by decide) (by decide)]
        simp only [fun i => so 10 i (by decide) (by decide) (by decide)]
      have hty : ty (sG s (6 * f0 + s 12 f0) nm rr v k0) = ty s := by funext a; unfold ty; rw [so 3 0 (by decide) (by decide) (by decide), so 5 0 (by decide) (by decide) (by decide)]
      exact ⟨⟨by rw [so 1 0 (by decide) (by decide) (by decide)]; exact g.cl.1, g.cl.2.1, fun i h0 hi => by rw [so 1 0 (by decide) (by decide) (by decide)] at hi; rw [so 2 i (by decide) (by decide) (by decide)]; exact g.cl.2.2 i h0 hi⟩, ⟨by rw [so 3 0 (by decide) (by decide) (by decide)]; exact g.t.1, fun a c' h1 h2 => by rw [hTE, hty]; exact g.t.2 a c' h1 h2⟩, by rw [so 18 0 (by decide) (by decide) (by decide)]; exact g.o1, fun i hi => by rw [so 18 0 (by decide) (by decide) (by decide)] at hi; rw [so 19 i (by decide) (by decide) (by decide)]; exact g.o2 i hi, fun i hi => by rw [so 18 0 (by decide) (by decide) (by decide)] at hi; exact g.o3 i hi, by rw [so 28 0 (by decide) (by decide) (by decide)]; exact g.fa, g.oc, g.sn⟩
    refine iv_fin G1' G2' r f (bi_sG h.b hf h6 hn hr k0 hk0) (sv_0 h.sv h21 (fun i hi => ?_) (fun k i h1 h2 => so k i (by omega) (by omega) (by omega))) h.ok
    rw [sG_13, if_neg (by omega)]
end st
