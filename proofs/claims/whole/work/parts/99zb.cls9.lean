section cls
variable {S : gS} {d : gD} {x : Nat} {s : Nat → Nat → Nat} {A : Nat → Nat → Nat} {U : Nat → Prop} {D : List (Nat × List Nat)}
theorem q_us : ∀ k, k < 4 → ((Int32.toUInt32 (nI (8 * k)) &&& Int32.toUInt32 31) % 32).toNat = 8 * k := by decide
theorem b_ushr (v : Int32) (m : UInt32) {n i : Nat} (hm : (m % 32).toNat = n) : bt ((Int32.toUInt32 v >>> m).toInt32) i = bt v (n + i) := by
  unfold bt
  show (Int32.toUInt32 v >>> m).toBitVec.getLsbD i = v.toBitVec.getLsbD (n + i)
  rw [UInt32.toBitVec_shiftRight, BitVec.ushiftRight_eq', BitVec.getLsbD_ushiftRight]
  rw [show (m.toBitVec % 32).toNat = n from hm]; rfl
theorem c_byteOf (v : Int32) {k : Nat} (hk : k < 4) : f_M_byteOf S d v (nI k) = some (nI (ub v k)) := by
  unfold f_M_byteOf
  rw [l8_m]
  congr 1
  apply b_ext
  intro i hi
  have hu := ub_lt v k
  rw [b_and, b_ushr v _ (q_us k hk), bt_nI (by omega), ub_bt, bt_255 i hi]
  by_cases c : i < 8
  · rw [decide_eq_true c, Bool.and_true, Bool.true_and]
  · rw [decide_eq_false c, Bool.and_false, Bool.false_and]
theorem c_lengthOf (v : Int32) : f_M_lengthOf S d v = some (nI (ln v)) := by
  unfold f_M_lengthOf
  refine itr_f (B := f_M_lengthOf_B2 S d) (fun k K => K v (nI k)) (fun k => decide (ub v k = 0)) 4 _ (by omega) ?_ ?_ ?_
  · intro k hk hp K hK
    have hu := ub_lt v k
    simp (maxSteps := 1000000) (disch := omega) only [f_M_lengthOf_B2, l0_e, l0_le, l0_ge, l0_lt, l0_gt, l1_m, l1_a, l1_b, l1_s, l1_e, l1_le, l1_ge, l1_lt, l1_gt, l4_m, l4_a, l4_b, l4_s, l4_e, l4_le, l4_ge, l4_lt, l4_gt, lt_t, nn_t, bd_t, bdD_t, bdP_t, nI_clamp, gi_n, nI_add, nI_1, pk_mul, b2_eq0, b2_01, nb_t, if_true, if_false, ni_le, ni_eq, ni_lt, c_byteOf v hk]
    rw [if_neg (by omega), if_neg (by simpa using hp)]; exact hK
  · intro k hk hp he K
    have hu := ub_lt v k
    simp (maxSteps := 1000000) (disch := omega) only [f_M_lengthOf_B2, l0_e, l0_le, l0_ge, l0_lt, l0_gt, l1_m, l1_a, l1_b, l1_s, l1_e, l1_le, l1_ge, l1_lt, l1_gt, l4_m, l4_a, l4_b, l4_s, l4_e, l4_le, l4_ge, l4_lt, l4_gt, lt_t, nn_t, bd_t, bdD_t, bdP_t, nI_clamp, gi_n, nI_add, nI_1, pk_mul, b2_eq0, b2_01, nb_t, if_true, if_false, ni_le, ni_eq, ni_lt, c_byteOf v hk]
    rw [if_neg (by omega), if_pos (by simpa using hp)]
    unfold ln; rw [he]
  · intro he K
    simp (maxSteps := 1000000) (disch := omega) only [f_M_lengthOf_B2, l0_e, l0_le, l0_ge, l0_lt, l0_gt, l1_m, l1_a, l1_b, l1_s, l1_e, l1_le, l1_ge, l1_lt, l1_gt, l4_m, l4_a, l4_b, l4_s, l4_e, l4_le, l4_ge, l4_lt, l4_gt, lt_t, nn_t, bd_t, bdD_t, bdP_t, nI_clamp, gi_n, nI_add, nI_1, pk_mul, b2_eq0, b2_01, nb_t, if_true, if_false, ni_le, ni_eq, ni_lt]
    rw [if_pos (Nat.le_refl _)]
    unfold ln; rw [he]
theorem ln_pos {v : Int32} {k : Nat} (h : k < ln v) : ub v k ≠ 0 := by
  have := fst_no _ _ k h
  simpa using this
theorem ln_zero {v : Int32} (h : ln v < 4) : ub v (ln v) = 0 := by
  have := fst_yes _ _ h
  unfold ln
  simpa using this
theorem c_cutAtZero (v : Int32) : f_M_cutAtZero S d v = some (cln v (ln v)) := by
  have hl := ln_le v
  unfold f_M_cutAtZero
  refine itr_0 (B := f_M_cutAtZero_B4 S d) (fun k K => K v (cln v k) (nI k)) _ (ln v) (by omega) ?_ ?_
  · intro k hk K hK
    have hu := ub_lt v k
    have hp := ln_pos hk
    simp (maxSteps := 1000000) (disch := omega) only [f_M_cutAtZero_B4, l0_e, l0_le, l0_ge, l0_lt, l0_gt, l1_m, l1_a, l1_b, l1_s, l1_e, l1_le, l1_ge, l1_lt, l1_gt, l4_m, l4_a, l4_b, l4_s, l4_e, l4_le, l4_ge, l4_lt, l4_gt, l8_m, l8_a, l8_b, l8_s, l8_e, l8_le, l8_ge, l8_lt, l8_gt, l31_m, l31_a, l31_b, l31_s, l31_e, l31_le, l31_ge, l31_lt, l31_gt, lt_t, nn_t, bd_t, bdD_t, bdP_t, nI_clamp, gi_n, nI_add, nI_1, pk_mul, b2_eq0, b2_01, nb_t, if_true, if_false, ni_le, ni_eq, ni_lt, c_byteOf v (show k < 4 by omega)]
    rw [if_neg (by omega), if_neg hp]; exact hK
  · intro K
    by_cases c : ln v = 4
    · rw [c]
      simp (maxSteps := 1000000) (disch := omega) only [f_M_cutAtZero_B4, l0_e, l0_le, l0_ge, l0_lt, l0_gt, l1_m, l1_a, l1_b, l1_s, l1_e, l1_le, l1_ge, l1_lt, l1_gt, l4_m, l4_a, l4_b, l4_s, l4_e, l4_le, l4_ge, l4_lt, l4_gt, l8_m, l8_a, l8_b, l8_s, l8_e, l8_le, l8_ge, l8_lt, l8_gt, l31_m, l31_a, l31_b, l31_s, l31_e, l31_le, l31_ge, l31_lt, l31_gt, lt_t, nn_t, bd_t, bdD_t, bdP_t, nI_clamp, gi_n, nI_add, nI_1, pk_mul, b2_eq0, b2_01, nb_t, if_true, if_false, ni_le, ni_eq, ni_lt]
      rw [if_pos (by decide)]
    · have hu := ub_lt v (ln v)
      simp (maxSteps := 1000000) (disch := omega) only [f_M_cutAtZero_B4, l0_e, l0_le, l0_ge, l0_lt, l0_gt, l1_m, l1_a, l1_b, l1_s, l1_e, l1_le, l1_ge, l1_lt, l1_gt, l4_m, l4_a, l4_b, l4_s, l4_e, l4_le, l4_ge, l4_lt, l4_gt, l8_m, l8_a, l8_b, l8_s, l8_e, l8_le, l8_ge, l8_lt, l8_gt, l31_m, l31_a, l31_b, l31_s, l31_e, l31_le, l31_ge, l31_lt, l31_gt, lt_t, nn_t, bd_t, bdD_t, bdP_t, nI_clamp, gi_n, nI_add, nI_1, pk_mul, b2_eq0, b2_01, nb_t, if_true, if_false, ni_le, ni_eq, ni_lt, c_byteOf v (show ln v < 4 by omega)]
      rw [if_neg (by omega), if_pos (ln_zero (by omega))]
theorem c_take (h : CE S d x s A) (t : CT d x s) (b : BI s) (K : DK S x U) (hU : ∀ v, sZ S ≤ v → U v) (C : DC S d x A D) (hv : ∀ i, i < D.length → vx s (D.getD i df).1 ∧ cl (D.getD i df).2) (h75 : D.length ≤ 75) {y : Nat} (hy : vx s y) (hlt : ¬ fst (hitP s D y) D.length < D.length → D.length < 75) : ∃ S' d' n m, f_Dr_take S d (x + 9) (some (A 1 y)) = some (((), S', d'), n, m) ∧ n + 5 * D.length ≤ 5 * (tkC s D y).length ∧ m + 39 * D.length ≤ 39 * (tkC s D y).length ∧ Fm (PDr x U) S d S' d' ∧ DK S' x U ∧ DC S' d' x A (tkC s D y) := by
  have hcs := h.cs
  have oy := h.M.1 y hy
  have oyl := oy.lo
  have r14 := b.resT y
  simp only [f_Dr_take, kd_t (cs_K9 hcs), lt_t, C.n]
  refine itr_fq (B := f_Dr_take_B7 (x + 9) (f_Dr_take_J50 (x + 9)) (f_Dr_take_J78 (x + 9))) (fun k K => ∃ S' d' n m, K S d (some (A 1 y)) (nI (pl s D y k)) (nI k) = some (((), S', d'), n, m) ∧ n + 5 * D.length ≤ 5 * (tkC s D y).length ∧ m + 39 * D.length ≤ 39 * (tkC s D y).length ∧ Fm (PDr x U) S d S' d' ∧ DK S' x U ∧ DC S' d' x A (tkC s D y)) (hitP s D y) D.length (by omega) ?_ ?_ ?_
  · intro k hk hp KK hK
    obtain ⟨v, e1, e2, e3⟩ := C.c k hk
    have sv := K.sl k v (by omega) e1
    have ov := h.M.1 _ (hv k hk).1
    have q14 := b.resT (D.getD k df).1
    simp (maxSteps := 1000000) (disch := omega) only [f_Dr_take_B7, f_Dr_take_J72, kd_t (cs_K0 hcs), cs_P0_0 hcs, kd_t (cs_K1 hcs), cs_P1_0 hcs, kd_t (cs_K2 hcs), cs_N2 hcs, cs_P0_1 hcs, kd_t (cs_K3 hcs), cs_N3 hcs, cs_P0_3 hcs, kd_t (cs_K4 hcs), cs_N4 hcs, cs_P0_5 hcs, kd_t (cs_K5 hcs), cs_N5 hcs, cs_P0_6 hcs, kd_t (cs_K6 hcs), cs_N6 hcs, cs_P0_8 hcs, kd_t (cs_K7 hcs), cs_N7 hcs, cs_P0_9 hcs, kd_t (cs_K8 hcs), cs_N8 hcs, cs_P0_11 hcs, kd_t (cs_K9 hcs), cs_P9_0 hcs, cs_P9_1 hcs, kd_t (cs_K10 hcs), cs_N10 hcs, cs_P9_3 hcs, kd_t (cs_K11 hcs), cs_P11_0 hcs, kd_t (cs_K12 hcs), cs_N12 hcs, cs_P0_12 hcs, kd_t (cs_K13 hcs), cs_P13_0 hcs, kd_t (cs_K14 hcs), cs_N14 hcs, cs_P13_2 hcs, kd_t (cs_K15 hcs), cs_N15 hcs, cs_P13_4 hcs, kd_t (cs_K16 hcs), cs_N16 hcs, cs_P0_16 hcs, kd_t (cs_K17 hcs), cs_N17 hcs, cs_P0_17 hcs, kd_t (cs_K18 hcs), cs_N18 hcs, cs_P7_0 hcs, cs_P7_1 hcs, cs_P7_2 hcs, l0_e, l0_le, l0_ge, l0_lt, l0_gt, l1_m, l1_a, l1_b, l1_s, l1_e, l1_le, l1_ge, l1_lt, l1_gt, lt_t, nn_t, bd_t, bdD_t, bdP_t, nI_clamp, gi_n, nI_add, nI_1, pk_mul, b2_eq0, b2_01, nb_t, if_true, if_false, ni_le, ni_eq, ni_lt, C.n, e1, kd_t sv.1.k, e2, kd_t ov.k, kd_t oy.k, c_hasSig b ov oy (hv k hk).1 hy, ov.g4, oy.g4]
    rw [if_neg (by omega)]
    have hst : pl s D y (k + 1) = if sg s (D.getD k df).1 y then k + 1 else pl s D y k := rfl
    rw [hst] at hK
    unfold hitP at hp
    cases q : sg s (D.getD k df).1 y with
    | false =>
      rw [q, if_neg (by decide)] at hK
      rw [if_pos rfl]; exact hK
    | true =>
      rw [q, if_pos rfl] at hK
      rw [q, Bool.true_and, decide_eq_false_iff_not] at hp
      rw [if_neg (by decide), if_neg hp]; exact hK
  · intro k hk hp he KK
    obtain ⟨v, e1, e2, e3⟩ := C.c k hk
    have sv := K.sl k v (by omega) e1
    have ov := h.M.1 _ (hv k hk).1
    have q14 := b.resT (D.getD k df).1
    have kw := oy.k
    have wv : A 1 y ≠ v := fun e => by rw [e, sv.1.k] at kw; cases kw
    obtain ⟨d2, f2, c2, w2⟩ := c_narrow hcs t b sv.1.r1 oy.rs (by omega) (hv k hk).2 (cl_thr b y) (by rw [thr_len]; exact b.throwN y) e3 oy.tr (by omega) (by omega) (by omega)
    have etk : tkC s D y = D.set k ((D.getD k df).1, mg s (D.getD k df).2 (thr s y)) := by unfold tkC; rw [he, if_pos hk]
    unfold hitP at hp
    rw [Bool.and_eq_true, decide_eq_true_iff] at hp
    refine ⟨S, d2, 0, 0, ?_, ?_, ?_, ?_, K, ?_⟩
    · simp (maxSteps := 1000000) (disch := omega) only [f_Dr_take_B7, f_Dr_take_J50, kd_t (cs_K0 hcs), cs_P0_0 hcs, kd_t (cs_K1 hcs), cs_P1_0 hcs, kd_t (cs_K2 hcs), cs_N2 hcs, cs_P0_1 hcs, kd_t (cs_K3 hcs), cs_N3 hcs, cs_P0_3 hcs, kd_t (cs_K4 hcs), cs_N4 hcs, cs_P0_5 hcs, kd_t (cs_K5 hcs), cs_N5 hcs, cs_P0_6 hcs, kd_t (cs_K6 hcs), cs_N6 hcs, cs_P0_8 hcs, kd_t (cs_K7 hcs), cs_N7 hcs, cs_P0_9 hcs, kd_t (cs_K8 hcs), cs_N8 hcs, cs_P0_11 hcs, kd_t (cs_K9 hcs), cs_P9_0 hcs, cs_P9_1 hcs, kd_t (cs_K10 hcs), cs_N10 hcs, cs_P9_3 hcs, kd_t (cs_K11 hcs), cs_P11_0 hcs, kd_t (cs_K12 hcs), cs_N12 hcs, cs_P0_12 hcs, kd_t (cs_K13 hcs), cs_P13_0 hcs, kd_t (cs_K14 hcs), cs_N14 hcs, cs_P13_2 hcs, kd_t (cs_K15 hcs), cs_N15 hcs, cs_P13_4 hcs, kd_t (cs_K16 hcs), cs_N16 hcs, cs_P0_16 hcs, kd_t (cs_K17 hcs), cs_N17 hcs, cs_P0_17 hcs, kd_t (cs_K18 hcs), cs_N18 hcs, cs_P7_0 hcs, cs_P7_1 hcs, cs_P7_2 hcs, l0_e, l0_le, l0_ge, l0_lt, l0_gt, l1_m, l1_a, l1_b, l1_s, l1_e, l1_le, l1_ge, l1_lt, l1_gt, lt_t, nn_t, bd_t, bdD_t, bdP_t, nI_clamp, gi_n, nI_add, nI_1, pk_mul, b2_eq0, b2_01, nb_t, if_true, if_false, ni_le, ni_eq, ni_lt, C.n, e1, kd_t sv.1.k, e2, kd_t ov.k, kd_t oy.k, c_hasSig b ov oy (hv k hk).1 hy, ov.g4, oy.g4, sv.1.p1, oy.p, f2]
      rw [if_neg (by omega), hp.1, if_neg (by decide), if_pos hp.2]
    · rw [etk, List.length_set]; omega
    · rw [etk, List.length_set]; omega
    · refine fm_ch (ch_m c2 ?_)
      rintro a j (q | q)
      · exact .inr (.inr (.inl q))
      · exact .inr (.inr (.inr ⟨v, sv.2.2.2, .inr q⟩))
    · rw [etk]
      have n9 : ¬ PNr x (v + 1) (x + 9) 2 := by unfold PNr PRw; omega
      refine ⟨by rw [List.length_set]; exact (c2.2 _ _ n9).trans C.n, fun i hi => ?_⟩
      rw [List.length_set] at hi
      rw [getD_set hk]
      by_cases c : i = k
      · rw [if_pos c]
        exact ⟨v, by rw [c]; exact e1, e2, w2⟩
      · rw [if_neg c]
        obtain ⟨u, g1, g2, g3⟩ := C.c i hi
        have su := K.sl i u (by omega) g1
        have une : u ≠ v := fun q => c (K.inj i k v (by omega) (by omega) (q ▸ g1) e1)
        have sp := rw_sep su.1.r1 sv.1.r1 (by omega)
        refine ⟨u, g1, g2, rwd_ch g3 c2 ?_ (fun j _ => ?_)⟩
        · rintro (q | q)
          · unfold PRw at q; omega
          · exact sp.1 q
        · rintro (q | q)
          · unfold PRw at q; omega
          · exact sp.2 j q
  · intro he KK
    have hD := hlt (by omega)
    have hpl := pl_sp (s := s) (D := D) (y := y) D.length (Nat.le_refl _)
    obtain ⟨S2, d2, n, m, f2, hn, hm, m2, K2, C2⟩ := c_insert hcs h.hx b K hU C hD (p := pl s D y D.length) (by omega) oy
    have etk : tkC s D y = D.take (pl s D y D.length) ++ (y, thr s y) :: D.drop (pl s D y D.length) := by unfold tkC; rw [if_neg (by omega), iL_pl]
    have elen : (tkC s D y).length = D.length + 1 := by rw [etk, ins_len (by omega)]
    refine ⟨S2, d2, n, m, ?_, by rw [elen]; omega, by rw [elen]; omega, m2, K2, by rw [etk]; exact C2⟩
    simp (maxSteps := 1000000) (disch := omega) only [f_Dr_take_B7, f_Dr_take_J78, kd_t (cs_K0 hcs), cs_P0_0 hcs, kd_t (cs_K1 hcs), cs_P1_0 hcs, kd_t (cs_K2 hcs), cs_N2 hcs, cs_P0_1 hcs, kd_t (cs_K3 hcs), cs_N3 hcs, cs_P0_3 hcs, kd_t (cs_K4 hcs), cs_N4 hcs, cs_P0_5 hcs, kd_t (cs_K5 hcs), cs_N5 hcs, cs_P0_6 hcs, kd_t (cs_K6 hcs), cs_N6 hcs, cs_P0_8 hcs, kd_t (cs_K7 hcs), cs_N7 hcs, cs_P0_9 hcs, kd_t (cs_K8 hcs), cs_N8 hcs, cs_P0_11 hcs, kd_t (cs_K9 hcs), cs_P9_0 hcs, cs_P9_1 hcs, kd_t (cs_K10 hcs), cs_N10 hcs, cs_P9_3 hcs, kd_t (cs_K11 hcs), cs_P11_0 hcs, kd_t (cs_K12 hcs), cs_N12 hcs, cs_P0_12 hcs, kd_t (cs_K13 hcs), cs_P13_0 hcs, kd_t (cs_K14 hcs), cs_N14 hcs, cs_P13_2 hcs, kd_t (cs_K15 hcs), cs_N15 hcs, cs_P13_4 hcs, kd_t (cs_K16 hcs), cs_N16 hcs, cs_P0_16 hcs, kd_t (cs_K17 hcs), cs_N17 hcs, cs_P0_17 hcs, kd_t (cs_K18 hcs), cs_N18 hcs, cs_P7_0 hcs, cs_P7_1 hcs, cs_P7_2 hcs, l0_e, l0_le, l0_ge, l0_lt, l0_gt, l1_m, l1_a, l1_b, l1_s, l1_e, l1_le, l1_ge, l1_lt, l1_gt, lt_t, nn_t, bd_t, bdD_t, bdP_t, nI_clamp, gi_n, nI_add, nI_1, pk_mul, b2_eq0, b2_01, nb_t, if_true, if_false, ni_le, ni_eq, ni_lt, C.n, f2, bdA_t, ac_t, Nat.zero_add]
    rw [if_pos (Nat.le_refl _)]
end cls
