theorem pkp_ub {s : Nat → Nat → Nat} (b : BI s) {y : Nat} (hy : vx s y) : ∀ k, k < 3 → ub (pkp s y) k = s 15 (3 * y + k) := by
  obtain ⟨h0, h1, h2⟩ := pkp_lt b hy
  have e : (pkp s y).toBitVec.toNat = s 15 (3 * y) + 256 * s 15 (3 * y + 1) + 65536 * s 15 (3 * y + 2) := by
    unfold pkp
    show (BitVec.ofNat 32 _).toNat = _
    rw [BitVec.toNat_ofNat, Nat.mod_eq_of_lt (by omega)]
  intro k hk
  unfold ub
  rw [e]
  rcases (show k = 0 ∨ k = 1 ∨ k = 2 by omega) with rfl | rfl | rfl
  · show (s 15 (3 * y) + 256 * s 15 (3 * y + 1) + 65536 * s 15 (3 * y + 2)) / 1 % 256 = s 15 (3 * y)
    omega
  · show (s 15 (3 * y) + 256 * s 15 (3 * y + 1) + 65536 * s 15 (3 * y + 2)) / 256 % 256 = _
    omega
  · show (s 15 (3 * y) + 256 * s 15 (3 * y + 1) + 65536 * s 15 (3 * y + 2)) / 65536 % 256 = _
    omega
theorem pkp_3 {s : Nat → Nat → Nat} (b : BI s) {y : Nat} (hy : vx s y) : ub (pkp s y) 3 = 0 := by
  obtain ⟨h0, h1, h2⟩ := pkp_lt b hy
  have e : (pkp s y).toBitVec.toNat = s 15 (3 * y) + 256 * s 15 (3 * y + 1) + 65536 * s 15 (3 * y + 2) := by
    unfold pkp
    show (BitVec.ofNat 32 _).toNat = _
    rw [BitVec.toNat_ofNat, Nat.mod_eq_of_lt (by omega)]
  unfold ub
  rw [e]
  show (s 15 (3 * y) + 256 * s 15 (3 * y + 1) + 65536 * s 15 (3 * y + 2)) / 16777216 % 256 = 0
  omega
theorem pkp_ln {s : Nat → Nat → Nat} (b : BI s) {y : Nat} (hy : vx s y) : ln (pkp s y) = tc s y := by
  unfold ln tc
  have h4 : fst (fun k => decide (ub (pkp s y) k = 0)) 4 = if fst (fun k => decide (ub (pkp s y) k = 0)) 3 < 3 then fst (fun k => decide (ub (pkp s y) k = 0)) 3 else if decide (ub (pkp s y) 3 = 0) then 3 else 4 := rfl
  have hc : fst (fun k => decide (ub (pkp s y) k = 0)) 3 = fst (fun k => decide (s 15 (3 * y + k) = 0)) 3 := fst_congr (fun j hj => by rw [pkp_ub b hy j hj])
  have hle := fst_le (fun k => decide (s 15 (3 * y + k) = 0)) 3
  rw [h4, pkp_3 b hy, hc]
  by_cases q : fst (fun k => decide (s 15 (3 * y + k) = 0)) 3 < 3
  · rw [if_pos q]
  · rw [if_neg q, if_pos (by decide)]; omega
theorem pkp_0 {s : Nat → Nat → Nat} (b : BI s) {y : Nat} (hy : vx s y) : (pkp s y = 0) = (tc s y = 0) := by
  obtain ⟨h0, h1, h2⟩ := pkp_lt b hy
  have z0 := b.takeZ y 0 hy (by omega)
  have z1 := b.takeZ y 1 hy (by omega)
  rw [Nat.add_zero] at z0
  have h := pkp_ln b hy
  have e0 := pkp_ub b hy 0 (by omega)
  rw [Nat.add_zero] at e0
  apply propext
  constructor
  · intro e
    rw [← h, e]; decide
  · intro e
    have hl : ln (pkp s y) = 0 := by rw [h, e]
    have u0 := ln_zero (v := pkp s y) (by omega)
    rw [hl, e0] at u0
    have u1 := z0 u0
    have u2 := z1 u1
    unfold pkp
    rw [u0, u1, show s 15 (3 * y + 2) = 0 from u2]; rfl
section em
variable {S : gS} {d : gD} {x : Nat} {I : gD → Prop} {s : Nat → Nat → Nat} {A : Nat → Nat → Nat}
theorem em_cg {f : gD → Option (Unit × gD)} {l l' : List (Nat × Nat × Nat)} (e : l = l') (h : Em x I f l) : Em x I f l' := e ▸ h
theorem em_itr {α : Type} {B : α → α} {z : α} (ap : Nat → gD → α → Option (Unit × gD)) (fk : Nat → gD → Option (Unit × gD)) (tk T : Nat → List (Nat × Nat × Nat)) (N : Nat) (hN : N < 6000) (hI : cI x I) (h0 : T 0 = []) (hT : ∀ k, k < N → T (k + 1) = T k ++ tk k) (hf : ∀ k, k < N → Em x I (fk k) (tk k)) (hs : ∀ k, k < N → ∀ d, I d → ∀ K, ap k d (B K) = bdD (fk k d) (fun _ e => ap (k + 1) e K)) (he : ∀ d, I d → ∀ K, ap N d (B K) = some ((), d)) : Em x I (fun d => ap 0 d (itr B z fu)) (T N) := by
  intro d w i u p hl
  have mono : ∀ j k, k + j = N → (T k).length ≤ (T N).length := by
    intro j
    induction j with
    | zero => intro k hk; rw [show k = N by omega]; exact Nat.le_refl _
    | succ j ih =>
      intro k hk
      have h1 := ih (k + 1) (by omega)
      rw [hT k (by omega), List.length_append] at h1
      omega
  refine itr_q (B := B) (fun (y : gD × Nat) K => ap y.2 y.1 K) (fun t => ∃ e, t = some ((), e) ∧ Ch (PUw x) d e ∧ UWR e x (run w (T N)) ∧ GP (run w (T N)).1) (fun k y => y.2 = k ∧ Ch (PUw x) d y.1 ∧ UWR y.1 x (run w (T k)) ∧ GP (run w (T k)).1) N hN ?_ ?_ (x := (d, 0)) ⟨rfl, ch_r, by rw [h0]; exact u, by rw [h0]; exact p⟩
  · rintro k hk ⟨e, k'⟩ ⟨rfl, hc, hu, hp⟩ K hK
    simp only at hk hc hu hp hK ⊢
    have ie := hI _ _ i hc
    have hm := mono (N - (k' + 1)) (k' + 1) (by omega)
    rw [hT k' hk, List.length_append] at hm
    obtain ⟨e2, f2, c2, u2, p2⟩ := hf k' hk e _ ie hu hp (by rw [run_len]; omega)
    rw [← run_app, ← hT k' hk] at u2 p2
    rw [hs k' hk e ie, f2, bdD_t]
    exact hK (e2, k' + 1) ⟨rfl, ch_t hc c2, u2, p2⟩
  · rintro ⟨e, k'⟩ ⟨rfl, hc, hu, hp⟩ K
    simp only at hc hu hp ⊢
    exact ⟨e, he e (hI _ _ i hc) K, hc, hu, hp⟩
theorem em_types (hI : cI x I) (h : CS S x) {v : Int32} (hv : ∀ k, k < ln v → ub v k < 47) : Em x I (fun d => f_Uw_putTypes S d (x + 13) v) ([(0, ln v, 0)] ++ lsT v (ln v)) := by
  have hl := ln_le v
  refine em_eq (g := fun d => bdD (f_Uw_put S d (x + 13) (nI (ln v))) (fun _ e => itr (f_Uw_putTypes_B10 S (x + 13)) (fun _ _ _ => none) fu e v 0)) (fun d _ => ?_) (em_bd hI (em_put h rfl) ?_)
  · simp only [f_Uw_putTypes, c_lengthOf, bd_t, kd_t (cs_K13 h)]
  · refine em_itr (B := f_Uw_putTypes_B10 S (x + 13)) (fun k e K => K e v (nI k)) (fun k e => f_Uw_putType S e (x + 13) (nI (ub v k))) (fun k => [(1, ub v k, 0)]) (lsT v) (ln v) (by omega) hI rfl (fun k _ => rfl) (fun k hk => em_type h (hv k hk) rfl) ?_ ?_
    · intro k hk e _ K
      simp (maxSteps := 1000000) (disch := omega) only [f_Uw_putTypes_B10, kd_t (cs_K0 h), cs_P0_0 h, kd_t (cs_K1 h), cs_P1_0 h, kd_t (cs_K2 h), cs_N2 h, cs_P0_1 h, kd_t (cs_K3 h), cs_N3 h, cs_P0_3 h, kd_t (cs_K4 h), cs_N4 h, cs_P0_5 h, kd_t (cs_K5 h), cs_N5 h, cs_P0_6 h, kd_t (cs_K6 h), cs_N6 h, cs_P0_8 h, kd_t (cs_K7 h), cs_N7 h, cs_P0_9 h, kd_t (cs_K8 h), cs_N8 h, cs_P0_11 h, kd_t (cs_K9 h), cs_P9_0 h, cs_P9_1 h, kd_t (cs_K10 h), cs_N10 h, cs_P9_3 h, kd_t (cs_K11 h), cs_P11_0 h, kd_t (cs_K12 h), cs_N12 h, cs_P0_12 h, kd_t (cs_K13 h), cs_P13_0 h, kd_t (cs_K14 h), cs_N14 h, cs_P13_2 h, kd_t (cs_K15 h), cs_N15 h, cs_P13_4 h, kd_t (cs_K16 h), cs_N16 h, cs_P0_16 h, kd_t (cs_K17 h), cs_N17 h, cs_P0_17 h, kd_t (cs_K18 h), cs_N18 h, cs_P7_0 h, cs_P7_1 h, cs_P7_2 h, l1_m, l1_a, l1_b, l1_s, l1_e, l1_le, l1_ge, l1_lt, l1_gt, lt_t, nn_t, bd_t, bdD_t, bdP_t, nI_clamp, gi_n, nI_add, nI_1, pk_mul, b2_eq0, b2_01, nb_t, if_true, if_false, ni_le, ni_eq, ni_lt, c_lengthOf v, c_byteOf v (show k < 4 by omega)]
      rw [if_neg (by omega)]
    · intro e _ K
      simp (maxSteps := 1000000) (disch := omega) only [f_Uw_putTypes_B10, kd_t (cs_K0 h), cs_P0_0 h, kd_t (cs_K1 h), cs_P1_0 h, kd_t (cs_K2 h), cs_N2 h, cs_P0_1 h, kd_t (cs_K3 h), cs_N3 h, cs_P0_3 h, kd_t (cs_K4 h), cs_N4 h, cs_P0_5 h, kd_t (cs_K5 h), cs_N5 h, cs_P0_6 h, kd_t (cs_K6 h), cs_N6 h, cs_P0_8 h, kd_t (cs_K7 h), cs_N7 h, cs_P0_9 h, kd_t (cs_K8 h), cs_N8 h, cs_P0_11 h, kd_t (cs_K9 h), cs_P9_0 h, cs_P9_1 h, kd_t (cs_K10 h), cs_N10 h, cs_P9_3 h, kd_t (cs_K11 h), cs_P11_0 h, kd_t (cs_K12 h), cs_N12 h, cs_P0_12 h, kd_t (cs_K13 h), cs_P13_0 h, kd_t (cs_K14 h), cs_N14 h, cs_P13_2 h, kd_t (cs_K15 h), cs_N15 h, cs_P13_4 h, kd_t (cs_K16 h), cs_N16 h, cs_P0_16 h, kd_t (cs_K17 h), cs_N17 h, cs_P0_17 h, kd_t (cs_K18 h), cs_N18 h, cs_P7_0 h, cs_P7_1 h, cs_P7_2 h, l1_m, l1_a, l1_b, l1_s, l1_e, l1_le, l1_ge, l1_lt, l1_gt, lt_t, nn_t, bd_t, bdD_t, bdP_t, nI_clamp, gi_n, nI_add, nI_1, pk_mul, b2_eq0, b2_01, nb_t, if_true, if_false, ni_le, ni_eq, ni_lt, c_lengthOf v]
      rw [if_pos (Nat.le_refl _)]
theorem em_row (hI : cI x I) (h : CS S x) {r n : Nat} (hr : RWs S r n) (hn : n ≤ 16) {B : List Nat} (hB : ∀ t, t ∈ B → t < 47) (hl : B.length ≤ n) (hd : ∀ d, I d → RWd d r B) : Em x I (fun d => f_Uw_putRow S d (x + 13) (some r)) ([(0, B.length, 0)] ++ rwT B B.length) := by
  refine em_eq (g := fun d => bdD (f_Uw_put S d (x + 13) (nI B.length)) (fun _ e => itr (f_Uw_putRow_B10 S (x + 13)) (fun _ _ _ => none) fu e (some r) 0)) (fun d i => ?_) (em_bd hI (em_put h rfl) ?_)
  · simp only [f_Uw_putRow, nn_t, kd_t hr.k, lt_t, (hd d i).1, kd_t (cs_K13 h)]
  · refine em_itr (B := f_Uw_putRow_B10 S (x + 13)) (fun k e K => K e (some r) (nI k)) (fun k e => f_Uw_putType S e (x + 13) (nI (B.getD k 0))) (fun k => [(1, B.getD k 0, 0)]) (rwT B) B.length (by omega) hI rfl (fun k _ => rfl) (fun k hk => em_type h (hB _ (getD_mem hk)) rfl) ?_ ?_
    · intro k hk e i K
      simp (maxSteps := 1000000) (disch := omega) only [f_Uw_putRow_B10, kd_t (cs_K0 h), cs_P0_0 h, kd_t (cs_K1 h), cs_P1_0 h, kd_t (cs_K2 h), cs_N2 h, cs_P0_1 h, kd_t (cs_K3 h), cs_N3 h, cs_P0_3 h, kd_t (cs_K4 h), cs_N4 h, cs_P0_5 h, kd_t (cs_K5 h), cs_N5 h, cs_P0_6 h, kd_t (cs_K6 h), cs_N6 h, cs_P0_8 h, kd_t (cs_K7 h), cs_N7 h, cs_P0_9 h, kd_t (cs_K8 h), cs_N8 h, cs_P0_11 h, kd_t (cs_K9 h), cs_P9_0 h, cs_P9_1 h, kd_t (cs_K10 h), cs_N10 h, cs_P9_3 h, kd_t (cs_K11 h), cs_P11_0 h, kd_t (cs_K12 h), cs_N12 h, cs_P0_12 h, kd_t (cs_K13 h), cs_P13_0 h, kd_t (cs_K14 h), cs_N14 h, cs_P13_2 h, kd_t (cs_K15 h), cs_N15 h, cs_P13_4 h, kd_t (cs_K16 h), cs_N16 h, cs_P0_16 h, kd_t (cs_K17 h), cs_N17 h, cs_P0_17 h, kd_t (cs_K18 h), cs_N18 h, cs_P7_0 h, cs_P7_1 h, cs_P7_2 h, l1_m, l1_a, l1_b, l1_s, l1_e, l1_le, l1_ge, l1_lt, l1_gt, lt_t, nn_t, bd_t, bdD_t, bdP_t, nI_clamp, gi_n, nI_add, nI_1, pk_mul, b2_eq0, b2_01, nb_t, if_true, if_false, ni_le, ni_eq, ni_lt, kd_t hr.k, (hd e i).1, c_at hr hn (hd e i) hl (show k < 2 ^ 31 by omega)]
      rw [if_neg (by omega)]
    · intro e i K
      simp (maxSteps := 1000000) (disch := omega) only [f_Uw_putRow_B10, kd_t (cs_K0 h), cs_P0_0 h, kd_t (cs_K1 h), cs_P1_0 h, kd_t (cs_K2 h), cs_N2 h, cs_P0_1 h, kd_t (cs_K3 h), cs_N3 h, cs_P0_3 h, kd_t (cs_K4 h), cs_N4 h, cs_P0_5 h, kd_t (cs_K5 h), cs_N5 h, cs_P0_6 h, kd_t (cs_K6 h), cs_N6 h, cs_P0_8 h, kd_t (cs_K7 h), cs_N7 h, cs_P0_9 h, kd_t (cs_K8 h), cs_N8 h, cs_P0_11 h, kd_t (cs_K9 h), cs_P9_0 h, cs_P9_1 h, kd_t (cs_K10 h), cs_N10 h, cs_P9_3 h, kd_t (cs_K11 h), cs_P11_0 h, kd_t (cs_K12 h), cs_N12 h, cs_P0_12 h, kd_t (cs_K13 h), cs_P13_0 h, kd_t (cs_K14 h), cs_N14 h, cs_P13_2 h, kd_t (cs_K15 h), cs_N15 h, cs_P13_4 h, kd_t (cs_K16 h), cs_N16 h, cs_P0_16 h, kd_t (cs_K17 h), cs_N17 h, cs_P0_17 h, kd_t (cs_K18 h), cs_N18 h, cs_P7_0 h, cs_P7_1 h, cs_P7_2 h, l1_m, l1_a, l1_b, l1_s, l1_e, l1_le, l1_ge, l1_lt, l1_gt, lt_t, nn_t, bd_t, bdD_t, bdP_t, nI_clamp, gi_n, nI_add, nI_1, pk_mul, b2_eq0, b2_01, nb_t, if_true, if_false, ni_le, ni_eq, ni_lt, kd_t hr.k, (hd e i).1]
      rw [if_pos (Nat.le_refl _)]
theorem em_mentry (h : CS S x) (b : BI s) {y : Nat} (hy : vx s y) (ho : ∀ d, I d → OM S d x s (A 1 y) y) : Em x I (fun d => f_Uw_putMethodEntry S d (x + 13) (some (A 1 y))) [(2, ow y, nu y)] := by
  intro d w i u p hl
  have o := ho d i
  have ol := o.lo
  have h75 := vx_lt b hy
  have hon := ow_lt h75
  have hk := ve_ow b hy
  have hb := fB_500 p
  have hp := GP_len p
  have e6 : nI (ow y) * 6 = nI (6 * ow y) := by rw [Int32.mul_comm]; exact l6_m _
  have ek1 : nI (47 + 6 * ow y + nu y) = nI (ek (2, ow y, nu y)) := rfl
  obtain ⟨e, f1, c1, w1⟩ := u_entry (k := (2, ow y, nu y)) h u (by have : w.2.length + 1 ≤ 3200 := hl; omega) (by omega) (by omega) hk (v1 := nI (47 + 6 * ow y + nu y)) (v2 := 2) (v3 := nI (ow y)) ek1 rfl rfl
  have n1 : dI e (A 1 y) 1 = nI (nu y) := (c1.2 _ _ (by unfold PUw; omega)).trans o.g1
  have hr : run1 w (2, ow y, nu y) = (ePl w.1 (2, ow y, nu y), w.2 ++ [eIx w.1 (2, ow y, nu y)]) := run1_e (by show (2 : Nat) ≠ 0; omega)
  have hg : GP (run1 w (2, ow y, nu y)).1 := by rw [hr]; exact GP_ePl p hk
  by_cases q : eIx w.1 (2, ow y, nu y) < w.1.length
  · refine ⟨e, ?_, c1, ?_, hg⟩
    · simp (maxSteps := 1000000) (disch := omega) only [f_Uw_putMethodEntry, kd_t (cs_K0 h), cs_P0_0 h, kd_t (cs_K1 h), cs_P1_0 h, kd_t (cs_K2 h), cs_N2 h, cs_P0_1 h, kd_t (cs_K3 h), cs_N3 h, cs_P0_3 h, kd_t (cs_K4 h), cs_N4 h, cs_P0_5 h, kd_t (cs_K5 h), cs_N5 h, cs_P0_6 h, kd_t (cs_K6 h), cs_N6 h, cs_P0_8 h, kd_t (cs_K7 h), cs_N7 h, cs_P0_9 h, kd_t (cs_K8 h), cs_N8 h, cs_P0_11 h, kd_t (cs_K9 h), cs_P9_0 h, cs_P9_1 h, kd_t (cs_K10 h), cs_N10 h, cs_P9_3 h, kd_t (cs_K11 h), cs_P11_0 h, kd_t (cs_K12 h), cs_N12 h, cs_P0_12 h, kd_t (cs_K13 h), cs_P13_0 h, kd_t (cs_K14 h), cs_N14 h, cs_P13_2 h, kd_t (cs_K15 h), cs_N15 h, cs_P13_4 h, kd_t (cs_K16 h), cs_N16 h, cs_P0_16 h, kd_t (cs_K17 h), cs_N17 h, cs_P0_17 h, kd_t (cs_K18 h), cs_N18 h, cs_P7_0 h, cs_P7_1 h, cs_P7_2 h, l0_e, l0_le, l0_ge, l0_lt, l0_gt, l2_m, l2_a, l2_b, l2_s, l2_e, l2_le, l2_ge, l2_lt, l2_gt, l6_m, l6_a, l6_b, l6_s, l6_e, l6_le, l6_ge, l6_lt, l6_gt, l47_m, l47_a, l47_b, l47_s, l47_e, l47_le, l47_ge, l47_lt, l47_gt, lt_t, nn_t, bd_t, bdD_t, bdP_t, nI_clamp, gi_n, nI_add, nI_1, pk_mul, b2_eq0, b2_01, nb_t, if_true, if_false, ni_le, ni_eq, ni_lt, kd_t o.k, o.g0, o.g1, e6, f1]
      rw [decide_eq_false (fun c => c q), if_pos rfl]
    · show UWR e x (run1 w (2, ow y, nu y))
      rw [hr]
      unfold UWR
      rw [if_pos q] at w1
      unfold ePl at w1 ⊢
      rw [if_pos q] at w1 ⊢
      exact w1
  · rw [if_neg q] at w1
    obtain ⟨e2, f2, c2, w2⟩ := u_pool h w1 (by rw [List.length_append, List.length_append]; show _ + 1 + 1 < 512; omega) (v := nu y) rfl
    refine ⟨e2, ?_, ch_t c1 c2, ?_, hg⟩
    · simp (maxSteps := 1000000) (disch := omega) only [f_Uw_putMethodEntry, kd_t (cs_K0 h), cs_P0_0 h, kd_t (cs_K1 h), cs_P1_0 h, kd_t (cs_K2 h), cs_N2 h, cs_P0_1 h, kd_t (cs_K3 h), cs_N3 h, cs_P0_3 h, kd_t (cs_K4 h), cs_N4 h, cs_P0_5 h, kd_t (cs_K5 h), cs_N5 h, cs_P0_6 h, kd_t (cs_K6 h), cs_N6 h, cs_P0_8 h, kd_t (cs_K7 h), cs_N7 h, cs_P0_9 h, kd_t (cs_K8 h), cs_N8 h, cs_P0_11 h, kd_t (cs_K9 h), cs_P9_0 h, cs_P9_1 h, kd_t (cs_K10 h), cs_N10 h, cs_P9_3 h, kd_t (cs_K11 h), cs_P11_0 h, kd_t (cs_K12 h), cs_N12 h, cs_P0_12 h, kd_t (cs_K13 h), cs_P13_0 h, kd_t (cs_K14 h), cs_N14 h, cs_P13_2 h, kd_t (cs_K15 h), cs_N15 h, cs_P13_4 h, kd_t (cs_K16 h), cs_N16 h, cs_P0_16 h, kd_t (cs_K17 h), cs_N17 h, cs_P0_17 h, kd_t (cs_K18 h), cs_N18 h, cs_P7_0 h, cs_P7_1 h, cs_P7_2 h, l0_e, l0_le, l0_ge, l0_lt, l0_gt, l2_m, l2_a, l2_b, l2_s, l2_e, l2_le, l2_ge, l2_lt, l2_gt, l6_m, l6_a, l6_b, l6_s, l6_e, l6_le, l6_ge, l6_lt, l6_gt, l47_m, l47_a, l47_b, l47_s, l47_e, l47_le, l47_ge, l47_lt, l47_gt, lt_t, nn_t, bd_t, bdD_t, bdP_t, nI_clamp, gi_n, nI_add, nI_1, pk_mul, b2_eq0, b2_01, nb_t, if_true, if_false, ni_le, ni_eq, ni_lt, kd_t o.k, o.g0, o.g1, e6, f1, n1, f2]
      rw [decide_eq_true q, if_neg (by decide)]
    · show UWR e2 x (run1 w (2, ow y, nu y))
      rw [hr]
      unfold UWR
      have : fB (ePl w.1 (2, ow y, nu y)) = fB w.1 ++ [2] ++ [ow y] ++ [nu y] := by
        unfold ePl
        rw [if_neg q, fB_app, List.append_assoc, List.append_assoc]; rfl
      rw [this]; exact w2
theorem em_prm (hI : cI x I) (h : CS S x) (b : BI s) {y : Nat} (hy : vx s y) (ho : ∀ d, I d → OM S d x s (A 1 y) y) : Em x I (fun d => f_Uw_putParameterCode S d (x + 13) (some (A 1 y))) (prm s y (tc s y)) := by
  have ht := tc_le s y
  refine em_itr (B := f_Uw_putParameterCode_B4 S (x + 13)) (fun k e K => K e (some (A 1 y)) (nI (plc s y k)) (nI k)) (fun k => if pln (s 15 (3 * y + k)) then (fun e => bdD (f_Uw_put S e (x + 13) 6) fun _ e => bdD (f_Uw_put S e (x + 13) 7) fun _ e => bdD (f_Uw_put S e (x + 13) (nI k)) fun _ e => bdD (f_Uw_put S e (x + 13) 8) fun _ e => bdD (f_Uw_put S e (x + 13) (nI (plc s y k))) fun _ e => bdD (f_Uw_put S e (x + 13) 9) fun _ e => bdD (f_Uw_put S e (x + 13) (nI (s 15 (3 * y + k)))) fun _ e => f_Uw_put S e (x + 13) 10) else (fun e => bdD (f_Uw_put S e (x + 13) 6) fun _ e => bdD (f_Uw_put S e (x + 13) 7) fun _ e => bdD (f_Uw_put S e (x + 13) (nI k)) fun _ e => bdD (f_Uw_put S e (x + 13) 8) fun _ e => bdD (f_Uw_put S e (x + 13) (nI (plc s y k))) fun _ e => f_Uw_put S e (x + 13) 10)) (prm1 s y) (prm s y) (tc s y) (by omega) hI rfl (fun k _ => rfl) ?_ ?_ ?_
  · intro k hk
    unfold prm1
    cases pln (s 15 (3 * y + k)) with
    | true =>
      rw [if_pos rfl, if_pos rfl]
      refine em_cg ?_ (em_bd hI (em_put h (v := 6) rfl) (em_bd hI (em_put h (v := 7) rfl) (em_bd hI (em_put h (v := k) rfl) (em_bd hI (em_put h (v := 8) rfl) (em_bd hI (em_put h (v := plc s y k) rfl) (em_bd hI (em_put h (v := 9) rfl) (em_bd hI (em_put h (v := s 15 (3 * y + k)) rfl) (em_put h (v := 10) rfl))))))))
      rfl
    | false =>
      rw [if_neg (by decide), if_neg (by decide)]
      refine em_cg ?_ (em_bd hI (em_put h (v := 6) rfl) (em_bd hI (em_put h (v := 7) rfl) (em_bd hI (em_put h (v := k) rfl) (em_bd hI (em_put h (v := 8) rfl) (em_bd hI (em_put h (v := plc s y k) rfl) (em_put h (v := 10) rfl))))))
      rfl
  · intro k hk e i K
    have o := ho e i
    have hT := b.takeT y k hy (by omega)
    have hub : ub (pkp s y) k = s 15 (3 * y + k) := pkp_ub b hy k (by omega)
    have hby := c_byteOf (S := S) (d := e) (pkp s y) (show k < 4 by omega)
    rw [hub] at hby
    have hpc : f_Om_parameterCount S e (A 1 y) = some (nI (tc s y)) := by
      simp only [f_Om_parameterCount, kd_t o.k, lt_t, o.g3, c_lengthOf, bd_t, pkp_ln b hy]
    have hpl : ∀ e', f_M_isPlain S e' (nI (s 15 (3 * y + k))) = some (b2 (pln (s 15 (3 * y + k)))) := fun e' => c_pl (by omega)
    have j89 : ∀ e', f_Uw_putParameterCode_J70 S (x + 13) K e' (some (A 1 y)) (nI (plc s y k)) (nI k) (nI (s 15 (3 * y + k))) = bdD (f_Uw_put S e' (x + 13) 10) (fun _ e => K e (some (A 1 y)) (nI (plc s y (k + 1))) (nI (k + 1))) := by
      intro e'
      have hst : plc s y (k + 1) = plc s y k + if s 15 (3 * y + k) = 6 then 2 else 1 := rfl
      simp only [f_Uw_putParameterCode_J70, f_Uw_putParameterCode_J89, kd_t (cs_K13 h), l6_e _ (show s 15 (3 * y + k) < 2 ^ 31 by omega), l1_a, l2_a]
      rw [hst]
      by_cases q : s 15 (3 * y + k) = 6
      · simp only [if_pos q]
      · simp only [if_neg q]
    simp only [f_Uw_putParameterCode_B4, nn_t, kd_t o.k, hpc, bd_t, lt_t, o.g3, hby, kd_t (cs_K13 h), hpl, b2_eq0, j89, ni_le _ _ (show tc s y < 2 ^ 31 by omega) (show k < 2 ^ 31 by omega)]
    rw [if_neg (by omega)]
    have asc : ∀ (a : Option (Unit × gD)) (f g : Unit → gD → Option (Unit × gD)), bdD (bdD a f) g = bdD a (fun u e => bdD (f u e) g) := by
      intro a f g
      cases a with
      | none => rfl
      | some q => rfl
    cases pln (s 15 (3 * y + k)) with
    | true =>
      simp only [Bool.true_eq_false, if_true, if_false, asc]
    | false =>
      simp only [Bool.false_eq_true, if_true, if_false, asc]
  · intro e i K
    have o := ho e i
    have hpc : f_Om_parameterCount S e (A 1 y) = some (nI (tc s y)) := by
      simp only [f_Om_parameterCount, kd_t o.k, lt_t, o.g3, c_lengthOf, bd_t, pkp_ln b hy]
    simp only [f_Uw_putParameterCode_B4, nn_t, kd_t o.k, hpc, bd_t, ni_le _ _ (show tc s y < 2 ^ 31 by omega) (show tc s y < 2 ^ 31 by omega)]
    rw [if_pos (Nat.le_refl _)]
end em
