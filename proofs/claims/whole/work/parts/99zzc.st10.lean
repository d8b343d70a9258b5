theorem gi0 (n : Nat) {α : Type} {r : Option α} (h : 0 < n) (hn : n < 2 ^ 31) : gi 0 n r = r := gi_n (k := 0) h hn
theorem gi1 (n : Nat) {α : Type} {r : Option α} (h : 1 < n) (hn : n < 2 ^ 31) : gi 1 n r = r := gi_n (k := 1) h hn
theorem gi2 (n : Nat) {α : Type} {r : Option α} (h : 2 < n) (hn : n < 2 ^ 31) : gi 2 n r = r := gi_n (k := 2) h hn
theorem fm_nZ {P : Nat → Nat → Prop} {S : gS} {d : gD} : Fm P S d (nZ S) d := ⟨by show S.2.2.2 ≤ S.2.2.2 + 1; omega, fun a _ => ⟨rfl, rfl, fun j _ => ⟨rfl, rfl, rfl⟩⟩⟩
section st
variable {S S1 : gS} {d d1 : gD} {x : Nat} {s s' : Nat → Nat → Nat} {A A' : Nat → Nat → Nat} {hd : Nat → Int32} {q : (Nat → Int64) × Int64 × (Nat → Int64) × (Nat → Int32)}
theorem iv_sw {P : Nat → Nat → Prop} (h : IV S d x s A q) (g : Fm P S d S1 d1) (hP : ∀ a j, P a j → a = x + 17 ∨ a = x + 64) : IV S1 d1 x s A q := by
  have hx := h.g1.ce.hx
  exact ⟨g1_sw g h.g1 (fun a j p => by have := hP a j p; unfold SW; omega), g2_fm g h.g2 hx (fun a j p => by have := hP a j p; omega), rp_cf g h.rp hx (fun a j p => by have := hP a j p; omega), h.b, h.sv, ⟨(fm_K g hx).trans h.ok.1, (fm_N g hx).trans h.ok.2⟩⟩
theorem bw_box (b : BI s) {a r : Nat} (ha : a < 2 ^ 31) (hr : pln r = true) : bw s (nI a) (nI (r + 40)) = decide (a = 40 + r) := by
  have hr' : 1 ≤ r ∧ r ≤ 6 := by
    unfold pln at hr
    simpa using hr
  have hc := b.classes
  have hF := b.faces
  rw [bw_nI b ha (by omega)]
  by_cases w : a = 40 + r
  · rw [decide_eq_true w]; exact pb_t (.inl (by omega))
  · rw [decide_eq_false w]
    apply pb_f
    rintro (e | ⟨-, e⟩)
    · omega
    · rcases Rch_l e with e | ⟨c, -, e⟩
      · omega
      · have h1 := te_lt b e
        rcases e with u | u | u
        · have := b.parentC c u.1 u.2.1; omega
        · rcases u.2.2 with v | ⟨g, v, v2⟩
          · omega
          · have := fe_lt b v; omega
        · omega
theorem caO_any {y : Nat} {w : Nat → Int64} : ∀ n, caO s y w n = !anyb (fun k => !tkO s (s 15 (3 * y + k)) (w k)) n := by
  intro n
  induction n with
  | zero => rfl
  | succ n ih => unfold caO; rw [anyb_s, ih]; cases anyb (fun k => !tkO s (s 15 (3 * y + k)) (w k)) n <;> cases tkO s (s 15 (3 * y + n)) (w n) <;> rfl
theorem c_objBelow (h : CS S x) (g : G2 d x s q) (b : BI s) {t : Nat} (v : Int64) : f_M_isObjectBelow S d x v (nI t) = some (b2 (wi s v && bw s (nI (s 19 v.toInt32.toNatClampNeg)) (nI t))) := by
  have hO := b.objects
  cases hw : wi s v with
  | false =>
    have hw' : lg_cmp v 0 < 0 ∨ 0 ≤ lg_cmp v (Int32.toInt64 (nI (s 18 0))) := by
      unfold wi at hw
      rw [Bool.and_eq_false_iff, Bool.not_eq_false', Bool.not_eq_false', decide_eq_true_iff, decide_eq_true_iff] at hw
      exact hw
    simp only [f_M_isObjectBelow, kd_t (cs_K0 h), lt_t, g.o1]
    rw [Bool.false_and]
    by_cases c : lg_cmp v 0 < 0
    · rw [if_pos c]; rfl
    · rw [if_neg c, if_pos (hw'.resolve_left c)]; rfl
  | true =>
    obtain ⟨j, hj, ej⟩ := wi_ix b hw
    have hw' : ¬ lg_cmp v 0 < 0 ∧ ¬ 0 ≤ lg_cmp v (Int32.toInt64 (nI (s 18 0))) := by
      unfold wi at hw
      rw [Bool.and_eq_true, Bool.not_eq_true', Bool.not_eq_true', decide_eq_false_iff_not, decide_eq_false_iff_not] at hw
      exact hw
    rw [ej, nI_clamp (show j < 2 ^ 31 by omega), Bool.true_and]
    simp (maxSteps := 1000000) (disch := omega) only [f_M_isObjectBelow, kd_t (cs_K0 h), cs_P0_0 h, kd_t (cs_K1 h), cs_P1_0 h, kd_t (cs_K2 h), cs_N2 h, cs_P0_1 h, kd_t (cs_K3 h), cs_N3 h, cs_P0_3 h, kd_t (cs_K4 h), cs_N4 h, cs_P0_5 h, kd_t (cs_K5 h), cs_N5 h, cs_P0_6 h, kd_t (cs_K6 h), cs_N6 h, cs_P0_8 h, kd_t (cs_K7 h), cs_N7 h, cs_P0_9 h, kd_t (cs_K8 h), cs_N8 h, cs_P0_11 h, kd_t (cs_K9 h), cs_P9_0 h, cs_P9_1 h, kd_t (cs_K10 h), cs_N10 h, cs_P9_3 h, kd_t (cs_K11 h), cs_P11_0 h, kd_t (cs_K12 h), cs_N12 h, cs_P0_12 h, kd_t (cs_K13 h), cs_P13_0 h, kd_t (cs_K14 h), cs_N14 h, cs_P13_2 h, kd_t (cs_K15 h), cs_N15 h, cs_P13_4 h, kd_t (cs_K16 h), cs_N16 h, cs_P0_16 h, kd_t (cs_K17 h), cs_N17 h, cs_P0_17 h, kd_t (cs_K18 h), cs_N18 h, cs_P7_0 h, cs_P7_1 h, cs_P7_2 h, lt_t, nn_t, bd_t, bdD_t, bdP_t, nI_clamp, gi_n, nI_add, nI_1, pk_mul, b2_eq0, b2_01, nb_t, if_true, if_false, ni_le, ni_eq, ni_lt, g.o1, ej, g.o2 j hj, c_isBelow h g.t b]
    rw [if_neg hw'.1, if_neg hw'.2]
    cases bw s (nI (s 19 j)) (nI t) <;> rfl
theorem c_takesGiven (h : CS S x) (g : G2 d x s q) (b : BI s) {y : Nat} (hy : vx s y) (o : OM S d x s (A 1 y) y) {w : Nat → Int64} (hw : ∀ k, k < 3 → dL d (x + 17) k = w k) : f_M_takesGiven S d x (some (A 1 y)) = some (b2 (caO s y w (tc s y))) := by
  have ht := tc_le s y
  have hpc : f_Om_parameterCount S d (A 1 y) = some (nI (tc s y)) := by
    simp only [f_Om_parameterCount, kd_t o.k, lt_t, o.g3, c_lengthOf, bd_t, pkp_ln b hy]
  have body : ∀ k, k < tc s y → ∀ K, f_M_takesGiven_B2 S d x K (some (A 1 y)) (nI k) = if tkO s (s 15 (3 * y + k)) (w k) then K (some (A 1 y)) (nI (k + 1)) else some 0 := by
    intro k hk K
    have hT := b.takeT y k hy (by omega)
    have hby := c_byteOf (S := S) (d := d) (pkp s y) (show k < 4 by omega)
    rw [pkp_ub b hy k (by omega)] at hby
    simp (maxSteps := 1000000) (disch := omega) only [f_M_takesGiven_B2, f_M_takesGiven_J55, kd_t (cs_K0 h), cs_P0_0 h, kd_t (cs_K1 h), cs_P1_0 h, kd_t (cs_K2 h), cs_N2 h, cs_P0_1 h, kd_t (cs_K3 h), cs_N3 h, cs_P0_3 h, kd_t (cs_K4 h), cs_N4 h, cs_P0_5 h, kd_t (cs_K5 h), cs_N5 h, cs_P0_6 h, kd_t (cs_K6 h), cs_N6 h, cs_P0_8 h, kd_t (cs_K7 h), cs_N7 h, cs_P0_9 h, kd_t (cs_K8 h), cs_N8 h, cs_P0_11 h, kd_t (cs_K9 h), cs_P9_0 h, cs_P9_1 h, kd_t (cs_K10 h), cs_N10 h, cs_P9_3 h, kd_t (cs_K11 h), cs_P11_0 h, kd_t (cs_K12 h), cs_N12 h, cs_P0_12 h, kd_t (cs_K13 h), cs_P13_0 h, kd_t (cs_K14 h), cs_N14 h, cs_P13_2 h, kd_t (cs_K15 h), cs_N15 h, cs_P13_4 h, kd_t (cs_K16 h), cs_N16 h, cs_P0_16 h, kd_t (cs_K17 h), cs_N17 h, cs_P0_17 h, kd_t (cs_K18 h), cs_N18 h, cs_P7_0 h, cs_P7_1 h, cs_P7_2 h, lt_t, nn_t, bd_t, bdD_t, bdP_t, nI_clamp, gi_n, nI_add, nI_1, pk_mul, b2_eq0, b2_01, nb_t, if_true, if_false, ni_le, ni_eq, ni_lt, kd_t o.k, hpc, o.g3, hby, c_pl (show s 15 (3 * y + k) < 2 ^ 31 by omega), hw k (by omega), c_objBelow h g b, l1_a]
    rw [if_neg (by omega)]
    unfold tkO
    cases pln (s 15 (3 * y + k)) with
    | true => rfl
    | false =>
      rw [if_pos rfl, Bool.false_or]
      by_cases c : lg_cmp (w k) (-1) = 0
      · rw [if_pos c, decide_eq_true c]; rfl
      · rw [if_neg c, decide_eq_false c, Bool.false_or]
        cases (wi s (w k) && bw s (nI (s 19 (w k).toInt32.toNatClampNeg)) (nI (s 15 (3 * y + k)))) <;> rfl
  unfold f_M_takesGiven
  rw [caO_any]
  refine itr_f (B := f_M_takesGiven_B2 S d x) (fun k K => K (some (A 1 y)) (nI k)) (fun k => !tkO s (s 15 (3 * y + k)) (w k)) (tc s y) _ (by omega) ?_ ?_ ?_
  · intro k hk hp K hK
    rw [Bool.not_eq_false'] at hp
    rw [body k hk, hp, if_pos rfl]; exact hK
  · intro k hk hp he K
    rw [Bool.not_eq_true'] at hp
    rw [body k hk, hp, if_neg (by decide)]
    unfold anyb; rw [he, decide_eq_true hk]; rfl
  · intro he K
    simp (maxSteps := 1000000) (disch := omega) only [f_M_takesGiven_B2, kd_t (cs_K0 h), cs_P0_0 h, kd_t (cs_K1 h), cs_P1_0 h, kd_t (cs_K2 h), cs_N2 h, cs_P0_1 h, kd_t (cs_K3 h), cs_N3 h, cs_P0_3 h, kd_t (cs_K4 h), cs_N4 h, cs_P0_5 h, kd_t (cs_K5 h), cs_N5 h, cs_P0_6 h, kd_t (cs_K6 h), cs_N6 h, cs_P0_8 h, kd_t (cs_K7 h), cs_N7 h, cs_P0_9 h, kd_t (cs_K8 h), cs_N8 h, cs_P0_11 h, kd_t (cs_K9 h), cs_P9_0 h, cs_P9_1 h, kd_t (cs_K10 h), cs_N10 h, cs_P9_3 h, kd_t (cs_K11 h), cs_P11_0 h, kd_t (cs_K12 h), cs_N12 h, cs_P0_12 h, kd_t (cs_K13 h), cs_P13_0 h, kd_t (cs_K14 h), cs_N14 h, cs_P13_2 h, kd_t (cs_K15 h), cs_N15 h, cs_P13_4 h, kd_t (cs_K16 h), cs_N16 h, cs_P0_16 h, kd_t (cs_K17 h), cs_N17 h, cs_P0_17 h, kd_t (cs_K18 h), cs_N18 h, cs_P7_0 h, cs_P7_1 h, cs_P7_2 h, lt_t, nn_t, bd_t, bdD_t, bdP_t, nI_clamp, gi_n, nI_add, nI_1, pk_mul, b2_eq0, b2_01, nb_t, if_true, if_false, ni_le, ni_eq, ni_lt, kd_t o.k, hpc]
    rw [if_pos (Nat.le_refl _)]
    unfold anyb; rw [he, decide_eq_false (Nat.lt_irrefl _)]; rfl
theorem c_fillJ {a n : Nat} (hk : sK S a = 51) (hn : sN S a = n) (h6 : n < 6000) (v : Int64) : ∃ e, f_Ar_fillJ S d (some a) v = some ((), e) ∧ (∀ b j, dI e b j = dI d b j) ∧ (∀ b j, b ≠ a → dL e b j = dL d b j) ∧ ∀ i, i < n → dL e a i = v := by
  simp only [f_Ar_fillJ, nn_t, kd_t hk, hn]
  rw [show Int32.ofNat n = nI n from rfl]
  refine itr_q (B := f_Ar_fillJ_B6 S) (fun (y : gD × Nat) K => K y.1 (some a) v (nI y.2) (nI n)) (fun t => ∃ e, t = some ((), e) ∧ (∀ b j, dI e b j = dI d b j) ∧ (∀ b j, b ≠ a → dL e b j = dL d b j) ∧ ∀ i, i < n → dL e a i = v) (fun k y => y.2 = k ∧ (∀ b j, dI y.1 b j = dI d b j) ∧ (∀ b j, b ≠ a → dL y.1 b j = dL d b j) ∧ ∀ i, i < k → dL y.1 a i = v) n h6 ?_ ?_ (x := (d, 0)) ⟨rfl, fun _ _ => rfl, fun _ _ _ => rfl, fun i hi => absurd hi (Nat.not_lt_zero _)⟩
  · rintro k hkk ⟨e, k'⟩ ⟨rfl, h1, h2, h3⟩ K hK
    simp only at hkk h1 h2 h3 hK ⊢
    simp (maxSteps := 1000000) (disch := omega) only [f_Ar_fillJ_B6, l1_m, l1_a, l1_b, l1_s, l1_e, l1_le, l1_ge, l1_lt, l1_gt, lt_t, nn_t, bd_t, bdD_t, bdP_t, nI_clamp, gi_n, nI_add, nI_1, pk_mul, b2_eq0, b2_01, nb_t, if_true, if_false, ni_le, ni_eq, ni_lt, kd_t hk, hn]
    rw [if_neg (by omega)]
    refine hK (wL e a k' v, k' + 1) ⟨rfl, fun b j => (dI_wL).trans (h1 b j), fun b j hb => by rw [dL_wL, if_neg (fun w => hb w.1)]; exact h2 b j hb, fun i hi => ?_⟩
    rw [dL_wL]
    by_cases c : i = k'
    · rw [if_pos ⟨rfl, c⟩]
    · rw [if_neg (fun w => c w.2)]; exact h3 i (by omega)
  · rintro ⟨e, k'⟩ ⟨rfl, h1, h2, h3⟩ K
    simp only at h1 h2 h3 ⊢
    simp (maxSteps := 1000000) (disch := omega) only [f_Ar_fillJ_B6, l1_m, l1_a, l1_b, l1_s, l1_e, l1_le, l1_ge, l1_lt, l1_gt, lt_t, nn_t, bd_t, bdD_t, bdP_t, nI_clamp, gi_n, nI_add, nI_1, pk_mul, b2_eq0, b2_01, nb_t, if_true, if_false, ni_le, ni_eq, ni_lt]
    rw [if_pos (Nat.le_refl _)]
    exact ⟨e, rfl, h1, h2, h3⟩
def Sn (x : Nat) (d e : gD) : Prop := (∀ a j, dI e a j = dI d a j) ∧ ∀ a j, a ≠ x + 18 → dL e a j = dL d a j
theorem sn_t {e f : gD} (h : Sn x d e) (g : Sn x e f) : Sn x d f := ⟨fun a j => (g.1 a j).trans (h.1 a j), fun a j ha => (g.2 a j ha).trans (h.2 a j ha)⟩
theorem sn_w {k : Nat} {v : Int64} : Sn x d (wL d (x + 18) k v) := ⟨fun _ _ => dI_wL, fun a j ha => by rw [dL_wL, if_neg (fun w => ha w.1)]⟩
theorem g2_sn {e : gD} (h : Sn x d e) (g : G2 d x s q) (q2 : Nat → Int64) (hs : ∀ j, j < 9 → dL e (x + 18) j = q2 j) : G2 e x s (q.1, q.2.1, q2, q.2.2.2) :=
  ⟨⟨(h.1 _ _).trans g.cl.1, (h.1 _ _).trans g.cl.2.1, fun i h0 hi => (h.1 _ _).trans (g.cl.2.2 i h0 hi)⟩, ⟨(h.1 _ _).trans g.t.1, fun a c ha hc => by rw [h.2 _ _ (by omega)]; exact g.t.2 a c ha hc⟩, (h.1 _ _).trans g.o1, fun i hi => (h.1 _ _).trans (g.o2 i hi), fun i hi => (h.2 _ _ (by omega)).trans (g.o3 i hi), (h.1 _ _).trans g.fa, (h.2 _ _ (by omega)).trans g.oc, hs⟩
theorem c_showHandler (h : CS S x) (g : G2 d x s q) (b : BI s) {y : Nat} (hy : vx s y) (o : OM S d x s (A 1 y) y) {w : Nat → Int64} (hw : ∀ k, k < 3 → dL d (x + 17) k = w k) (ok : caO s y w (tc s y) = true) : ∃ e, f_M_showHandler S d x (some (A 1 y)) = some ((), e) ∧ Sn x d e ∧ ∀ j, j < 9 → dL e (x + 18) j = snV s q.1 y w j := by
  have ht := tc_le s y
  have hO := b.objects
  obtain ⟨e0, f0, i0, l0, v0⟩ := c_fillJ (S := S) (d := d) (a := x + 18) (n := 9) (cs_K18 h) (cs_N18 h) (by omega) (-1)
  have hok : ∀ k, k < tc s y → tkO s (s 15 (3 * y + k)) (w k) = true := by
    intro k hk
    cases c : tkO s (s 15 (3 * y + k)) (w k) with
    | true => rfl
    | false =>
      rw [caO_any] at ok
      have : anyb (fun k => !tkO s (s 15 (3 * y + k)) (w k)) (tc s y) = true := (anyb_iff _ _).mpr ⟨k, hk, by rw [c]; rfl⟩
      rw [this] at ok; exact absurd ok (by decide)
  have hpc : ∀ e, (∀ a j, dI e a j = dI d a j) → f_Om_parameterCount S e (A 1 y) = some (nI (tc s y)) := by
    intro e he
    simp only [f_Om_parameterCount, kd_t o.k, lt_t, he, o.g3, c_lengthOf, bd_t, pkp_ln b hy]
  have s0 : Sn x d e0 := ⟨i0, l0⟩
  have s1 : Sn x d (wL (wL (wL e0 (x + 18) 0 (Int32.toInt64 (nI (ow y)))) (x + 18) 1 (Int32.toInt64 (nI (nu y)))) (x + 18) 2 (Int32.toInt64 (nI (tc s y)))) := sn_t (sn_t (sn_t s0 sn_w) sn_w) sn_w
  have in9 : ∀ j, j < 9 → dL (wL (wL (wL e0 (x + 18) 0 (Int32.toInt64 (nI (ow y)))) (x + 18) 1 (Int32.toInt64 (nI (nu y)))) (x + 18) 2 (Int32.toInt64 (nI (tc s y)))) (x + 18) j = if j < 3 then snV s q.1 y w j else -1 := by
    intro j hj
    unfold snV
    by_cases c2 : j = 2
    · rw [c2, dL_wL, if_pos ⟨rfl, rfl⟩, if_pos (by omega), if_neg (by omega), if_neg (by omega), if_pos rfl]
    · rw [dL_wL, if_neg (fun z => c2 z.2)]
      by_cases c1 : j = 1
      · rw [c1, dL_wL, if_pos ⟨rfl, rfl⟩, if_pos (by omega), if_neg (by omega), if_pos rfl]
      · rw [dL_wL, if_neg (fun z => c1 z.2)]
        by_cases c0 : j = 0
        · rw [c0, dL_wL, if_pos ⟨rfl, rfl⟩, if_pos (by omega), if_pos rfl]
        · rw [dL_wL, if_neg (fun z => c0 z.2), if_neg (by omega)]; exact v0 j hj
  have loop : ∀ z, ∃ e, itr (f_M_showHandler_B45 S x) z fu (wL (wL (wL e0 (x + 18) 0 (Int32.toInt64 (nI (ow y)))) (x + 18) 1 (Int32.toInt64 (nI (nu y)))) (x + 18) 2 (Int32.toInt64 (nI (tc s y)))) (some (A 1 y)) 0 = some ((), e) ∧ Sn x d e ∧ ∀ j, j < 9 → dL e (x + 18) j = snV s q.1 y w j := by
    intro z
    refine itr_q (B := f_M_showHandler_B45 S x) (fun (p : gD × Nat) K => K p.1 (some (A 1 y)) (nI p.2)) (fun t => ∃ e, t = some ((), e) ∧ Sn x d e ∧ ∀ j, j < 9 → dL e (x + 18) j = snV s q.1 y w j) (fun k p => p.2 = k ∧ Sn x d p.1 ∧ ∀ j, j < 9 → dL p.1 (x + 18) j = if j < 3 ∨ (j < 6 ∧ j < 3 + k) ∨ (6 ≤ j ∧ j < 6 + k) then snV s q.1 y w j else -1) (tc s y) (by omega) ?_ ?_ (x := (wL (wL (wL e0 (x + 18) 0 (Int32.toInt64 (nI (ow y)))) (x + 18) 1 (Int32.toInt64 (nI (nu y)))) (x + 18) 2 (Int32.toInt64 (nI (tc s y))), 0)) ⟨rfl, s1, fun j hj => ?_⟩
    · rintro k hk ⟨e, k'⟩ ⟨rfl, hs, hv⟩ K hK
      simp only at hk hs hv hK ⊢
      have ge := g2_sn hs g (fun j => dL e (x + 18) j) (fun _ _ => rfl)
      have hT := b.takeT y k' hy (by omega)
      have hby := c_byteOf (S := S) (d := e) (pkp s y) (show k' < 4 by omega)
      rw [pkp_ub b hy k' (by omega)] at hby
      have hwe : dL e (x + 17) k' = w k' := (hs.2 _ _ (by omega)).trans (hw k' (by omega))
      have hs3 : snV s q.1 y w (3 + k') = Int32.toInt64 (aT s (s 15 (3 * y + k')) (w k')) := by
        unfold snV
        rw [if_neg (by omega), if_neg (by omega), if_neg (by omega), if_pos (by omega), show 3 + k' - 3 = k' by omega, if_pos hk]
      have hs6 : snV s q.1 y w (6 + k') = aV q.1 (s 15 (3 * y + k')) (w k') := by
        unfold snV
        rw [if_neg (by omega), if_neg (by omega), if_neg (by omega), if_neg (by omega), show 6 + k' - 6 = k' by omega, if_pos hk]
      have fin : ∀ v3 v6, v3 = snV s q.1 y w (3 + k') → v6 = snV s q.1 y w (6 + k') → ∃ e2, K (wL (wL e (x + 18) (3 + k') v3) (x + 18) (6 + k') v6) (some (A 1 y)) (nI (k' + 1)) = some ((), e2) ∧ Sn x d e2 ∧ ∀ j, j < 9 → dL e2 (x + 18) j = snV s q.1 y w j := by
        intro v3 v6 e3 e6
        refine hK (wL (wL e (x + 18) (3 + k') v3) (x + 18) (6 + k') v6, k' + 1) ⟨rfl, sn_t (sn_t hs sn_w) sn_w, fun j hj => ?_⟩
        rw [dL_wL]
        by_cases c6 : j = 6 + k'
        · rw [if_pos ⟨rfl, c6⟩, if_pos (by omega), c6]; exact e6
        · rw [if_neg (fun z => c6 z.2), dL_wL]
          by_cases c3 : j = 3 + k'
          · rw [if_pos ⟨rfl, c3⟩, if_pos (by omega), c3]; exact e3
          · rw [if_neg (fun z => c3 z.2), hv j hj]
            by_cases cc : j < 3 ∨ (j < 6 ∧ j < 3 + k') ∨ (6 ≤ j ∧ j < 6 + k')
            · rw [if_pos cc, if_pos (by omega)]
            · rw [if_neg cc, if_neg (by omega)]
      have tko := hok k' hk
      have hd : ∀ a j, dI e a j = dI d a j := hs.1
      cases hp : pln (s 15 (3 * y + k')) with
      | true =>
        have l17 : dL (wL e (x + 18) (3 + k') (Int32.toInt64 (nI (s 15 (3 * y + k') + 40)))) (x + 17) k' = w k' := by rw [dL_wL, if_neg (by omega)]; exact hwe
        simp (maxSteps := 1000000) (disch := omega) only [f_M_showHandler_B45, f_M_showHandler_J116, kd_t (cs_K0 h), cs_P0_0 h, kd_t (cs_K1 h), cs_P1_0 h, kd_t (cs_K2 h), cs_N2 h, cs_P0_1 h, kd_t (cs_K3 h), cs_N3 h, cs_P0_3 h, kd_t (cs_K4 h), cs_N4 h, cs_P0_5 h, kd_t (cs_K5 h), cs_N5 h, cs_P0_6 h, kd_t (cs_K6 h), cs_N6 h, cs_P0_8 h, kd_t (cs_K7 h), cs_N7 h, cs_P0_9 h, kd_t (cs_K8 h), cs_N8 h, cs_P0_11 h, kd_t (cs_K9 h), cs_P9_0 h, cs_P9_1 h, kd_t (cs_K10 h), cs_N10 h, cs_P9_3 h, kd_t (cs_K11 h), cs_P11_0 h, kd_t (cs_K12 h), cs_N12 h, cs_P0_12 h, kd_t (cs_K13 h), cs_P13_0 h, kd_t (cs_K14 h), cs_N14 h, cs_P13_2 h, kd_t (cs_K15 h), cs_N15 h, cs_P13_4 h, kd_t (cs_K16 h), cs_N16 h, cs_P0_16 h, kd_t (cs_K17 h), cs_N17 h, cs_P0_17 h, kd_t (cs_K18 h), cs_N18 h, cs_P7_0 h, cs_P7_1 h, cs_P7_2 h, lt_t, nn_t, bd_t, bdD_t, bdP_t, nI_clamp, gi_n, nI_add, nI_1, pk_mul, b2_eq0, b2_01, nb_t, if_true, if_false, ni_le, ni_eq, ni_lt, kd_t o.k, hpc e hd, hd, o.g3, hby, c_pl (show s 15 (3 * y + k') < 2 ^ 31 by omega), hp, l3_b, l6_b, l40_a, l17, c_fitted, l1_a]
        rw [if_neg (by omega), if_neg (by decide)]
        refine fin _ _ ?_ ?_
        · rw [hs3]; unfold aT; rw [hp, if_pos rfl, Nat.add_comm]
        · rw [hs6]; unfold aV; rw [hp, if_pos rfl]
      | false =>
        unfold tkO at tko
        rw [hp, Bool.false_or] at tko
        by_cases cm : lg_cmp (w k') (-1) = 0
        · have ew : w k' = -1 := (lg_cmp_eq _ _).mp cm
          have e32 : (-1 : Int64).toInt32 = -1 := by decide
          have cn : cIn 0 (nI (s 18 0)) (-1) = false := by unfold cIn; rw [show decide ((0 : Int32) ≤ -1) = false by decide]; rfl
          have so : f_M_showObject S e x (nI k') (Int64.toInt32 (w k')) = some ((), wL (wL e (x + 18) (3 + k') (-1)) (x + 18) (6 + k') 0) := by
            rw [ew, e32]
            simp (maxSteps := 1000000) (disch := omega) only [f_M_showObject, f_M_showObject_J33, f_M_showObject_J56, kd_t (cs_K0 h), cs_P0_0 h, kd_t (cs_K1 h), cs_P1_0 h, kd_t (cs_K2 h), cs_N2 h, cs_P0_1 h, kd_t (cs_K3 h), cs_N3 h, cs_P0_3 h, kd_t (cs_K4 h), cs_N4 h, cs_P0_5 h, kd_t (cs_K5 h), cs_N5 h, cs_P0_6 h, kd_t (cs_K6 h), cs_N6 h, cs_P0_8 h, kd_t (cs_K7 h), cs_N7 h, cs_P0_9 h, kd_t (cs_K8 h), cs_N8 h, cs_P0_11 h, kd_t (cs_K9 h), cs_P9_0 h, cs_P9_1 h, kd_t (cs_K10 h), cs_N10 h, cs_P9_3 h, kd_t (cs_K11 h), cs_P11_0 h, kd_t (cs_K12 h), cs_N12 h, cs_P0_12 h, kd_t (cs_K13 h), cs_P13_0 h, kd_t (cs_K14 h), cs_N14 h, cs_P13_2 h, kd_t (cs_K15 h), cs_N15 h, cs_P13_4 h, kd_t (cs_K16 h), cs_N16 h, cs_P0_16 h, kd_t (cs_K17 h), cs_N17 h, cs_P0_17 h, kd_t (cs_K18 h), cs_N18 h, cs_P7_0 h, cs_P7_1 h, cs_P7_2 h, lt_t, nn_t, bd_t, bdD_t, bdP_t, nI_clamp, gi_n, nI_add, nI_1, pk_mul, b2_eq0, b2_01, nb_t, if_true, if_false, ni_le, ni_eq, ni_lt, ge.o1, c_within, cn, l3_b, l6_b]
          simp (maxSteps := 1000000) (disch := omega) only [f_M_showHandler_B45, f_M_showHandler_J116, kd_t (cs_K0 h), cs_P0_0 h, kd_t (cs_K1 h), cs_P1_0 h, kd_t (cs_K2 h), cs_N2 h, cs_P0_1 h, kd_t (cs_K3 h), cs_N3 h, cs_P0_3 h, kd_t (cs_K4 h), cs_N4 h, cs_P0_5 h, kd_t (cs_K5 h), cs_N5 h, cs_P0_6 h, kd_t (cs_K6 h), cs_N6 h, cs_P0_8 h, kd_t (cs_K7 h), cs_N7 h, cs_P0_9 h, kd_t (cs_K8 h), cs_N8 h, cs_P0_11 h, kd_t (cs_K9 h), cs_P9_0 h, cs_P9_1 h, kd_t (cs_K10 h), cs_N10 h, cs_P9_3 h, kd_t (cs_K11 h), cs_P11_0 h, kd_t (cs_K12 h), cs_N12 h, cs_P0_12 h, kd_t (cs_K13 h), cs_P13_0 h, kd_t (cs_K14 h), cs_N14 h, cs_P13_2 h, kd_t (cs_K15 h), cs_N15 h, cs_P13_4 h, kd_t (cs_K16 h), cs_N16 h, cs_P0_16 h, kd_t (cs_K17 h), cs_N17 h, cs_P0_17 h, kd_t (cs_K18 h), cs_N18 h, cs_P7_0 h, cs_P7_1 h, cs_P7_2 h, lt_t, nn_t, bd_t, bdD_t, bdP_t, nI_clamp, gi_n, nI_add, nI_1, pk_mul, b2_eq0, b2_01, nb_t, if_true, if_false, ni_le, ni_eq, ni_lt, kd_t o.k, hpc e hd, hd, o.g3, hby, c_pl (show s 15 (3 * y + k') < 2 ^ 31 by omega), hp, hwe, so, l1_a]
          rw [if_neg (by omega)]
          refine fin _ _ ?_ ?_
          · rw [hs3]; unfold aT; rw [hp, if_neg Bool.false_ne_true, if_pos cm]; rfl
          · rw [hs6]; unfold aV; rw [hp, if_neg Bool.false_ne_true, if_pos cm]
        · rw [decide_eq_false cm, Bool.false_or, Bool.and_eq_true] at tko
          obtain ⟨j, hj, ej⟩ := wi_ix b tko.1
          have ov : dL (wL e (x + 18) (3 + k') (Int32.toInt64 (nI (s 19 j)))) (x + 6) j = q.1 j := by rw [dL_wL, if_neg (by omega)]; exact ge.o3 j hj
          have so : f_M_showObject S e x (nI k') (Int64.toInt32 (w k')) = some ((), wL (wL e (x + 18) (3 + k') (Int32.toInt64 (nI (s 19 j)))) (x + 18) (6 + k') (q.1 j)) := by
            rw [ej]
            simp (maxSteps := 1000000) (disch := omega) only [f_M_showObject, f_M_showObject_J33, f_M_showObject_J56, kd_t (cs_K0 h), cs_P0_0 h, kd_t (cs_K1 h), cs_P1_0 h, kd_t (cs_K2 h), cs_N2 h, cs_P0_1 h, kd_t (cs_K3 h), cs_N3 h, cs_P0_3 h, kd_t (cs_K4 h), cs_N4 h, cs_P0_5 h, kd_t (cs_K5 h), cs_N5 h, cs_P0_6 h, kd_t (cs_K6 h), cs_N6 h, cs_P0_8 h, kd_t (cs_K7 h), cs_N7 h, cs_P0_9 h, kd_t (cs_K8 h), cs_N8 h, cs_P0_11 h, kd_t (cs_K9 h), cs_P9_0 h, cs_P9_1 h, kd_t (cs_K10 h), cs_N10 h, cs_P9_3 h, kd_t (cs_K11 h), cs_P11_0 h, kd_t (cs_K12 h), cs_N12 h, cs_P0_12 h, kd_t (cs_K13 h), cs_P13_0 h, kd_t (cs_K14 h), cs_N14 h, cs_P13_2 h, kd_t (cs_K15 h), cs_N15 h, cs_P13_4 h, kd_t (cs_K16 h), cs_N16 h, cs_P0_16 h, kd_t (cs_K17 h), cs_N17 h, cs_P0_17 h, kd_t (cs_K18 h), cs_N18 h, cs_P7_0 h, cs_P7_1 h, cs_P7_2 h, lt_t, nn_t, bd_t, bdD_t, bdP_t, nI_clamp, gi_n, nI_add, nI_1, pk_mul, b2_eq0, b2_01, nb_t, if_true, if_false, ni_le, ni_eq, ni_lt, ge.o1, c_within, cIn0_t (show s 18 0 < 2 ^ 31 by omega) hj, ge.o2 j hj, ov, l3_b, l6_b]
            rw [if_neg (show ¬ true = false by decide), if_neg (show ¬ true = false by decide)]
          simp (maxSteps := 1000000) (disch := omega) only [f_M_showHandler_B45, f_M_showHandler_J116, kd_t (cs_K0 h), cs_P0_0 h, kd_t (cs_K1 h), cs_P1_0 h, kd_t (cs_K2 h), cs_N2 h, cs_P0_1 h, kd_t (cs_K3 h), cs_N3 h, cs_P0_3 h, kd_t (cs_K4 h), cs_N4 h, cs_P0_5 h, kd_t (cs_K5 h), cs_N5 h, cs_P0_6 h, kd_t (cs_K6 h), cs_N6 h, cs_P0_8 h, kd_t (cs_K7 h), cs_N7 h, cs_P0_9 h, kd_t (cs_K8 h), cs_N8 h, cs_P0_11 h, kd_t (cs_K9 h), cs_P9_0 h, cs_P9_1 h, kd_t (cs_K10 h), cs_N10 h, cs_P9_3 h, kd_t (cs_K11 h), cs_P11_0 h, kd_t (cs_K12 h), cs_N12 h, cs_P0_12 h, kd_t (cs_K13 h), cs_P13_0 h, kd_t (cs_K14 h), cs_N14 h, cs_P13_2 h, kd_t (cs_K15 h), cs_N15 h, cs_P13_4 h, kd_t (cs_K16 h), cs_N16 h, cs_P0_16 h, kd_t (cs_K17 h), cs_N17 h, cs_P0_17 h, kd_t (cs_K18 h), cs_N18 h, cs_P7_0 h, cs_P7_1 h, cs_P7_2 h, lt_t, nn_t, bd_t, bdD_t, bdP_t, nI_clamp, gi_n, nI_add, nI_1, pk_mul, b2_eq0, b2_01, nb_t, if_true, if_false, ni_le, ni_eq, ni_lt, kd_t o.k, hpc e hd, hd, o.g3, hby, c_pl (show s 15 (3 * y + k') < 2 ^ 31 by omega), hp, hwe, so, l1_a]
          rw [if_neg (by omega)]
          refine fin _ _ ?_ ?_
          · rw [hs3]; unfold aT; rw [hp, if_neg Bool.false_ne_true, if_neg cm, ej, nI_clamp (by omega)]
          · rw [hs6]; unfold aV; rw [hp, if_neg Bool.false_ne_true, if_neg cm, ej, nI_clamp (by omega)]
    · rintro ⟨e, k'⟩ ⟨rfl, hs, hv⟩ K
      simp only at hs hv ⊢
      have hd : ∀ a j, dI e a j = dI d a j := hs.1
      simp (maxSteps := 1000000) (disch := omega) only [f_M_showHandler_B45, kd_t (cs_K0 h), cs_P0_0 h, kd_t (cs_K1 h), cs_P1_0 h, kd_t (cs_K2 h), cs_N2 h, cs_P0_1 h, kd_t (cs_K3 h), cs_N3 h, cs_P0_3 h, kd_t (cs_K4 h), cs_N4 h, cs_P0_5 h, kd_t (cs_K5 h), cs_N5 h, cs_P0_6 h, kd_t (cs_K6 h), cs_N6 h, cs_P0_8 h, kd_t (cs_K7 h), cs_N7 h, cs_P0_9 h, kd_t (cs_K8 h), cs_N8 h, cs_P0_11 h, kd_t (cs_K9 h), cs_P9_0 h, cs_P9_1 h, kd_t (cs_K10 h), cs_N10 h, cs_P9_3 h, kd_t (cs_K11 h), cs_P11_0 h, kd_t (cs_K12 h), cs_N12 h, cs_P0_12 h, kd_t (cs_K13 h), cs_P13_0 h, kd_t (cs_K14 h), cs_N14 h, cs_P13_2 h, kd_t (cs_K15 h), cs_N15 h, cs_P13_4 h, kd_t (cs_K16 h), cs_N16 h, cs_P0_16 h, kd_t (cs_K17 h), cs_N17 h, cs_P0_17 h, kd_t (cs_K18 h), cs_N18 h, cs_P7_0 h, cs_P7_1 h, cs_P7_2 h, lt_t, nn_t, bd_t, bdD_t, bdP_t, nI_clamp, gi_n, nI_add, nI_1, pk_mul, b2_eq0, b2_01, nb_t, if_true, if_false, ni_le, ni_eq, ni_lt, kd_t o.k, hpc e hd]
      rw [if_pos (Nat.le_refl _)]
      refine ⟨e, rfl, hs, fun j hj => ?_⟩
      rw [hv j hj]
      by_cases cc : j < 3 ∨ (j < 6 ∧ j < 3 + tc s y) ∨ (6 ≤ j ∧ j < 6 + tc s y)
      · rw [if_pos cc]
      · rw [if_neg cc]
        unfold snV
        rw [if_neg (by omega), if_neg (by omega), if_neg (by omega)]
        by_cases c6 : j < 6
        · rw [if_pos c6, if_neg (by omega)]
        · rw [if_neg c6, if_neg (by omega)]
    · have := in9 j hj
      by_cases c3 : j < 3
      · rw [if_pos c3] at this; rw [if_pos (by omega)]; exact this
      · rw [if_neg c3] at this; rw [if_neg (by omega)]; exact this
  obtain ⟨e, fe, se, ve⟩ := loop (fun _ _ _ => none)
  refine ⟨e, ?_, se, ve⟩
  have d0 : dI e0 (A 1 y) 0 = nI (ow y) := (i0 _ _).trans o.g0
  have d1' : dI (wL e0 (x + 18) 0 (Int32.toInt64 (nI (ow y)))) (A 1 y) 1 = nI (nu y) := by rw [dI_wL]; exact (i0 _ _).trans o.g1
  have pc := hpc (wL (wL e0 (x + 18) 0 (Int32.toInt64 (nI (ow y)))) (x + 18) 1 (Int32.toInt64 (nI (nu y)))) (fun a j => by rw [dI_wL, dI_wL]; exact i0 a j)
  have z0 : (0 : Int32) = nI 0 := rfl
  simp (disch := omega) only [f_M_showHandler, kd_t (cs_K0 h), lt_t, cs_P0_17 h, f0, bdD_t, nn_t, kd_t o.k, d0, kd_t (cs_K18 h), cs_N18 h, show (1 : Int32).toNatClampNeg = 1 from by decide, show (0 : Int32).toNatClampNeg = 0 from by decide, show (2 : Int32).toNatClampNeg = 2 from by decide, gi0 9, gi1 9, gi2 9, d1', pc, bd_t]
  exact fe
end st
