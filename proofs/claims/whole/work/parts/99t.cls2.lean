def bl (x : Int64) (i : Nat) : Bool := x.toBitVec.getLsbD i
theorem bl_ext {x y : Int64} (h : ∀ i, i < 64 → bl x i = bl y i) : x = y := by
  apply Int64.toBitVec_inj.mp
  apply BitVec.eq_of_getLsbD_eq
  exact h
theorem bl_or (x y : Int64) (i : Nat) : bl (x ||| y) i = (bl x i || bl y i) := by
  unfold bl
  rw [Int64.toBitVec_or, BitVec.getLsbD_or]
theorem bl_and (x y : Int64) (i : Nat) : bl (x &&& y) i = (bl x i && bl y i) := by
  unfold bl
  rw [Int64.toBitVec_and, BitVec.getLsbD_and]
theorem q_sm64 : ∀ n, n < 64 → ((Int32.toInt64 (nI n) &&& 63).toBitVec.smod 64).toNat = n := by decide
theorem bl_0 (i : Nat) : bl 0 i = false := by
  unfold bl
  rw [show (0 : Int64).toBitVec = 0#64 from rfl, BitVec.getLsbD_zero]
theorem bl_1 : ∀ i, i < 64 → bl 1 i = decide (i = 0) := by decide
def bi (n : Nat) : Int64 := (1 : Int64) <<< (Int32.toInt64 (nI n) &&& 63)
theorem bl_bi {n i : Nat} (hn : n < 64) (hi : i < 64) : bl (bi n) i = decide (i = n) := by
  unfold bi bl
  rw [Int64.toBitVec_shiftLeft, BitVec.getLsbD_shiftLeft', q_sm64 n hn]
  by_cases h : n ≤ i
  · have h1 : ¬ i < n := by omega
    have h2 := bl_1 (i - n) (by omega)
    unfold bl at h2
    rw [h2]
    simp only [hi, h1, decide_true, decide_false, Bool.not_false, Bool.true_and]
    by_cases q : i = n
    · subst q; simp
    · have : ¬ i - n = 0 := by omega
      simp [q, this]
  · have h1 : i < n := by omega
    have h2 : ¬ i = n := by omega
    simp [h1, h2]
theorem bl_tst {x : Int64} {n : Nat} (hn : n < 64) : (x &&& bi n = 0) ↔ bl x n = false := by
  constructor
  · intro h
    have : bl (x &&& bi n) n = bl 0 n := by rw [h]
    rw [bl_and, bl_bi hn hn, bl_0] at this
    simpa using this
  · intro h
    apply bl_ext
    intro i hi
    rw [bl_and, bl_bi hn hi, bl_0]
    by_cases q : i = n
    · subst q; rw [h]; rfl
    · simp [q]
theorem bl_nz {x : Int64} : x = 0 ↔ ∀ i, i < 64 → bl x i = false := by
  constructor
  · intro h i _; rw [h]; exact bl_0 i
  · intro h; apply bl_ext; intro i hi; rw [h i hi, bl_0]
theorem c_bit {S : gS} {d : gD} {n : Nat} : f_Ty_bit S d (nI n) = some (bi n) := rfl
def CT (d : gD) (x : Nat) (s : Nat → Nat → Nat) : Prop := dI d (x + 1) 1 = nI (s 3 0) ∧ ∀ a c, a < 47 → c < 64 → (bl (dL d (x + 2) a) c = true ↔ ty s a ∧ Rch (TE s) a c)
theorem ct_ch {P : Nat → Nat → Prop} {d e : gD} {x : Nat} {s : Nat → Nat → Nat} (h : CT d x s) (g : Ch P d e) (n : ¬ P (x + 1) 1) : CT e x s :=
  ⟨(g.2 _ _ n).trans h.1, fun a c ha hc => by rw [g.1]; exact h.2 a c ha hc⟩
theorem cIn0_f {v : Int32} {n : Nat} (hn : n < 2 ^ 31) (h : cIn 0 (nI n) v = false) : ∀ a, a < n → v ≠ nI a := by
  rintro a ha rfl
  have := cIn_nI (lo := 0) (hi := n) (a := a) (by omega) hn (by omega)
  rw [show nI 0 = 0 from rfl, h] at this
  simp [ha] at this
section cls
variable {S : gS} {d : gD} {x : Nat} {s : Nat → Nat → Nat}
theorem c_isBelow (h : CS S x) (t : CT d x s) (b : BI s) (v w : Int32) : f_Ty_isBelow S d (x + 1) v w = some (b2 (bw s v w)) := by
  by_cases q : v = w
  · subst q
    rw [bw_eq]
    simp only [f_Ty_isBelow, f_Ty_isBelow_J39, if_true]; rfl
  · have no : ∀ p : Prop, (∀ a c, v = nI a → w = nI c → a < 47 → c < 47 → Bel s a c → p) → ¬ p → bw s v w = false := by
      intro p hp np
      apply pb_f
      rintro (e | ⟨a, c, e1, e2, h1, h2, h3⟩)
      · exact q e
      · exact np (hp a c e1 e2 h1 h2 h3)
    simp only [f_Ty_isBelow, if_neg q, c_within, bd_t, b2_eq0, show (47 : Int32) = nI 47 from rfl]
    cases c1 : cIn 0 (nI 47) v with
    | false =>
      rw [if_pos rfl, no False (fun a c e1 _ h1 _ _ => cIn0_f (by omega) c1 a h1 e1) id]; rfl
    | true =>
      rw [if_neg (by decide)]
      cases c2 : cIn 0 (nI 47) w with
      | false => rw [if_pos rfl, no False (fun a c _ e2 _ h2 _ => cIn0_f (by omega) c2 c h2 e2) id]; rfl
      | true =>
        rw [if_neg (by decide)]
        obtain ⟨a, -, ha, rfl⟩ := cIn_of (lo := 0) (hi := 47) c1 (by omega) (by omega)
        obtain ⟨c, -, hc, rfl⟩ := cIn_of (lo := 0) (hi := 47) c2 (by omega) (by omega)
        have hne : a ≠ c := fun e => q (by rw [e])
        simp (maxSteps := 1000000) (disch := omega) only [f_Ty_isBelow_J39, kd_t (cs_K0 h), cs_P0_0 h, kd_t (cs_K1 h), cs_P1_0 h, kd_t (cs_K2 h), cs_N2 h, cs_P0_1 h, kd_t (cs_K3 h), cs_N3 h, cs_P0_3 h, kd_t (cs_K4 h), cs_N4 h, cs_P0_5 h, kd_t (cs_K5 h), cs_N5 h, cs_P0_6 h, kd_t (cs_K6 h), cs_N6 h, cs_P0_8 h, kd_t (cs_K7 h), cs_N7 h, cs_P0_9 h, kd_t (cs_K8 h), cs_N8 h, cs_P0_11 h, kd_t (cs_K9 h), cs_P9_0 h, cs_P9_1 h, kd_t (cs_K10 h), cs_N10 h, cs_P9_3 h, kd_t (cs_K11 h), cs_P11_0 h, kd_t (cs_K12 h), cs_N12 h, cs_P0_12 h, kd_t (cs_K13 h), cs_P13_0 h, kd_t (cs_K14 h), cs_N14 h, cs_P13_2 h, kd_t (cs_K15 h), cs_N15 h, cs_P13_4 h, kd_t (cs_K16 h), cs_N16 h, cs_P0_16 h, kd_t (cs_K17 h), cs_N17 h, cs_P0_17 h, kd_t (cs_K18 h), cs_N18 h, cs_P7_0 h, cs_P7_1 h, cs_P7_2 h, l1_m, l1_a, l1_b, l1_s, l1_e, l1_le, l1_ge, l1_lt, l1_gt, lt_t, nn_t, bd_t, bdD_t, bdP_t, nI_clamp, gi_n, nI_add, nI_1, pk_mul, b2_eq0, b2_01, nb_t, if_true, if_false, ni_le, ni_eq, ni_lt, c_bit, lg_cmp_eq, bl_tst (show c < 64 by omega)]
        have hb := t.2 a c ha (by omega)
        have e : bw s (nI a) (nI c) = bl (dL d (x + 2) a) c := by
          rw [bw_nI b (by omega) (by omega)]
          cases r : bl (dL d (x + 2) a) c with
          | true => exact pb_t (.inr (hb.mp r))
          | false =>
            apply pb_f
            rintro (e | e)
            · exact hne e
            · rw [hb.mpr e] at r; exact absurd r (by decide)
        rw [e]
        cases bl (dL d (x + 2) a) c <;> rfl
theorem c_plain (v : Int32) : f_M_isPlain S d v = some (b2 (decide (1 ≤ v) && decide (v ≤ 6))) := by
  simp only [f_M_isPlain, lt_t]
  exact cIn_j
theorem c_box (v : Int32) : f_M_isBox S d v = some (b2 (decide (41 ≤ v) && decide (v ≤ 46))) := by
  simp only [f_M_isBox, lt_t]
  exact cIn_j
theorem c_isThere (h : CS S x) (t : CT d x s) (b : BI s) (v : Int32) : f_Ty_isThere S d (x + 1) v = some (b2 (thI s v)) := by
  simp only [f_Ty_isThere, f_Ty_isThere_J27, c_plain, c_within, bd_t, b2_eq0, show (47 : Int32) = nI 47 from rfl]
  cases c0 : (decide (1 ≤ v) && decide (v ≤ 6)) with
  | true => rw [if_neg (by decide)]; unfold thI; rw [c0]; rfl
  | false =>
    rw [if_pos rfl]
    cases c1 : cIn 0 (nI 47) v with
    | false =>
      rw [if_pos rfl]
      cases e : thI s v with
      | false => rfl
      | true =>
        obtain ⟨a, ha, rfl⟩ := thI_of b e
        exact absurd rfl (cIn0_f (by omega) c1 a ha)
    | true =>
      rw [if_neg (by decide)]
      obtain ⟨a, -, ha, rfl⟩ := cIn_of (lo := 0) (hi := 47) c1 (by omega) (by omega)
      simp (maxSteps := 1000000) (disch := omega) only [f_Ty_isThere_J27, kd_t (cs_K0 h), cs_P0_0 h, kd_t (cs_K1 h), cs_P1_0 h, kd_t (cs_K2 h), cs_N2 h, cs_P0_1 h, kd_t (cs_K3 h), cs_N3 h, cs_P0_3 h, kd_t (cs_K4 h), cs_N4 h, cs_P0_5 h, kd_t (cs_K5 h), cs_N5 h, cs_P0_6 h, kd_t (cs_K6 h), cs_N6 h, cs_P0_8 h, kd_t (cs_K7 h), cs_N7 h, cs_P0_9 h, kd_t (cs_K8 h), cs_N8 h, cs_P0_11 h, kd_t (cs_K9 h), cs_P9_0 h, cs_P9_1 h, kd_t (cs_K10 h), cs_N10 h, cs_P9_3 h, kd_t (cs_K11 h), cs_P11_0 h, kd_t (cs_K12 h), cs_N12 h, cs_P0_12 h, kd_t (cs_K13 h), cs_P13_0 h, kd_t (cs_K14 h), cs_N14 h, cs_P13_2 h, kd_t (cs_K15 h), cs_N15 h, cs_P13_4 h, kd_t (cs_K16 h), cs_N16 h, cs_P0_16 h, kd_t (cs_K17 h), cs_N17 h, cs_P0_17 h, kd_t (cs_K18 h), cs_N18 h, cs_P7_0 h, cs_P7_1 h, cs_P7_2 h, l1_m, l1_a, l1_b, l1_s, l1_e, l1_le, l1_ge, l1_lt, l1_gt, lt_t, nn_t, bd_t, bdD_t, bdP_t, nI_clamp, gi_n, nI_add, nI_1, pk_mul, b2_eq0, b2_01, nb_t, if_true, if_false, ni_le, ni_eq, ni_lt, lg_cmp_eq]
      have hth := thI_nI b (a := a) (by omega)
      have hnp : ¬ (1 ≤ a ∧ a ≤ 6) := by
        rintro ⟨p1, p2⟩
        rw [show (1 : Int32) = nI 1 from rfl, show (6 : Int32) = nI 6 from rfl] at c0
        simp only [ni_le 1 a (by omega) (by omega), ni_le a 6 (by omega) (by omega), p1, p2] at c0
        exact absurd c0 (by decide)
      by_cases q : ty s a
      · have hb := (t.2 a a ha (by omega)).mpr ⟨q, Rch_r _ _⟩
        rw [if_neg (fun e => by rw [e, bl_0] at hb; exact absurd hb (by decide)), hth.mpr (.inr q)]; rfl
      · have : thI s (nI a) = false := by
          cases e : thI s (nI a) with
          | false => rfl
          | true => rcases hth.mp e with r | r <;> contradiction
        rw [this, if_pos]; · rfl
        rw [bl_nz]
        intro i hi
        cases e : bl (dL d (x + 2) a) i with
        | false => rfl
        | true => exact absurd ((t.2 a i ha hi).mp e).1 q
theorem c_isBelowOneOf (h : CS S x) (t : CT d x s) (b : BI s) {r n : Nat} (hr : RWs S r n) (hn : n ≤ 16) {l : List Nat} (hd : RWd d r l) (hl : l.length ≤ n) (u : Nat) : f_Ty_isBelowOneOf S d (x + 1) (nI u) (some r) = some (b2 (bo s u l)) := by
  unfold f_Ty_isBelowOneOf
  refine itr_f (B := f_Ty_isBelowOneOf_B2 S d (x + 1)) (fun k K => K (nI u) (some r) (nI k)) (fun i => bN s u (l.getD i 0)) l.length _ (by omega) ?_ ?_ ?_
  · intro k hk hp K hK
    have hg := hd.2 k hk
    rw [Nat.zero_add] at hg
    simp (maxSteps := 1000000) (disch := omega) only [f_Ty_isBelowOneOf_B2, kd_t (cs_K0 h), cs_P0_0 h, kd_t (cs_K1 h), cs_P1_0 h, kd_t (cs_K2 h), cs_N2 h, cs_P0_1 h, kd_t (cs_K3 h), cs_N3 h, cs_P0_3 h, kd_t (cs_K4 h), cs_N4 h, cs_P0_5 h, kd_t (cs_K5 h), cs_N5 h, cs_P0_6 h, kd_t (cs_K6 h), cs_N6 h, cs_P0_8 h, kd_t (cs_K7 h), cs_N7 h, cs_P0_9 h, kd_t (cs_K8 h), cs_N8 h, cs_P0_11 h, kd_t (cs_K9 h), cs_P9_0 h, cs_P9_1 h, kd_t (cs_K10 h), cs_N10 h, cs_P9_3 h, kd_t (cs_K11 h), cs_P11_0 h, kd_t (cs_K12 h), cs_N12 h, cs_P0_12 h, kd_t (cs_K13 h), cs_P13_0 h, kd_t (cs_K14 h), cs_N14 h, cs_P13_2 h, kd_t (cs_K15 h), cs_N15 h, cs_P13_4 h, kd_t (cs_K16 h), cs_N16 h, cs_P0_16 h, kd_t (cs_K17 h), cs_N17 h, cs_P0_17 h, kd_t (cs_K18 h), cs_N18 h, cs_P7_0 h, cs_P7_1 h, cs_P7_2 h, l0_e, l0_le, l0_ge, l0_lt, l0_gt, l1_m, l1_a, l1_b, l1_s, l1_e, l1_le, l1_ge, l1_lt, l1_gt, lt_t, nn_t, bd_t, bdD_t, bdP_t, nI_clamp, gi_n, nI_add, nI_1, pk_mul, b2_eq0, b2_01, nb_t, if_true, if_false, ni_le, ni_eq, ni_lt, kd_t hr.k, kd_t hr.ak, hr.p, hr.an, hd.1, hg, c_isBelow h t b]
    rw [if_neg (by omega), if_pos (by simpa only [bN] using hp)]
    exact hK
  · intro k hk hp he K
    have hg := hd.2 k hk
    rw [Nat.zero_add] at hg
    simp (maxSteps := 1000000) (disch := omega) only [f_Ty_isBelowOneOf_B2, kd_t (cs_K0 h), cs_P0_0 h, kd_t (cs_K1 h), cs_P1_0 h, kd_t (cs_K2 h), cs_N2 h, cs_P0_1 h, kd_t (cs_K3 h), cs_N3 h, cs_P0_3 h, kd_t (cs_K4 h), cs_N4 h, cs_P0_5 h, kd_t (cs_K5 h), cs_N5 h, cs_P0_6 h, kd_t (cs_K6 h), cs_N6 h, cs_P0_8 h, kd_t (cs_K7 h), cs_N7 h, cs_P0_9 h, kd_t (cs_K8 h), cs_N8 h, cs_P0_11 h, kd_t (cs_K9 h), cs_P9_0 h, cs_P9_1 h, kd_t (cs_K10 h), cs_N10 h, cs_P9_3 h, kd_t (cs_K11 h), cs_P11_0 h, kd_t (cs_K12 h), cs_N12 h, cs_P0_12 h, kd_t (cs_K13 h), cs_P13_0 h, kd_t (cs_K14 h), cs_N14 h, cs_P13_2 h, kd_t (cs_K15 h), cs_N15 h, cs_P13_4 h, kd_t (cs_K16 h), cs_N16 h, cs_P0_16 h, kd_t (cs_K17 h), cs_N17 h, cs_P0_17 h, kd_t (cs_K18 h), cs_N18 h, cs_P7_0 h, cs_P7_1 h, cs_P7_2 h, l0_e, l0_le, l0_ge, l0_lt, l0_gt, l1_m, l1_a, l1_b, l1_s, l1_e, l1_le, l1_ge, l1_lt, l1_gt, lt_t, nn_t, bd_t, bdD_t, bdP_t, nI_clamp, gi_n, nI_add, nI_1, pk_mul, b2_eq0, b2_01, nb_t, if_true, if_false, ni_le, ni_eq, ni_lt, kd_t hr.k, kd_t hr.ak, hr.p, hr.an, hd.1, hg, c_isBelow h t b]
    simp only [bN] at hp
    rw [if_neg (by omega), hp, if_neg (by decide)]
    have : bo s u l = true := (anyb_iff _ _).mpr ⟨k, hk, hp⟩
    rw [this]; rfl
  · intro he K
    simp (maxSteps := 1000000) (disch := omega) only [f_Ty_isBelowOneOf_B2, kd_t (cs_K0 h), cs_P0_0 h, kd_t (cs_K1 h), cs_P1_0 h, kd_t (cs_K2 h), cs_N2 h, cs_P0_1 h, kd_t (cs_K3 h), cs_N3 h, cs_P0_3 h, kd_t (cs_K4 h), cs_N4 h, cs_P0_5 h, kd_t (cs_K5 h), cs_N5 h, cs_P0_6 h, kd_t (cs_K6 h), cs_N6 h, cs_P0_8 h, kd_t (cs_K7 h), cs_N7 h, cs_P0_9 h, kd_t (cs_K8 h), cs_N8 h, cs_P0_11 h, kd_t (cs_K9 h), cs_P9_0 h, cs_P9_1 h, kd_t (cs_K10 h), cs_N10 h, cs_P9_3 h, kd_t (cs_K11 h), cs_P11_0 h, kd_t (cs_K12 h), cs_N12 h, cs_P0_12 h, kd_t (cs_K13 h), cs_P13_0 h, kd_t (cs_K14 h), cs_N14 h, cs_P13_2 h, kd_t (cs_K15 h), cs_N15 h, cs_P13_4 h, kd_t (cs_K16 h), cs_N16 h, cs_P0_16 h, kd_t (cs_K17 h), cs_N17 h, cs_P0_17 h, kd_t (cs_K18 h), cs_N18 h, cs_P7_0 h, cs_P7_1 h, cs_P7_2 h, l0_e, l0_le, l0_ge, l0_lt, l0_gt, l1_m, l1_a, l1_b, l1_s, l1_e, l1_le, l1_ge, l1_lt, l1_gt, lt_t, nn_t, bd_t, bdD_t, bdP_t, nI_clamp, gi_n, nI_add, nI_1, pk_mul, b2_eq0, b2_01, nb_t, if_true, if_false, ni_le, ni_eq, ni_lt, kd_t hr.k, hd.1]
    rw [if_pos (Nat.le_refl _)]
    have : bo s u l = false := by unfold bo anyb; rw [he]; simp
    rw [this]; rfl
noncomputable def abL (s : Nat → Nat → Nat) (B T acc : List Nat) : Nat → List Nat
  | 0 => acc
  | k + 1 => if bo s (B.getD k 0) T then adL (abL s B T acc k) (B.getD k 0) else abL s B T acc k
theorem cl_adL {l : List Nat} {t : Nat} (h : cl l) (h1 : 8 ≤ t) (h2 : t < 24) : cl (adL l t) := by
  unfold adL
  split
  · exact h
  · exact cl_app h (by assumption) h1 h2
theorem cl_abL {B T acc : List Nat} (hB : cl B) (h : cl acc) : ∀ k, k ≤ B.length → cl (abL s B T acc k) := by
  intro k
  induction k with
  | zero => intro _; exact h
  | succ k ih =>
    intro hk
    have hm := hB.2 _ (getD_mem (show k < B.length by omega))
    unfold abL
    split
    · exact cl_adL (ih (by omega)) hm.1 hm.2
    · exact ih (by omega)
theorem cl_lt {l : List Nat} {t : Nat} (h : cl l) (n : t ∉ l) (h1 : 8 ≤ t) (h2 : t < 24) : l.length < 16 := by
  have := cl_len (cl_app h n h1 h2)
  rw [List.length_append, List.length_singleton] at this
  omega
theorem c_addBelow (h : CS S x) (t : CT d x s) (b : BI s) {r1 n1 r2 n2 r3 : Nat} (hr1 : RWs S r1 n1) (hn1 : n1 ≤ 16) (hr2 : RWs S r2 n2) (hn2 : n2 ≤ 16) (hr3 : RWs S r3 16) {B T acc : List Nat} (hB : cl B) (hT : cl T) (hac : cl acc) (hl1 : B.length ≤ n1) (hl2 : T.length ≤ n2) (h1 : RWd d r1 B) (h2 : RWd d r2 T) (h3 : RWd d r3 acc) (n13 : r1 ≠ r3) (n23 : r2 ≠ r3) : ∃ e, f_Ty_addBelow S d (x + 1) (some r1) (some r2) (some r3) = some ((), e) ∧ Ch (PRw r3) d e ∧ RWd e r3 (abL s B T acc B.length) := by
  have k3 : sK S r3 = 2 := hr3.k
  have n1' : ∀ r n, RWs S r n → r ≠ r3 → ¬ PRw r3 r 1 ∧ ∀ i, ¬ PRw r3 (r + 1) i := by
    intro r n hr hne
    refine ⟨?_, fun i => ?_⟩
    · rintro (q | q)
      · exact hne q.1
      · have := hr.k; rw [q, hr3.ak] at this; cases this
    · rintro (q | q)
      · have := hr.ak; rw [q.1, hr3.k] at this; cases this
      · omega
  have hx1 : ¬ PRw r3 (x + 1) 1 := by
    rintro (q | q)
    · have := cs_K1 h; rw [q.1, hr3.k] at this; cases this
    · have := cs_K1 h; rw [q, hr3.ak] at this; cases this
  unfold f_Ty_addBelow
  refine itr_q (B := f_Ty_addBelow_B3 S (x + 1)) (fun (y : gD × Nat) K => K y.1 (some r1) (some r2) (some r3) (nI y.2)) (fun t => ∃ e, t = some ((), e) ∧ Ch (PRw r3) d e ∧ RWd e r3 (abL s B T acc B.length)) (fun k y => y.2 = k ∧ Ch (PRw r3) d y.1 ∧ RWd y.1 r3 (abL s B T acc k)) B.length (by have := cl_len hB; omega) ?_ ?_ (x := (d, 0)) ⟨rfl, ch_r, h3⟩
  · rintro k hk ⟨e, k'⟩ ⟨rfl, hc, hd⟩ K hK
    simp only at hk hc hd hK ⊢
    have g1 := rwd_ch h1 hc (n1' _ _ hr1 n13).1 (fun i _ => (n1' _ _ hr1 n13).2 i)
    have g2 := rwd_ch h2 hc (n1' _ _ hr2 n23).1 (fun i _ => (n1' _ _ hr2 n23).2 i)
    have te := ct_ch t hc hx1
    have hcl := cl_abL (s := s) (T := T) hB hac k' (by omega)
    have hm := hB.2 _ (getD_mem hk)
    have hg := g1.2 k' hk
    rw [Nat.zero_add] at hg
    have hBl := cl_len hB
    obtain ⟨e2, hadd, hc2, hd2⟩ := c_add hr3 (Nat.le_refl _) hd (cl_len hcl) (fun t ht => by have := hcl.2 t ht; omega) (t := B.getD k' 0) (by omega) (fun n => cl_lt hcl n hm.1 hm.2)
    simp (maxSteps := 1000000) (disch := omega) only [f_Ty_addBelow_B3, f_Ty_addBelow_J38, kd_t (cs_K0 h), cs_P0_0 h, kd_t (cs_K1 h), cs_P1_0 h, kd_t (cs_K2 h), cs_N2 h, cs_P0_1 h, kd_t (cs_K3 h), cs_N3 h, cs_P0_3 h, kd_t (cs_K4 h), cs_N4 h, cs_P0_5 h, kd_t (cs_K5 h), cs_N5 h, cs_P0_6 h, kd_t (cs_K6 h), cs_N6 h, cs_P0_8 h, kd_t (cs_K7 h), cs_N7 h, cs_P0_9 h, kd_t (cs_K8 h), cs_N8 h, cs_P0_11 h, kd_t (cs_K9 h), cs_P9_0 h, cs_P9_1 h, kd_t (cs_K10 h), cs_N10 h, cs_P9_3 h, kd_t (cs_K11 h), cs_P11_0 h, kd_t (cs_K12 h), cs_N12 h, cs_P0_12 h, kd_t (cs_K13 h), cs_P13_0 h, kd_t (cs_K14 h), cs_N14 h, cs_P13_2 h, kd_t (cs_K15 h), cs_N15 h, cs_P13_4 h, kd_t (cs_K16 h), cs_N16 h, cs_P0_16 h, kd_t (cs_K17 h), cs_N17 h, cs_P0_17 h, kd_t (cs_K18 h), cs_N18 h, cs_P7_0 h, cs_P7_1 h, cs_P7_2 h, l0_e, l0_le, l0_ge, l0_lt, l0_gt, l1_m, l1_a, l1_b, l1_s, l1_e, l1_le, l1_ge, l1_lt, l1_gt, lt_t, nn_t, bd_t, bdD_t, bdP_t, nI_clamp, gi_n, nI_add, nI_1, pk_mul, b2_eq0, b2_01, nb_t, if_true, if_false, ni_le, ni_eq, ni_lt, kd_t hr1.k, kd_t hr1.ak, hr1.p, hr1.an, kd_t hr3.k, g1.1, hg, c_isBelowOneOf h te b hr2 hn2 g2 hl2, hadd]
    rw [if_neg (by omega)]
    have hst : abL s B T acc (k' + 1) = if bo s (B.getD k' 0) T then adL (abL s B T acc k') (B.getD k' 0) else abL s B T acc k' := rfl
    cases q : bo s (B.getD k' 0) T with
    | false =>
      rw [if_pos rfl]
      exact hK (e, k' + 1) ⟨rfl, hc, by rw [hst, q]; exact hd⟩
    | true =>
      rw [if_neg (by decide)]
      exact hK (e2, k' + 1) ⟨rfl, ch_t hc hc2, by rw [hst, q]; exact hd2⟩
  · rintro ⟨e, k'⟩ ⟨rfl, hc, hd⟩ K
    simp only at hc hd ⊢
    have g1 := rwd_ch h1 hc (n1' _ _ hr1 n13).1 (fun i _ => (n1' _ _ hr1 n13).2 i)
    have hBl := cl_len hB
    simp (maxSteps := 1000000) (disch := omega) only [f_Ty_addBelow_B3, kd_t (cs_K0 h), cs_P0_0 h, kd_t (cs_K1 h), cs_P1_0 h, kd_t (cs_K2 h), cs_N2 h, cs_P0_1 h, kd_t (cs_K3 h), cs_N3 h, cs_P0_3 h, kd_t (cs_K4 h), cs_N4 h, cs_P0_5 h, kd_t (cs_K5 h), cs_N5 h, cs_P0_6 h, kd_t (cs_K6 h), cs_N6 h, cs_P0_8 h, kd_t (cs_K7 h), cs_N7 h, cs_P0_9 h, kd_t (cs_K8 h), cs_N8 h, cs_P0_11 h, kd_t (cs_K9 h), cs_P9_0 h, cs_P9_1 h, kd_t (cs_K10 h), cs_N10 h, cs_P9_3 h, kd_t (cs_K11 h), cs_P11_0 h, kd_t (cs_K12 h), cs_N12 h, cs_P0_12 h, kd_t (cs_K13 h), cs_P13_0 h, kd_t (cs_K14 h), cs_N14 h, cs_P13_2 h, kd_t (cs_K15 h), cs_N15 h, cs_P13_4 h, kd_t (cs_K16 h), cs_N16 h, cs_P0_16 h, kd_t (cs_K17 h), cs_N17 h, cs_P0_17 h, kd_t (cs_K18 h), cs_N18 h, cs_P7_0 h, cs_P7_1 h, cs_P7_2 h, l0_e, l0_le, l0_ge, l0_lt, l0_gt, lt_t, nn_t, bd_t, bdD_t, bdP_t, nI_clamp, gi_n, nI_add, nI_1, pk_mul, b2_eq0, b2_01, nb_t, if_true, if_false, ni_le, ni_eq, ni_lt, kd_t hr1.k, g1.1]
    rw [if_pos (by omega)]
    exact ⟨e, rfl, hc, hd⟩
end cls
