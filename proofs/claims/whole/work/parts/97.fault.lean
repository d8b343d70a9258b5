def rsF (s : Nat → Nat → Nat) (fl : List (Nat × List Nat)) (i : Nat) : Nat := s 14 (fl.getD i df).1
noncomputable def allR (s : Nat → Nat → Nat) (fl : List (Nat × List Nat)) (i r k : Nat) : Bool := !anyb (fun j => sgF s fl i j && !bN s r (rsF s fl j)) k
def oth (s : Nat → Nat → Nat) (fl : List (Nat × List Nat)) (i : Nat) : Nat → Nat
  | 0 => 0
  | k + 1 => if sgF s fl i k && !decide (k = i) then oth s fl i k + 1 else oth s fl i k
theorem oth_le (s : Nat → Nat → Nat) (fl : List (Nat × List Nat)) (i k : Nat) : oth s fl i k ≤ k := by
  induction k with
  | zero => exact Nat.le_refl _
  | succ k ih => unfold oth; split <;> omega
def plR (s : Nat → Nat → Nat) (fl : List (Nat × List Nat)) (i k : Nat) : Bool := anyb (fun j => sgF s fl i j && decide (rsF s fl j < 7)) k
noncomputable def leR (s : Nat → Nat → Nat) (fl : List (Nat × List Nat)) (i k : Nat) : Bool := anyb (fun j => sgF s fl i j && allR s fl i (rsF s fl j) fl.length) k
noncomputable def wr (s : Nat → Nat → Nat) (fl : List (Nat × List Nat)) (i : Nat) : Bool := decide (0 < oth s fl i fl.length) && (plR s fl i fl.length || !leR s fl i fl.length)
section ref
variable {S : gS} {d : gD} {m : Nat} {s : Nat → Nat → Nat}
theorem r_wr_77 (h : RI S d m s) (b : BI s) {fl : List (Nat × List Nat)} (hf : FR d m fl) (hg : GF s fl) {i r : Nat} (hi : i < fl.length) {v2 v3 v4 v5 : Int32} {kx : Int32 → Int32 → Int32 → Int32 → Int32 → Int32 → Option Int32} {z : Int32 → Int32 → Int32 → Int32 → Int32 → Int32 → Int32 → Int32 → Option Int32} : itr (f_R_wrongResults_B77 S d m kx) z fu (nI i) v2 v3 v4 v5 (nI r) 1 0 = kx (nI i) v2 v3 v4 v5 (b2 (allR s fl i r fl.length)) := by
  have hl := GF_len hg
  refine itr_0 (B := f_R_wrongResults_B77 S d m kx) (fun k K => K (nI i) v2 v3 v4 v5 (nI r) (b2 (allR s fl i r k)) (nI k)) _ fl.length (by omega) ?_ ?_
  · intro k hk K hK
    have o := hf.2 k (by omega)
    have oi := hf.2 i (by omega)
    have g1 := (hg.2.1 k (by omega)).1
    have g2 := (hg.2.1 i (by omega)).1
    simp (maxSteps := 1000000) (disch := omega) only [f_R_wrongResults_B77, f_R_wrongResults_J130, kd_t h.rs.1, rs_P14 h.rs, kd_t (rs_K14 h.rs), rs_N14 h.rs, ri_14 h, rs_P32 h.rs, kd_t (rs_K32 h.rs), rs_N32 h.rs, l0_e, l0_le, l0_ge, l0_lt, l0_gt, l1_m, l1_a, l1_b, l1_s, l1_e, l1_le, l1_ge, l1_lt, l1_gt, lt_t, nn_t, bd_t, bdD_t, bdP_t, nI_clamp, gi_n, nI_add, nI_1, pk_mul, b2_eq0, b2_01, nb_t, if_true, if_false, ni_le, ni_eq, ni_lt, hf.1, o.1, oi.1, r_sameSignature h b, r_isBelow h b]
    rw [if_neg (by omega)]
    unfold allR at hK ⊢
    rw [anyb_s] at hK
    unfold sgF rsF at hK ⊢
    cases q : sg s (fl.getD i df).1 (fl.getD k df).1 with
    | false => rw [q, Bool.false_and, Bool.or_false] at hK; rw [if_pos rfl]; exact hK
    | true =>
      rw [q, Bool.true_and] at hK
      rw [if_neg (by decide)]
      cases q2 : bN s r (s 14 (fl.getD k df).1) with
      | false =>
        rw [q2, Bool.not_false, Bool.or_true] at hK
        unfold bN at q2
        rw [if_pos q2]
        exact hK
      | true =>
        rw [q2, Bool.not_true, Bool.or_false] at hK
        unfold bN at q2
        rw [if_neg (by rw [q2]; decide)]
        exact hK
  · intro K
    simp (maxSteps := 1000000) (disch := omega) only [f_R_wrongResults_B77, kd_t h.rs.1, rs_P14 h.rs, kd_t (rs_K14 h.rs), rs_N14 h.rs, ri_14 h, rs_P32 h.rs, kd_t (rs_K32 h.rs), rs_N32 h.rs, l0_e, l0_le, l0_ge, l0_lt, l0_gt, lt_t, nn_t, bd_t, bdD_t, bdP_t, nI_clamp, gi_n, nI_add, nI_1, pk_mul, b2_eq0, b2_01, nb_t, if_true, if_false, ni_le, ni_eq, ni_lt, hf.1]
    rw [if_pos (by omega)]
theorem r_wrongResults (h : RI S d m s) (b : BI s) {fl : List (Nat × List Nat)} (hf : FR d m fl) (hg : GF s fl) {i : Nat} (hi : i < fl.length) : f_R_wrongResults S d m (nI i) = some (b2 (wr s fl i)) := by
  have hl := GF_len hg
  unfold f_R_wrongResults
  refine itr_0 (B := f_R_wrongResults_B10 S d m (f_R_wrongResults_J150 S d m)) (fun k K => K (nI i) (nI (oth s fl i k)) (b2 (plR s fl i k)) (b2 (leR s fl i k)) (nI k)) _ fl.length (by omega) ?_ ?_
  · intro k hk K hK
    have o := hf.2 k (by omega)
    have oi := hf.2 i (by omega)
    have g1 := (hg.2.1 k (by omega)).1
    have g2 := (hg.2.1 i (by omega)).1
    have h14 := b.lt 14 (fl.getD k df).1
    simp (maxSteps := 1000000) (disch := omega) only [f_R_wrongResults_B10, f_R_wrongResults_J144, f_R_wrongResults_J62, f_R_wrongResults_J71, kd_t h.rs.1, rs_P14 h.rs, kd_t (rs_K14 h.rs), rs_N14 h.rs, ri_14 h, rs_P32 h.rs, kd_t (rs_K32 h.rs), rs_N32 h.rs, l0_e, l0_le, l0_ge, l0_lt, l0_gt, l1_m, l1_a, l1_b, l1_s, l1_e, l1_le, l1_ge, l1_lt, l1_gt, l7_m, l7_a, l7_b, l7_s, l7_e, l7_le, l7_ge, l7_lt, l7_gt, lt_t, nn_t, bd_t, bdD_t, bdP_t, nI_clamp, gi_n, nI_add, nI_1, pk_mul, b2_eq0, b2_01, nb_t, if_true, if_false, ni_le, ni_eq, ni_lt, hf.1, o.1, oi.1, r_sameSignature h b, r_wr_77 h b hf hg hi]
    rw [if_neg (by omega)]
    unfold plR leR oth at hK
    rw [anyb_s, anyb_s] at hK
    unfold plR leR
    cases q : sgF s fl i k with
    | false =>
      simp only [q, Bool.false_and, Bool.or_false, Bool.false_eq_true, if_false] at hK
      unfold sgF at q
      rw [if_pos q]
      exact hK
    | true =>
      rw [q, Bool.true_and, Bool.true_and, Bool.true_and] at hK
      unfold sgF at q
      rw [if_neg (by rw [q]; decide)]
      simp only [f_R_wrongResults_J136, f_R_wrongResults_J144, b2_eq0, nI_1]
      have e14 : rsF s fl k = s 14 (fl.getD k df).1 := rfl
      rw [e14] at hK
      by_cases qk : k = i
      · rw [decide_eq_true qk, Bool.not_true, if_neg (by decide)] at hK
        rw [if_pos qk]
        by_cases q7 : 7 ≤ s 14 (fl.getD k df).1
        · rw [decide_eq_false (show ¬ s 14 (fl.getD k df).1 < 7 by omega), Bool.or_false] at hK
          rw [if_pos q7]
          cases qa : allR s fl i (s 14 (fl.getD k df).1) fl.length with
          | true => rw [qa, Bool.or_true] at hK; rw [if_neg (by decide)]; exact hK
          | false => rw [qa, Bool.or_false] at hK; rw [if_pos rfl]; exact hK
        · rw [decide_eq_true (show s 14 (fl.getD k df).1 < 7 by omega), Bool.or_true] at hK
          rw [if_neg q7]
          cases qa : allR s fl i (s 14 (fl.getD k df).1) fl.length with
          | true => rw [qa, Bool.or_true] at hK; rw [if_neg (by decide)]; exact hK
          | false => rw [qa, Bool.or_false] at hK; rw [if_pos rfl]; exact hK
      · rw [decide_eq_false qk, Bool.not_false, if_pos rfl] at hK
        rw [if_neg qk]
        by_cases q7 : 7 ≤ s 14 (fl.getD k df).1
        · rw [decide_eq_false (show ¬ s 14 (fl.getD k df).1 < 7 by omega), Bool.or_false] at hK
          rw [if_pos q7]
          cases qa : allR s fl i (s 14 (fl.getD k df).1) fl.length with
          | true => rw [qa, Bool.or_true] at hK; rw [if_neg (by decide)]; exact hK
          | false => rw [qa, Bool.or_false] at hK; rw [if_pos rfl]; exact hK
        · rw [decide_eq_true (show s 14 (fl.getD k df).1 < 7 by omega), Bool.or_true] at hK
          rw [if_neg q7]
          cases qa : allR s fl i (s 14 (fl.getD k df).1) fl.length with
          | true => rw [qa, Bool.or_true] at hK; rw [if_neg (by decide)]; exact hK
          | false => rw [qa, Bool.or_false] at hK; rw [if_pos rfl]; exact hK
  · intro K
    have ho := oth_le s fl i fl.length
    simp (maxSteps := 1000000) (disch := omega) only [f_R_wrongResults_B10, f_R_wrongResults_J150, f_R_wrongResults_J163, kd_t h.rs.1, rs_P14 h.rs, kd_t (rs_K14 h.rs), rs_N14 h.rs, ri_14 h, rs_P32 h.rs, kd_t (rs_K32 h.rs), rs_N32 h.rs, l0_e, l0_le, l0_ge, l0_lt, l0_gt, l1_m, l1_a, l1_b, l1_s, l1_e, l1_le, l1_ge, l1_lt, l1_gt, lt_t, nn_t, bd_t, bdD_t, bdP_t, nI_clamp, gi_n, nI_add, nI_1, pk_mul, b2_eq0, b2_01, nb_t, if_true, if_false, ni_le, ni_eq, ni_lt, hf.1]
    rw [if_pos (by omega)]
    unfold wr
    by_cases q0 : oth s fl i fl.length ≤ 0
    · rw [if_pos q0, decide_eq_false (by omega), Bool.false_and]; rfl
    · rw [if_neg q0, decide_eq_true (by omega), Bool.true_and]
      cases plR s fl i fl.length with
      | true => rfl
      | false => cases leR s fl i fl.length <;> rfl
def fc (x : Int32) (k : Nat) : Nat := ub x k - 24
def pkK (s : Nat → Nat → Nat) (x : Int32) : Nat → Nat
  | 0 => 4
  | k + 1 => if s 9 (fc x k) = 0 then s 8 (fc x k) else pkK s x k
def mxK (s : Nat → Nat → Nat) (x : Int32) : Nat → Bool
  | 0 => false
  | k + 1 => mxK s x k || (decide (s 9 (fc x k) = 0) && (decide (pkK s x k < 4) && decide (pkK s x k ≠ s 8 (fc x k))))
def twK (x : Int32) : Nat → Bool
  | 0 => false
  | k + 1 => twK x k || anyb (fun o => decide (fc x o = fc x k)) k
noncomputable def fault (s : Nat → Nat → Nat) (l : Nat) (x : Int32) : Nat :=
  if fst (fun k => !vis s l (fc x k)) (ln x) < ln x then 1 else if twK x (ln x) then 2 else if mxK s x (ln x) then 3 else if fst (fun i => wr s (dsc s x) i) (dsc s x).length < (dsc s x).length then 4 else if 40 < (dsc s x).length then 5 else if s 21 0 = 16 then 6 else 0
theorem r_fa_57 {x : Int32} {k : Nat} (hk : k < 4) (ho : ∀ o, o ≤ k → 24 ≤ ub x o) {v1 v3 v4 : Int32} {t : Bool} {kx : gD → Int32 → Int32 → Int32 → Int32 → Int32 → Int32 → Int32 → Option (Int32 × gD)} {z : gD → Int32 → Int32 → Int32 → Int32 → Int32 → Int32 → Int32 → Int32 → Option (Int32 × gD)} : itr (f_R_faultOf_B57 S m kx) z fu d v1 x v3 v4 (b2 t) (nI (8 * k)) (nI (fc x k)) 0 = kx d v1 x v3 v4 (b2 (t || anyb (fun o => decide (fc x o = fc x k)) k)) (nI (8 * k)) (nI (fc x k)) := by
  have e0 : b2 t = b2 (t || anyb (fun o => decide (fc x o = fc x k)) 0) := by rw [anyb_0, Bool.or_false]
  rw [e0]
  refine itr_0 (B := f_R_faultOf_B57 S m kx) (fun j K => K d v1 x v3 v4 (b2 (t || anyb (fun o => decide (fc x o = fc x k)) j)) (nI (8 * k)) (nI (fc x k)) (nI (8 * j))) _ k (by omega) ?_ ?_
  · intro j hj K hK
    have hu := ub_lt x j
    have hu2 := ub_lt x k
    have ho1 := ho j (by omega)
    have hf1 : fc x k < 2 ^ 31 := by unfold fc; omega
    simp (maxSteps := 1000000) (disch := omega) only [f_R_faultOf_B57, f_R_faultOf_J83, l1_m, l1_a, l1_b, l1_s, l1_e, l1_le, l1_ge, l1_lt, l1_gt, l8_m, l8_a, l8_b, l8_s, l8_e, l8_le, l8_ge, l8_lt, l8_gt, l24_m, l24_a, l24_b, l24_s, l24_e, l24_le, l24_ge, l24_lt, l24_gt, l31_m, l31_a, l31_b, l31_s, l31_e, l31_le, l31_ge, l31_lt, l31_gt, l255_m, l255_a, l255_b, l255_s, l255_e, l255_le, l255_ge, l255_lt, l255_gt, lt_t, nn_t, bd_t, bdD_t, bdP_t, nI_clamp, gi_n, nI_add, nI_1, pk_mul, b2_eq0, b2_01, nb_t, if_true, if_false, ni_le, ni_eq, ni_lt, ub_s x (show j < 4 by omega)]
    rw [if_neg (by omega)]
    rw [anyb_s] at hK
    by_cases q : ub x j - 24 = fc x k
    · rw [decide_eq_true (show fc x j = fc x k from q), Bool.or_true, Bool.or_true] at hK; rw [if_pos q]; exact hK
    · rw [decide_eq_false (show ¬ fc x j = fc x k from q), Bool.or_false] at hK; rw [if_neg q]; exact hK
  · intro K
    simp (maxSteps := 1000000) (disch := omega) only [f_R_faultOf_B57, l1_m, l1_a, l1_b, l1_s, l1_e, l1_le, l1_ge, l1_lt, l1_gt, l24_m, l24_a, l24_b, l24_s, l24_e, l24_le, l24_ge, l24_lt, l24_gt, l31_m, l31_a, l31_b, l31_s, l31_e, l31_le, l31_ge, l31_lt, l31_gt, l255_m, l255_a, l255_b, l255_s, l255_e, l255_le, l255_ge, l255_lt, l255_gt, lt_t, nn_t, bd_t, bdD_t, bdP_t, nI_clamp, gi_n, nI_add, nI_1, pk_mul, b2_eq0, b2_01, nb_t, if_true, if_false, ni_le, ni_eq, ni_lt]
    rw [if_pos (by omega)]
theorem pkK_le (b : BI s) {x : Int32} (ho : okL s x) : ∀ k, k ≤ ln x → pkK s x k ≤ 4 := by
  intro k
  induction k with
  | zero => intro _; exact Nat.le_refl _
  | succ k ih =>
    intro hk
    have := ho k (by omega)
    have := b.facePack (fc x k) (by unfold fc; omega)
    have := ih (by omega)
    unfold pkK
    split <;> omega
theorem r_faultOf (h : RI S d m s) (b : BI s) {l : Nat} (hl : l < s 1 0) {x : Int32} (ho : okL s x) : ∃ e, f_R_faultOf S d m (nI l) x = some (nI (fault s l x), e) ∧ Ch (PD m) d e := by
  have hF := b.faces
  have hL := b.loaders
  have hln := ln_le x
  unfold f_R_faultOf
  have hle := fst_le (fun k => !vis s l (fc x k)) (ln x)
  have body : ∀ k, k < ln x → ∀ K, f_R_faultOf_B11 S m (f_R_faultOf_J132 S m) K d (nI l) x (nI (pkK s x k)) (b2 (mxK s x k)) (b2 (twK x k)) (nI (8 * k)) = if vis s l (fc x k) = false then some (1, d) else K d (nI l) x (nI (pkK s x (k + 1))) (b2 (mxK s x (k + 1))) (b2 (twK x (k + 1))) (nI (8 * (k + 1))) := by
    intro k hk K
    have hkf := ho k hk
    have hub := ub_lt x k
    have hfk : fc x k < s 5 0 := by unfold fc; omega
    have hpk := pkK_le b ho k (by omega)
    have hp8 := b.facePack _ hfk
    have hp9 := b.faceOpen (fc x k)
    simp (maxSteps := 1000000) (disch := omega) only [f_R_faultOf_B11, kd_t h.rs.1, l0_e, l0_le, l0_ge, l0_lt, l0_gt, l1_m, l1_a, l1_b, l1_s, l1_e, l1_le, l1_ge, l1_lt, l1_gt, l24_m, l24_a, l24_b, l24_s, l24_e, l24_le, l24_ge, l24_lt, l24_gt, l31_m, l31_a, l31_b, l31_s, l31_e, l31_le, l31_ge, l31_lt, l31_gt, l32_m, l32_a, l32_b, l32_s, l32_e, l32_le, l32_ge, l32_lt, l32_gt, l255_m, l255_a, l255_b, l255_s, l255_e, l255_le, l255_ge, l255_lt, l255_gt, lt_t, nn_t, bd_t, bdD_t, bdP_t, nI_clamp, gi_n, nI_add, nI_1, pk_mul, b2_eq0, b2_01, nb_t, if_true, if_false, ni_le, ni_eq, ni_lt, ub_s x (show k < 4 by omega)]
    rw [if_neg (by omega), if_neg (by omega)]
    simp only [show ub x k - 24 = fc x k from rfl, r_visible h b l (fc x k) hl hfk, bd_t, b2_eq0]
    cases qv : vis s l (fc x k) with
    | false => rw [if_pos rfl, if_pos rfl]
    | true =>
      rw [if_neg (by decide), if_neg (by decide)]
      rw [r_fa_57 (show k < 4 by omega) (fun o h2 => (ho o (by omega)).1)]
      simp (maxSteps := 1000000) (disch := omega) only [f_R_faultOf_J89, f_R_faultOf_J118, f_R_faultOf_J126, kd_t h.rs.1, rs_P8 h.rs, kd_t (rs_K8 h.rs), rs_N8 h.rs, ri_8 h, rs_P9 h.rs, kd_t (rs_K9 h.rs), rs_N9 h.rs, ri_9 h, l0_e, l0_le, l0_ge, l0_lt, l0_gt, l1_m, l1_a, l1_b, l1_s, l1_e, l1_le, l1_ge, l1_lt, l1_gt, l4_m, l4_a, l4_b, l4_s, l4_e, l4_le, l4_ge, l4_lt, l4_gt, l8_m, l8_a, l8_b, l8_s, l8_e, l8_le, l8_ge, l8_lt, l8_gt, lt_t, nn_t, bd_t, bdD_t, bdP_t, nI_clamp, gi_n, nI_add, nI_1, pk_mul, b2_eq0, b2_01, nb_t, if_true, if_false, ni_le, ni_eq, ni_lt]
      rw [show pkK s x (k + 1) = if s 9 (fc x k) = 0 then s 8 (fc x k) else pkK s x k from rfl, show mxK s x (k + 1) = (mxK s x k || (decide (s 9 (fc x k) = 0) && (decide (pkK s x k < 4) && decide (pkK s x k ≠ s 8 (fc x k))))) from rfl, show twK x (k + 1) = (twK x k || anyb (fun o => decide (fc x o = fc x k)) k) from rfl]
      rw [show 8 * (k + 1) = 8 * k + 8 by omega]
      by_cases q9 : s 9 (fc x k) = 0
      · rw [if_pos q9, if_pos q9, decide_eq_true q9, Bool.true_and]
        by_cases q4 : 4 ≤ pkK s x k
        · rw [if_pos q4, decide_eq_false (show ¬ pkK s x k < 4 by omega), Bool.false_and, Bool.or_false]
        · rw [if_neg q4, decide_eq_true (show pkK s x k < 4 by omega), Bool.true_and]
          by_cases qe : pkK s x k = s 8 (fc x k)
          · rw [if_pos qe, decide_eq_false (by simpa using qe), Bool.or_false]
          · rw [if_neg qe, decide_eq_true qe, Bool.or_true]; rfl
      · rw [if_neg q9, if_neg q9, decide_eq_false q9, Bool.false_and, Bool.or_false]
  by_cases qv : fst (fun k => !vis s l (fc x k)) (ln x) < ln x
  · refine ⟨d, ?_, ch_r⟩
    have hy := fst_yes _ _ qv
    refine itr_0 (B := f_R_faultOf_B11 S m (f_R_faultOf_J132 S m)) (fun k K => K d (nI l) x (nI (pkK s x k)) (b2 (mxK s x k)) (b2 (twK x k)) (nI (8 * k))) _ (fst (fun k => !vis s l (fc x k)) (ln x)) (by omega) ?_ ?_
    · intro k hk K hK
      have no := fst_no _ _ k hk
      rw [body k (by omega), if_neg (by simpa using no)]
      exact hK
    · intro K
      rw [body _ qv, if_pos (by simpa using hy)]
      unfold fault
      rw [if_pos qv]
      rfl
  · have evis : fst (fun k => !vis s l (fc x k)) (ln x) = ln x := by omega
    have rest : ∃ e, f_R_faultOf_J132 S m d x (b2 (mxK s x (ln x))) (b2 (twK x (ln x))) = some (nI (fault s l x), e) ∧ Ch (PD m) d e := by
      unfold fault
      rw [if_neg qv]
      simp (maxSteps := 1000000) (disch := omega) only [f_R_faultOf_J132, l0_e, l0_le, l0_ge, l0_lt, l0_gt, l2_m, l2_a, l2_b, l2_s, l2_e, l2_le, l2_ge, l2_lt, l2_gt, l3_m, l3_a, l3_b, l3_s, l3_e, l3_le, l3_ge, l3_lt, l3_gt, lt_t, nn_t, bd_t, bdD_t, bdP_t, nI_clamp, gi_n, nI_add, nI_1, pk_mul, b2_eq0, b2_01, nb_t, if_true, if_false, ni_le, ni_eq, ni_lt, kd_t h.rs.1]
      cases qt : twK x (ln x) with
      | true => rw [if_neg (show ¬ (true = false) by decide), if_pos (rfl : true = true)]; exact ⟨d, rfl, ch_r⟩
      | false =>
        rw [if_pos (rfl : false = false), if_neg (show ¬ (false = true) by decide)]
        cases qm : mxK s x (ln x) with
        | true => rw [if_neg (show ¬ (true = false) by decide), if_pos (rfl : true = true)]; exact ⟨d, rfl, ch_r⟩
        | false =>
          rw [if_pos (rfl : false = false), if_neg (show ¬ (false = true) by decide)]
          obtain ⟨e, q1, c1, ds⟩ := r_describe h b ho
          rw [q1, bdD_t]
          have he := ri_PD h c1
          have hg := GF_dscK b ho _ (Nat.le_refl _)
          have hll := GF_len hg
          have hst := b.stands
          refine ⟨e, ?_, c1⟩
          refine itr_f (B := f_R_faultOf_B154 S m (f_R_faultOf_J180 S m)) (fun k K => K e (nI k)) (fun i => wr s (dsc s x) i) (dsc s x).length _ (by unfold dsc; omega) ?_ ?_ ?_
          · intro k hk hp K hK
            have hk2 : (dsc s x).length ≤ 75 := hll
            simp (maxSteps := 1000000) (disch := omega) only [f_R_faultOf_B154, kd_t he.rs.1, l0_e, l0_le, l0_ge, l0_lt, l0_gt, l1_m, l1_a, l1_b, l1_s, l1_e, l1_le, l1_ge, l1_lt, l1_gt, l4_m, l4_a, l4_b, l4_s, l4_e, l4_le, l4_ge, l4_lt, l4_gt, lt_t, nn_t, bd_t, bdD_t, bdP_t, nI_clamp, gi_n, nI_add, nI_1, pk_mul, b2_eq0, b2_01, nb_t, if_true, if_false, ni_le, ni_eq, ni_lt, ds.1.1, r_wrongResults he b ds.1 hg hk]
            rw [if_neg (by omega), if_pos hp]
            exact hK
          · intro k hk hp hfe K
            have hk2 : (dsc s x).length ≤ 75 := hll
            simp (maxSteps := 1000000) (disch := omega) only [f_R_faultOf_B154, kd_t he.rs.1, l0_e, l0_le, l0_ge, l0_lt, l0_gt, l1_m, l1_a, l1_b, l1_s, l1_e, l1_le, l1_ge, l1_lt, l1_gt, l4_m, l4_a, l4_b, l4_s, l4_e, l4_le, l4_ge, l4_lt, l4_gt, lt_t, nn_t, bd_t, bdD_t, bdP_t, nI_clamp, gi_n, nI_add, nI_1, pk_mul, b2_eq0, b2_01, nb_t, if_true, if_false, ni_le, ni_eq, ni_lt, ds.1.1, r_wrongResults he b ds.1 hg hk]
            rw [if_neg (by omega), if_neg (by rw [hp]; decide), hfe, if_pos hk]
            rfl
          · intro hfe K
            have hk2 : (dsc s x).length ≤ 75 := hll
            simp (maxSteps := 1000000) (disch := omega) only [f_R_faultOf_B154, f_R_faultOf_J180, kd_t he.rs.1, ri_21 he, l0_e, l0_le, l0_ge, l0_lt, l0_gt, l1_m, l1_a, l1_b, l1_s, l1_e, l1_le, l1_ge, l1_lt, l1_gt, l4_m, l4_a, l4_b, l4_s, l4_e, l4_le, l4_ge, l4_lt, l4_gt, l5_m, l5_a, l5_b, l5_s, l5_e, l5_le, l5_ge, l5_lt, l5_gt, l6_m, l6_a, l6_b, l6_s, l6_e, l6_le, l6_ge, l6_lt, l6_gt, l16_m, l16_a, l16_b, l16_s, l16_e, l16_le, l16_ge, l16_lt, l16_gt, l40_m, l40_a, l40_b, l40_s, l40_e, l40_le, l40_ge, l40_lt, l40_gt, lt_t, nn_t, bd_t, bdD_t, bdP_t, nI_clamp, gi_n, nI_add, nI_1, pk_mul, b2_eq0, b2_01, nb_t, if_true, if_false, ni_le, ni_eq, ni_lt, ds.1.1]
            rw [if_pos (Nat.le_refl _), hfe, if_neg (Nat.lt_irrefl _)]
            by_cases q40 : (dsc s x).length ≤ 40
            · rw [if_pos q40, if_neg (show ¬ 40 < (dsc s x).length by omega)]
              by_cases q16 : s 21 0 = 16
              · rw [if_pos q16, if_pos q16]; rfl
              · rw [if_neg q16, if_neg q16]; rfl
            · rw [if_neg q40, if_pos (show 40 < (dsc s x).length by omega)]; rfl
    obtain ⟨e, q1, c1⟩ := rest
    refine ⟨e, ?_, c1⟩
    refine itr_0 (B := f_R_faultOf_B11 S m (f_R_faultOf_J132 S m)) (fun k K => K d (nI l) x (nI (pkK s x k)) (b2 (mxK s x k)) (b2 (twK x k)) (nI (8 * k))) _ (ln x) (by omega) ?_ ?_
    · intro k hk K hK
      have no := fst_no (fun k => !vis s l (fc x k)) (ln x) k (by omega)
      rw [body k (by omega), if_neg (by simpa using no)]
      exact hK
    · intro K
      simp (maxSteps := 1000000) (disch := omega) only [f_R_faultOf_B11, lt_t, nn_t, bd_t, bdD_t, bdP_t, nI_clamp, gi_n, nI_add, nI_1, pk_mul, b2_eq0, b2_01, nb_t, if_true, if_false, ni_le, ni_eq, ni_lt]
      by_cases q : ln x < 4
      · have z0 := of_decide_eq_true (fst_yes (fun k => decide (ub x k = 0)) 4 q)
        rw [ub_s x q]
        rw [show ub x (ln x) = 0 from z0, if_neg (by rw [l32_ge _ (by omega)]; omega), if_pos nI_0]
        exact q1
      · rw [if_pos (by rw [l32_ge _ (by omega)]; omega)]
        exact q1
end ref
