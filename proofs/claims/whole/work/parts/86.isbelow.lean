def bt (x : Int32) (i : Nat) : Bool := x.toBitVec.getLsbD i
theorem b_ext {x y : Int32} (h : ∀ i, i < 32 → bt x i = bt y i) : x = y := by
  apply Int32.toBitVec_inj.mp
  apply BitVec.eq_of_getLsbD_eq
  exact h
theorem b_or (x y : Int32) (i : Nat) : bt (x ||| y) i = (bt x i || bt y i) := by
  unfold bt
  rw [Int32.toBitVec_or, BitVec.getLsbD_or]
theorem b_and (x y : Int32) (i : Nat) : bt (x &&& y) i = (bt x i && bt y i) := by
  unfold bt
  rw [Int32.toBitVec_and, BitVec.getLsbD_and]
theorem q_sm : ∀ n, n < 32 → ((nI n &&& 31).toBitVec.smod 32).toNat = n := by decide
theorem b_shl (n : Nat) (hn : n < 32) (x : Int32) {i : Nat} (hi : i < 32) : bt (x <<< (nI n &&& 31)) i = (decide (n ≤ i) && bt x (i - n)) := by
  unfold bt
  rw [Int32.toBitVec_shiftLeft, BitVec.getLsbD_shiftLeft', q_sm n hn]
  by_cases h : n ≤ i
  · have : ¬ i < n := by omega
    simp [hi, h, this]
  · have : i < n := by omega
    simp [h, this]
theorem b_sshr (n : Nat) (hn : n < 32) (x : Int32) {i : Nat} (hi : n + i < 32) : bt (x >>> (nI n &&& 31)) i = bt x (n + i) := by
  unfold bt
  rw [Int32.toBitVec_shiftRight, BitVec.getLsbD_sshiftRight', q_sm n hn, if_pos hi]
  have : ¬ 32 ≤ i := by omega
  simp [this]
theorem bt_1 : ∀ i, i < 32 → bt 1 i = decide (i = 0) := by decide
theorem bt_tst {x : Int32} {n : Nat} (hn : n < 32) : (((x >>> (nI n &&& 31)) &&& 1) = 1) = (bt x n = true) := by
  apply propext
  constructor
  · intro h
    have : bt ((x >>> (nI n &&& 31)) &&& 1) 0 = bt 1 0 := by rw [h]
    rw [b_and, b_sshr n hn x (by omega), bt_1 0 (by omega)] at this
    simpa using this
  · intro h
    apply b_ext
    intro i hi
    rw [b_and, bt_1 i hi]
    by_cases q : i = 0
    · subst q
      rw [b_sshr n hn x (by omega)]
      simpa using h
    · simp [q]
theorem bt_bit {n i : Nat} (hn : n < 32) (hi : i < 32) : bt ((1 : Int32) <<< (nI n &&& 31)) i = decide (i = n) := by
  rw [b_shl n hn 1 hi, bt_1 (i - n) (by omega)]
  by_cases q : i = n
  · subst q; simp
  · by_cases r : n ≤ i
    · have : ¬ i - n = 0 := by omega
      simp [q, r, this]
    · simp [q, r]
def Bel (s : Nat → Nat → Nat) (a c : Nat) : Prop := a = c ∨ (ty s a ∧ Rch (TE s) a c)
noncomputable def bw (s : Nat → Nat → Nat) (v w : Int32) : Bool := pb (v = w ∨ ∃ a c, v = nI a ∧ w = nI c ∧ a < 47 ∧ c < 47 ∧ Bel s a c)
theorem bw_eq {s : Nat → Nat → Nat} {v : Int32} : bw s v v = true := pb_t (.inl rfl)
theorem bel_lt {s : Nat → Nat → Nat} (b : BI s) {a c : Nat} (h : Bel s a c) (hn : a ≠ c) : a < 47 ∧ c < 47 ∧ ty s a ∧ ty s c ∧ Rch (TE s) a c := by
  rcases h with h | ⟨h, r⟩
  · exact absurd h hn
  · have h2 := rch_ty b h r
    have hc := b.classes
    have hf := b.faces
    have t1 : a < 47 := by unfold ty at h; omega
    have t2 : c < 47 := by unfold ty at h2; omega
    exact ⟨t1, t2, h, h2, r⟩
theorem bw_nI {s : Nat → Nat → Nat} (b : BI s) {a c : Nat} (ha : a < 2 ^ 31) (hc : c < 2 ^ 31) : bw s (nI a) (nI c) = pb (Bel s a c) := by
  unfold bw
  apply pb_congr
  constructor
  · rintro (e | ⟨x, y, e1, e2, h1, h2, h3⟩)
    · exact .inl ((nI_eq ha hc).mp e)
    · rw [(nI_eq ha (by omega)).mp e1, (nI_eq hc (by omega)).mp e2]; exact h3
  · intro h
    by_cases q : a = c
    · exact .inl (by rw [q])
    · have := bel_lt b h q
      exact .inr ⟨a, c, rfl, rfl, this.1, this.2.1, h⟩
theorem te_nf {s : Nat → Nat → Nat} {a x : Nat} (h : TE s a x) (n : ¬ (24 ≤ a ∧ a < 24 + s 5 0)) : (8 ≤ a ∧ a < s 3 0 ∧ x = s 4 a) ∨ (41 ≤ a ∧ a ≤ 46 ∧ x = 7) := by
  rcases h with h | h | h
  · exact .inl h
  · exact absurd ⟨h.1, h.2.1⟩ n
  · exact .inr h
section ref
variable {S : gS} {d : gD} {m : Nat} {s : Nat → Nat → Nat}
theorem r_below_c (h : RI S d m s) (b : BI s) {c : Nat} (hc : c < 2 ^ 31) (h7 : c ≠ 7) {z : Int32 → Int32 → Option Int32} : ∀ n t, (t = 7 ∨ (8 ≤ t ∧ t < s 3 0)) → t < n → itr (f_R_isBelow_B57 S d m (f_R_isBelow_J78 S d m)) z n (nI c) (nI t) = some (b2 (pb (Rch (TE s) t c))) := by
  intro n
  induction n with
  | zero => intro t _ h; omega
  | succ n ih =>
    intro t ht hn
    have hcl := b.classes
    rw [itr_s]
    simp (maxSteps := 1000000) (disch := omega) only [f_R_isBelow_B57, f_R_isBelow_J78, kd_t h.rs.1, rs_P4 h.rs, kd_t (rs_K4 h.rs), rs_N4 h.rs, ri_4 h, l0_e, l0_le, l0_ge, l0_lt, l0_gt, l1_m, l1_a, l1_b, l1_s, l1_e, l1_le, l1_ge, l1_lt, l1_gt, l7_m, l7_a, l7_b, l7_s, l7_e, l7_le, l7_ge, l7_lt, l7_gt, lt_t, nn_t, bd_t, bdD_t, bdP_t, nI_clamp, gi_n, nI_add, nI_1, pk_mul, b2_eq0, b2_01, nb_t, if_true, if_false, ni_le, ni_eq, ni_lt, ni_eq]
    by_cases q7 : t = 7
    · rw [if_pos q7, if_neg (by omega), pb_f]
      · rfl
      · intro r
        rcases Rch_c r with e | ⟨x, hx, _⟩
        · omega
        · have := te_lt b hx
          unfold TE at hx
          omega
    · rw [if_neg q7]
      by_cases qc : t = c
      · rw [if_pos qc, if_pos qc, qc, pb_t (Rch_r _ _)]; rfl
      · rw [if_neg qc]
        have h4 : 8 ≤ t ∧ t < s 3 0 := by omega
        have hp := b.parentC t h4.1 h4.2
        rw [ih (s 4 t) (by omega) (by omega)]
        congr 2
        apply pb_congr
        constructor
        · intro r; exact Rch_s (.inl ⟨h4.1, h4.2, rfl⟩) r
        · intro r
          rcases Rch_c r with e | ⟨x, hx, hr⟩
          · exact absurd e qc
          · have : x = s 4 t := by
              unfold TE at hx
              omega
            rw [← this]; exact hr
def orp (s : Nat → Nat → Nat) (f : Nat) (u : Int32) : Nat → Int32
  | 0 => u
  | p + 1 => orp s f u p ||| ((1 : Int32) <<< (nI (s 10 (2 * f + p)) &&& 31))
theorem orp_bt (b : BI s) {f : Nat} (hf : f < 12) {u : Int32} {g : Nat} (hg : g < 32) : ∀ p, p ≤ s 11 f → (bt (orp s f u p) g = true ↔ bt u g = true ∨ ∃ q, q < p ∧ s 10 (2 * f + q) = g) := by
  intro p
  induction p with
  | zero =>
    intro _
    constructor
    · intro e; exact .inl e
    · rintro (e | ⟨q, hq, _⟩)
      · exact e
      · omega
  | succ p ih =>
    intro hp
    have hpf := b.parentF f p (by omega)
    show bt (orp s f u p ||| _) g = true ↔ _
    rw [b_or, bt_bit (by omega) hg, Bool.or_eq_true, ih (by omega), decide_eq_true_iff]
    constructor
    · rintro ((e | ⟨q, hq, e⟩) | e)
      · exact .inl e
      · exact .inr ⟨q, by omega, e⟩
      · exact .inr ⟨p, by omega, e.symm⟩
    · rintro (e | ⟨q, hq, e⟩)
      · exact .inl (.inl e)
      · by_cases qp : q = p
        · subst qp; exact .inr e.symm
        · exact .inl (.inr ⟨q, by omega, e⟩)
theorem r_dfs_in (h : RI S d m s) (b : BI s) {f : Nat} (hf : f < 12) {w u : Int32} {kx : Int32 → Int32 → Int32 → Option Int32} {z : Int32 → Int32 → Int32 → Int32 → Option Int32} : itr (f_R_isBelow_B138 S d m kx) z fu w u (nI f) 0 = kx w (orp s f u (s 11 f)) (nI f) := by
  have hp := b.parentN f
  refine itr_0 (B := f_R_isBelow_B138 S d m kx) (fun k K => K w (orp s f u k) (nI f) (nI k)) _ (s 11 f) (by omega) ?_ ?_
  · intro k hk K hK
    simp (maxSteps := 1000000) (disch := omega) only [f_R_isBelow_B138, kd_t h.rs.1, rs_P10 h.rs, kd_t (rs_K10 h.rs), rs_N10 h.rs, ri_10 h, rs_P11 h.rs, kd_t (rs_K11 h.rs), rs_N11 h.rs, ri_11 h, l1_m, l1_a, l1_b, l1_s, l1_e, l1_le, l1_ge, l1_lt, l1_gt, l2_m, l2_a, l2_b, l2_s, l2_e, l2_le, l2_ge, l2_lt, l2_gt, l31_m, l31_a, l31_b, l31_s, l31_e, l31_le, l31_ge, l31_lt, l31_gt, lt_t, nn_t, bd_t, bdD_t, bdP_t, nI_clamp, gi_n, nI_add, nI_1, pk_mul, b2_eq0, b2_01, nb_t, if_true, if_false, ni_le, ni_eq, ni_lt, ni_le]
    rw [if_neg (by omega)]
    exact hK
  · intro K
    simp (maxSteps := 1000000) (disch := omega) only [f_R_isBelow_B138, kd_t h.rs.1, rs_P10 h.rs, kd_t (rs_K10 h.rs), rs_N10 h.rs, ri_10 h, rs_P11 h.rs, kd_t (rs_K11 h.rs), rs_N11 h.rs, ri_11 h, l1_m, l1_a, l1_b, l1_s, l1_e, l1_le, l1_ge, l1_lt, l1_gt, l2_m, l2_a, l2_b, l2_s, l2_e, l2_le, l2_ge, l2_lt, l2_gt, l31_m, l31_a, l31_b, l31_s, l31_e, l31_le, l31_ge, l31_lt, l31_gt, lt_t, nn_t, bd_t, bdD_t, bdP_t, nI_clamp, gi_n, nI_add, nI_1, pk_mul, b2_eq0, b2_01, nb_t, if_true, if_false, ni_le, ni_eq, ni_lt, ni_le]
    rw [if_pos (by omega)]
def dn : Nat → Int32
  | 0 => -1
  | j + 1 => nI j
theorem dn_neg {j : Nat} (h : j < 2 ^ 31) : (dn j < 0) = (j = 0) := by
  cases j with
  | zero => simp [dn]
  | succ j => simp only [dn, ni_neg j (by omega)]; simp
theorem dn_m1 (j : Nat) : nI j + (-1) = dn j := by
  cases j with
  | zero => rfl
  | succ j => exact sb_m1 (p := j + 1) (by omega)
theorem r_dfs (h : RI S d m s) (b : BI s) {a0 c : Nat} (ha : a0 < s 5 0) (h1 : 24 ≤ c) (h2 : c < 24 + s 5 0) {z : Int32 → Int32 → Int32 → Option Int32} : ∀ j n u, j < n → j ≤ a0 + 1 → (∀ g, g < 32 → (bt u g = true ↔ g = a0 ∨ ∃ k, j ≤ k ∧ Rch (FE s) a0 k ∧ FE s k g)) → itr (f_R_isBelow_B120 S d m (f_R_isBelow_J179 S d m)) z n (nI c) u (dn j) = some (b2 (pb (Rch (FE s) a0 (c - 24)))) := by
  have hfa := b.faces
  intro j
  induction j with
  | zero =>
    intro n u hn hj hi
    obtain ⟨n, rfl⟩ : ∃ k, n = k + 1 := ⟨n - 1, by omega⟩
    rw [itr_s]
    simp (maxSteps := 1000000) (disch := omega) only [f_R_isBelow_B120, f_R_isBelow_J179, kd_t h.rs.1, lt_t, nn_t, bd_t, bdD_t, bdP_t, nI_clamp, gi_n, nI_add, nI_1, pk_mul, b2_eq0, b2_01, nb_t, if_true, if_false, ni_le, ni_eq, ni_lt, dn_neg, l24_s, bt_tst]
    have := hi (c - 24) (by omega)
    by_cases q : bt u (c - 24) = true
    · rw [if_pos q, pb_t]
      · rfl
      · rcases this.mp q with e | ⟨k, _, r, e⟩
        · rw [e]; exact Rch_r _ _
        · exact Rch_t r (Rch_e e)
    · rw [if_neg q, pb_f]
      · rfl
      · intro r
        apply q
        apply this.mpr
        rcases Rch_l r with e | ⟨k, r1, e⟩
        · exact .inl e.symm
        · exact .inr ⟨k, by omega, r1, e⟩
  | succ j ih =>
    intro n u hn hj hi
    obtain ⟨n, rfl⟩ : ∃ k, n = k + 1 := ⟨n - 1, by omega⟩
    rw [itr_s]
    have hj1 : dn (j + 1) = nI j := rfl
    have key : (bt u j = true) ↔ Rch (FE s) a0 j := by
      rw [hi j (by omega)]
      constructor
      · rintro (e | ⟨k, _, r, e⟩)
        · rw [e]; exact Rch_r _ _
        · exact Rch_t r (Rch_e e)
      · intro r
        rcases Rch_l r with e | ⟨k, r1, e⟩
        · exact .inl e.symm
        · have := fe_lt b e
          exact .inr ⟨k, by omega, r1, e⟩
    rw [hj1]
    simp (maxSteps := 1000000) (disch := omega) only [f_R_isBelow_B120, f_R_isBelow_J173, lt_t, nn_t, bd_t, bdD_t, bdP_t, nI_clamp, gi_n, nI_add, nI_1, pk_mul, b2_eq0, b2_01, nb_t, if_true, if_false, ni_le, ni_eq, ni_lt, ni_neg, bt_tst, r_dfs_in h b (show j < 12 by omega), dn_m1]
    by_cases q : bt u j = true
    · rw [if_pos q]
      apply ih n _ (by omega) (by omega)
      intro g hg
      rw [orp_bt b (by omega) hg _ (Nat.le_refl _), hi g hg]
      constructor
      · rintro ((e | ⟨k, hk, r, e⟩) | e)
        · exact .inl e
        · exact .inr ⟨k, by omega, r, e⟩
        · exact .inr ⟨j, by omega, key.mp q, e⟩
      · rintro (e | ⟨k, hk, r, e⟩)
        · exact .inl (.inl e)
        · by_cases qk : k = j
          · subst qk; exact .inr e
          · exact .inl (.inr ⟨k, by omega, r, e⟩)
    · rw [if_neg q]
      apply ih n _ (by omega) (by omega)
      intro g hg
      rw [hi g hg]
      constructor
      · rintro (e | ⟨k, hk, r, e⟩)
        · exact .inl e
        · exact .inr ⟨k, by omega, r, e⟩
      · rintro (e | ⟨k, hk, r, e⟩)
        · exact .inl e
        · by_cases qk : k = j
          · subst qk; exact absurd (key.mpr r) q
          · exact .inr ⟨k, by omega, r, e⟩
theorem thI_nI (b : BI s) {a : Nat} (ha : a < 2 ^ 31) : (thI s (nI a) = true) ↔ ((1 ≤ a ∧ a ≤ 6) ∨ ty s a) := by
  have hc := b.classes
  have hf := b.faces
  unfold thI ty
  rw [show (8 : Int32) = nI 8 from rfl, show (24 : Int32) = nI 24 from rfl, cIn_nI (by omega) (by omega) ha, cIn_nI (by omega) (by omega) ha]
  simp only [l1_ge a ha, l6_le a ha, l7_e a ha, l41_ge a ha, l46_le a ha, Bool.or_eq_true, Bool.and_eq_true, decide_eq_true_iff]
theorem thI_of (b : BI s) {v : Int32} (h : thI s v = true) : ∃ a, a < 47 ∧ v = nI a := by
  have hc := b.classes
  have hf := b.faces
  rcases pk_ix v (n := 47) (by omega) with q | q | q
  · exfalso
    have n1 : ∀ k : Nat, k < 2 ^ 31 → ¬ nI k ≤ v := fun k hk e => nI_pos hk (Int32.lt_of_le_of_lt e q)
    have e1 : ¬ (1 : Int32) ≤ v := n1 1 (by omega)
    have e2 : ¬ v = 7 := fun e => n1 7 (by omega) (by rw [e]; decide)
    have e3 : ¬ (8 : Int32) ≤ v := n1 8 (by omega)
    have e4 : ¬ (24 : Int32) ≤ v := n1 24 (by omega)
    have e5 : ¬ (41 : Int32) ≤ v := n1 41 (by omega)
    simp [thI, cIn, e1, e2, e3, e4, e5] at h
  · exfalso
    have n1 : ∀ k : Nat, k < 47 → ¬ v ≤ nI k := fun k hk e => nI_ge hk (by omega) (Int32.le_trans q e)
    have n2 : ∀ k : Nat, k < 48 → ¬ v < nI k := fun k hk e => by
      have := Int32.lt_of_le_of_lt q e
      rw [nI_ltI (by omega) (by omega)] at this
      omega
    have e1 : ¬ v ≤ 6 := n1 6 (by omega)
    have e2 : ¬ v = 7 := fun e => n1 7 (by omega) (by rw [e]; decide)
    have e3 : ¬ v < nI (s 3 0) := n2 _ (by omega)
    have e4 : ¬ v < nI (24 + s 5 0) := n2 _ (by omega)
    have e5 : ¬ v ≤ 46 := n1 46 (by omega)
    simp [thI, cIn, e1, e2, e3, e4, e5] at h
  · exact q
theorem r_isBelow (h : RI S d m s) (b : BI s) (v w : Int32) : f_R_isBelow S d m v w = some (b2 (bw s v w)) := by
  have hc := b.classes
  have hf := b.faces
  simp only [f_R_isBelow]
  by_cases q0 : v = w
  · rw [if_pos q0, q0, bw_eq]; rfl
  · rw [if_neg q0]
    simp only [kd_t h.rs.1, r_there h, bd_t, b2_eq0, r_isPlain, r_isClass h, r_isFace h]
    have no : ∀ {x : Int32}, thI s x = false → ∀ a, x = nI a → a < 2 ^ 31 → ¬ ty s a := by
      intro x hx a e ha ht
      rw [e, (thI_nI b ha).mpr (.inr ht)] at hx
      cases hx
    by_cases q1 : thI s v = false
    · rw [if_pos q1, bw, pb_f]
      · rfl
      · rintro (e | ⟨a, c, e1, e2, ha, hc', hb⟩)
        · exact q0 e
        · exact no q1 a e1 (by omega) (bel_lt b hb (fun e => q0 (by rw [e1, e2, e]))).2.2.1
    · rw [if_neg q1]
      by_cases q2 : thI s w = false
      · rw [if_pos q2, bw, pb_f]
        · rfl
        · rintro (e | ⟨a, c, e1, e2, ha, hc', hb⟩)
          · exact q0 e
          · exact no q2 c e2 (by omega) (bel_lt b hb (fun e => q0 (by rw [e1, e2, e]))).2.2.2.1
      · rw [if_neg q2]
        obtain ⟨a, ha, rfl⟩ := thI_of b (eq_true_of_ne_false q1)
        obtain ⟨c, hc2, rfl⟩ := thI_of b (eq_true_of_ne_false q2)
        have hac : a ≠ c := fun e => q0 (by rw [e])
        have ta := (thI_nI b (show a < 2 ^ 31 by omega)).mp (eq_true_of_ne_false q1)
        have tcc := (thI_nI b (show c < 2 ^ 31 by omega)).mp (eq_true_of_ne_false q2)
        rw [bw_nI b (by omega) (by omega)]
        rw [show (8 : Int32) = nI 8 from rfl, show (24 : Int32) = nI 24 from rfl, cIn_nI (by omega) (by omega) (by omega), cIn_nI (by omega) (by omega) (by omega), cIn_nI (by omega) (by omega) (by omega)]
        simp only [l1_ge a (by omega), l6_le a (by omega), l1_ge c (by omega), l6_le c (by omega), l7_e c (by omega), Bool.and_eq_false_iff, decide_eq_false_iff_not]
        by_cases q3 : ¬ 1 ≤ a ∨ ¬ a ≤ 6
        · rw [if_pos q3]
          have tya : ty s a := ta.resolve_left (by omega)
          by_cases q4 : ¬ 1 ≤ c ∨ ¬ c ≤ 6
          · rw [if_pos q4]
            have tyc : ty s c := tcc.resolve_left (by omega)
            by_cases q5 : c = 7
            · rw [if_pos q5, q5, pb_t (.inr ⟨tya, rch_7 b _ a (Nat.lt_succ_self _) tya⟩)]; rfl
            · rw [if_neg q5]
              by_cases q6 : ¬ 8 ≤ a ∨ ¬ a < s 3 0
              · rw [if_pos q6]
                by_cases q7 : ¬ 24 ≤ a ∨ ¬ a < 24 + s 5 0
                · rw [if_pos q7, pb_f]
                  · rfl
                  · intro hb
                    have r := (bel_lt b hb hac).2.2.2.2
                    rcases Rch_c r with e | ⟨x, hx, hr⟩
                    · exact hac e
                    · have x7 : x = 7 := by have := te_nf hx (by omega); omega
                      subst x7
                      rcases Rch_c hr with e | ⟨y, hy, _⟩
                      · exact q5 e.symm
                      · have := te_nf hy (by omega); omega
                · rw [if_neg q7]
                  have q7' : 24 ≤ a ∧ a < 24 + s 5 0 := by omega
                  by_cases q8 : ¬ 24 ≤ c ∨ ¬ c < 24 + s 5 0
                  · rw [if_pos q8, pb_f]
                    · rfl
                    · intro hb
                      have r := (bel_lt b hb hac).2.2.2.2
                      have := (rch_ef b q7'.1 q7'.2 q5 r).1
                      have := rch_le b r
                      omega
                  · rw [if_neg q8]
                    have q8' : 24 ≤ c ∧ c < 24 + s 5 0 := by omega
                    have := r_dfs h b (show a - 24 < s 5 0 by omega) q8'.1 q8'.2 (z := fun _ _ _ => none) (a - 24 + 1) fu ((1 : Int32) <<< (nI (a - 24) &&& 31)) (by show _ < 6000; omega) (Nat.le_refl _) (by
                      intro g hg
                      rw [bt_bit (by omega) hg, decide_eq_true_iff]
                      constructor
                      · intro e; exact .inl e
                      · rintro (e | ⟨k, hk, r, _⟩)
                        · exact e
                        · have : k ≤ a - 24 := Rch_ind (P := fun x => k ≤ x) (Nat.le_refl _) (fun _ _ e _ i => by have := fe_lt b e; omega) r
                          omega)
                    rw [pk_sub q7'.1]
                    refine Eq.trans this ?_
                    congr 2
                    apply pb_congr
                    constructor
                    · intro r
                      have := rch_fe b (show a - 24 < s 5 0 by omega) r
                      rw [show 24 + (a - 24) = a by omega, show 24 + (c - 24) = c by omega] at this
                      exact .inr ⟨tya, this⟩
                    · intro hb
                      exact (rch_ef b q7'.1 q7'.2 q5 (bel_lt b hb hac).2.2.2.2).2
              · rw [if_neg q6]
                rw [r_below_c h b (by omega) q5 fu a (.inr (by omega)) (by show _ < 6000; omega)]
                congr 2
                apply pb_congr
                constructor
                · intro r; exact .inr ⟨tya, r⟩
                · intro hb; exact (bel_lt b hb hac).2.2.2.2
          · rw [if_neg q4, pb_f]
            · rfl
            · intro hb
              have := (bel_lt b hb hac).2.2.2.1
              unfold ty at this
              omega
        · rw [if_neg q3, pb_f]
          · rfl
          · intro hb
            have := (bel_lt b hb hac).2.2.1
            unfold ty at this
            omega
end ref
