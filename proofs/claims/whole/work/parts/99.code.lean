def ow (x : Nat) : Nat := if x < 72 then 24 + x / 6 else 7
def nu (x : Nat) : Nat := if x < 72 then x % 6 else x - 72
def pln (t : Nat) : Bool := decide (1 ≤ t) && decide (t ≤ 6)
def plc (s : Nat → Nat → Nat) (x : Nat) : Nat → Nat
  | 0 => 1
  | k + 1 => plc s x k + if s 15 (3 * x + k) = 6 then 2 else 1
theorem plc_le (s : Nat → Nat → Nat) (x k : Nat) : plc s x k ≤ 1 + 2 * k := by
  induction k with
  | zero => exact Nat.le_refl _
  | succ k ih => unfold plc; split <;> omega
def prm1 (s : Nat → Nat → Nat) (x k : Nat) : List (Nat × Nat × Nat) := [(0, 6, 0), (0, 7, 0), (0, k, 0), (0, 8, 0), (0, plc s x k, 0)] ++ ((if pln (s 15 (3 * x + k)) then [(0, 9, 0), (0, s 15 (3 * x + k), 0)] else []) ++ [(0, 10, 0)])
def prm (s : Nat → Nat → Nat) (x : Nat) : Nat → List (Nat × Nat × Nat)
  | 0 => []
  | k + 1 => prm s x k ++ prm1 s x k
def rsT (r : Nat) : List (Nat × Nat × Nat) := if r = 0 then [(0, 12, 0), (0, 16, 0)] else [(0, 13, 0), (1, if pln r then 40 + r else r, 0)] ++ ((if pln r then [(0, 14, 0), (0, r, 0)] else []) ++ [(0, 15, 0)])
def hdT (s : Nat → Nat → Nat) (x : Nat) : List (Nat × Nat × Nat) := [(0, 1, 0), (0, 2, 0), (0, 3, 0), (2, ow x, nu x)] ++ (if tc s x = 0 then [(0, 4, 0)] else [(0, 5, 0), (0, tc s x, 0)])
def cod (s : Nat → Nat → Nat) (x : Nat) : List (Nat × Nat × Nat) := hdT s x ++ (prm s x (tc s x) ++ ([(0, 11, 0)] ++ rsT (s 14 x)))
theorem prm1_len (s : Nat → Nat → Nat) (x k : Nat) : (prm1 s x k).length ≤ 8 := by
  unfold prm1
  split <;> simp
theorem prm_len (s : Nat → Nat → Nat) (x k : Nat) : (prm s x k).length ≤ 8 * k := by
  induction k with
  | zero => exact Nat.le_refl _
  | succ k ih =>
    unfold prm
    rw [List.length_append]
    have := prm1_len s x k
    omega
theorem rsT_len (r : Nat) : (rsT r).length ≤ 5 := by
  unfold rsT
  split
  · simp
  · split <;> simp
theorem hdT_len (s : Nat → Nat → Nat) (x : Nat) : (hdT s x).length ≤ 6 := by
  unfold hdT
  split <;> simp
theorem cod_len (s : Nat → Nat → Nat) (x : Nat) : (cod s x).length ≤ 36 := by
  unfold cod
  have h1 := hdT_len s x
  have h2 := prm_len s x (tc s x)
  have h3 := rsT_len (s 14 x)
  have h4 := tc_le s x
  simp only [List.length_append, List.length_singleton]
  omega
def vx (s : Nat → Nat → Nat) (x : Nat) : Prop := (x / 6 < s 5 0 ∧ x % 6 < s 12 (x / 6)) ∨ (72 ≤ x ∧ x < 75)
theorem vx_lt {s : Nat → Nat → Nat} (b : BI s) {x : Nat} (h : vx s x) : x < 75 := by
  have := b.faces
  unfold vx at h
  omega
theorem ve_ow {s : Nat → Nat → Nat} (b : BI s) {x : Nat} (h : vx s x) : ve (2, ow x, nu x) := by
  have h1 := vx_lt b h
  unfold ow nu
  refine .inr (.inl ⟨rfl, ?_⟩)
  by_cases q : x < 72
  · rw [if_pos q, if_pos q]; simp only; omega
  · rw [if_neg q, if_neg q]; exact .inl ⟨rfl, show x - 72 < 3 by omega⟩
section ref
variable {S : gS} {d : gD} {m : Nat} {s : Nat → Nat → Nat}
theorem r_owner {x : Nat} (hx : x < 75) : f_R_owner S d (nI x) = some (nI (ow x)) := by
  unfold f_R_owner ow
  simp only [l72_lt x (by omega)]
  by_cases q : x < 72
  · rw [if_pos q, if_pos q, nz_t (by decide), show nI x / 6 = nI (x / 6) from pk_div (by omega) (by decide) (by decide), l24_b]
  · rw [if_neg q, if_neg q]; rfl
theorem r_numberOf {x : Nat} (hx : x < 75) : f_R_numberOf S d (nI x) = some (nI (nu x)) := by
  unfold f_R_numberOf nu
  simp only [l72_lt x (by omega)]
  by_cases q : x < 72
  · rw [if_pos q, if_pos q, nz_t (by decide), show nI x - nI x / 6 * 6 = nI (x % 6) from pk_rem (by omega) (by decide) (by decide)]
  · rw [if_neg q, if_neg q, l72_s x (by omega)]
theorem r_plain {x : Nat} (hx : x < 2 ^ 31) : f_R_isPlain S d (nI x) = some (b2 (pln x)) := by
  rw [r_isPlain]
  simp only [l1_ge x hx, l6_le x hx, pln]
theorem q_se (h : RI S d m s) {w : List (Nat × Nat × Nat) × List Nat} (hw : WR d m w) (hp : GP w.1) (hl : w.2.length < 3600) {t a c : Nat} (hv : ve (t, a, c)) {x y u : Int32} (hx : x = nI t) (hy : y = nI a) (hu : u = nI c) {β : Type} (Q : Option β → Prop) {k : Unit → gD → Option β} (hk : ∀ e, Ch (PW m) d e → RI S e m s → WR e m (run1 w (t, a, c)) → GP (run1 w (t, a, c)).1 → Q (k () e)) : Q (bdD (f_R_entry S d m x y u) fun i e => bdD (f_R_say S e m i) k) := by
  obtain ⟨e, e1, e2, e3⟩ := r_entry h hw hp hv
  rw [hx, hy, hu, e1, bdD_t]
  have t0 : ¬ t = 0 := by unfold ve at hv; simp only at hv; omega
  have er : run1 w (t, a, c) = run1 (ePl w.1 (t, a, c), w.2) (0, eIx w.1 (t, a, c), 0) := by
    unfold run1
    rw [if_neg t0, if_pos rfl]
  refine q_say (ri_PW h e2) e3 hl rfl Q ?_
  intro e4 c4 i4 w4
  rw [← er] at w4
  exact hk e4 (ch_t e2 c4) i4 w4 (GP_run1 hp (.inr hv))
theorem r_sc_65 (h : RI S d m s) (b : BI s) {x : Nat} (hx : vx s x) {w : List (Nat × Nat × Nat) × List Nat} (hw : WR d m w) (hp : GP w.1) (hl : w.2.length + 24 ≤ 3600) (Q : Option (Unit × gD) → Prop) {kx : gD → Int32 → Option (Unit × gD)} {z : gD → Int32 → Int32 → Int32 → Int32 → Option (Unit × gD)} (hk : ∀ e, Ch (PW m) d e → RI S e m s → WR e m (run w (prm s x (tc s x))) → GP (run w (prm s x (tc s x))).1 → Q (kx e (nI x))) : Q (itr (f_R_sayCode_B65 S m kx) z fu d (nI x) (nI (tc s x)) 1 0) := by
  have hx75 := vx_lt b hx
  have ht := tc_le s x
  refine itr_q (B := f_R_sayCode_B65 S m kx) (fun (y : gD × Nat) K => K y.1 (nI x) (nI (tc s x)) (nI (plc s x y.2)) (nI y.2)) Q (fun k y => y.2 = k ∧ Ch (PW m) d y.1 ∧ RI S y.1 m s ∧ WR y.1 m (run w (prm s x k)) ∧ GP (run w (prm s x k)).1) (tc s x) (by omega) ?_ ?_ (x := (d, 0)) ⟨rfl, ch_r, h, hw, hp⟩
  · rintro k hkk ⟨e, k'⟩ ⟨rfl, hc, he, hwe, hpe⟩ K hK
    simp only at hkk hc he hwe hpe hK ⊢
    have hpl := plc_le s x k'
    have hlen := run_len (prm s x k') w
    have hprm := prm_len s x k'
    have h15 := b.lt 15 (3 * x + k')
    have hst : prm s x (k' + 1) = prm s x k' ++ prm1 s x k' := rfl
    have hL : ∀ (w' : List (Nat × Nat × Nat) × List Nat) (u : Nat × Nat × Nat), (run1 w' u).2.length = w'.2.length + 1 := run1_len
    simp (maxSteps := 1000000) (disch := omega) only [f_R_sayCode_B65, kd_t he.rs.1, rs_P15 he.rs, kd_t (rs_K15 he.rs), rs_N15 he.rs, ri_15 he, l0_e, l0_le, l0_ge, l0_lt, l0_gt, l3_m, l3_a, l3_b, l3_s, l3_e, l3_le, l3_ge, l3_lt, l3_gt, l6_m, l6_a, l6_b, l6_s, l6_e, l6_le, l6_ge, l6_lt, l6_gt, l7_m, l7_a, l7_b, l7_s, l7_e, l7_le, l7_ge, l7_lt, l7_gt, l8_m, l8_a, l8_b, l8_s, l8_e, l8_le, l8_ge, l8_lt, l8_gt, l9_m, l9_a, l9_b, l9_s, l9_e, l9_le, l9_ge, l9_lt, l9_gt, lt_t, nn_t, bd_t, bdD_t, bdP_t, nI_clamp, gi_n, nI_add, nI_1, pk_mul, b2_eq0, b2_01, nb_t, if_true, if_false, ni_le, ni_eq, ni_lt]
    rw [if_neg (by omega)]
    refine q_say he hwe (by omega) rfl Q ?_
    intro e1 c1 i1 w1
    refine q_say i1 w1 (by simp only [hL]; omega) rfl Q ?_
    intro e2 c2 i2 w2
    refine q_say i2 w2 (by simp only [hL]; omega) rfl Q ?_
    intro e3 c3 i3 w3
    refine q_say i3 w3 (by simp only [hL]; omega) rfl Q ?_
    intro e4 c4 i4 w4
    refine q_say i4 w4 (by simp only [hL]; omega) rfl Q ?_
    intro e5 c5 i5 w5
    rw [r_plain h15, bd_t]
    have tail : ∀ e6 w6, Ch (PW m) e e6 → RI S e6 m s → WR e6 m w6 → w6.2.length < 3600 → GP w6.1 → run1 w6 (0, 10, 0) = run w (prm s x (k' + 1)) → Q (f_R_sayCode_J133 S m kx K e6 (nI x) (nI (tc s x)) (nI (plc s x k')) (nI k') (nI (s 15 (3 * x + k')))) := by
      intro e6 w6 c6 i6 r6 l6 p6 eq
      simp (maxSteps := 1000000) (disch := omega) only [f_R_sayCode_J133, f_R_sayCode_J152, kd_t i6.rs.1, l1_m, l1_a, l1_b, l1_s, l1_e, l1_le, l1_ge, l1_lt, l1_gt, l2_m, l2_a, l2_b, l2_s, l2_e, l2_le, l2_ge, l2_lt, l2_gt, l6_m, l6_a, l6_b, l6_s, l6_e, l6_le, l6_ge, l6_lt, l6_gt, l10_m, l10_a, l10_b, l10_s, l10_e, l10_le, l10_ge, l10_lt, l10_gt, lt_t, nn_t, bd_t, bdD_t, bdP_t, nI_clamp, gi_n, nI_add, nI_1, pk_mul, b2_eq0, b2_01, nb_t, if_true, if_false, ni_le, ni_eq, ni_lt]
      refine q_say i6 r6 l6 rfl Q ?_
      intro e7 c7 i7 w7
      rw [eq] at w7
      have pf : GP (run w (prm s x (k' + 1))).1 := by rw [← eq]; exact GP_run1 p6 (.inl rfl)
      have pl1 : plc s x (k' + 1) = plc s x k' + if s 15 (3 * x + k') = 6 then 2 else 1 := rfl
      have := hK (e7, k' + 1) ⟨rfl, ch_t hc (ch_t c6 c7), i7, w7, pf⟩
      simp only at this
      rw [pl1] at this
      by_cases q6 : s 15 (3 * x + k') = 6
      · rw [if_pos q6] at this ⊢
        exact this
      · rw [if_neg q6] at this ⊢
        exact this
    have vz : ∀ (w' : List (Nat × Nat × Nat) × List Nat) (v : Nat), GP w'.1 → GP (run1 w' (0, v, 0)).1 := fun w' v hh => GP_run1 hh (.inl rfl)
    have c15 := ch_t c1 (ch_t c2 (ch_t c3 (ch_t c4 c5)))
    cases qp : pln (s 15 (3 * x + k')) with
    | false =>
      rw [if_pos (by rfl)]
      refine tail e5 _ c15 i5 w5 (by simp only [hL]; omega) (vz _ _ (vz _ _ (vz _ _ (vz _ _ (vz _ _ hpe))))) ?_
      rw [hst, run_app, prm1, qp]
      rfl
    | true =>
      rw [if_neg (by decide)]
      refine q_say i5 w5 (by simp only [hL]; omega) rfl Q ?_
      intro e6 c6 i6 w6
      refine q_say i6 w6 (by simp only [hL]; omega) rfl Q ?_
      intro e7 c7 i7 w7
      refine tail e7 _ (ch_t c15 (ch_t c6 c7)) i7 w7 (by simp only [hL]; omega) (vz _ _ (vz _ _ (vz _ _ (vz _ _ (vz _ _ (vz _ _ (vz _ _ hpe))))))) ?_
      rw [hst, run_app, prm1, qp]
      rfl
  · rintro ⟨e, k'⟩ ⟨rfl, hc, he, hwe, hpe⟩ K
    simp only at hc he hwe hpe ⊢
    simp (maxSteps := 1000000) (disch := omega) only [f_R_sayCode_B65, kd_t he.rs.1, rs_P15 he.rs, kd_t (rs_K15 he.rs), rs_N15 he.rs, ri_15 he, l0_e, l0_le, l0_ge, l0_lt, l0_gt, l3_m, l3_a, l3_b, l3_s, l3_e, l3_le, l3_ge, l3_lt, l3_gt, l6_m, l6_a, l6_b, l6_s, l6_e, l6_le, l6_ge, l6_lt, l6_gt, l7_m, l7_a, l7_b, l7_s, l7_e, l7_le, l7_ge, l7_lt, l7_gt, l8_m, l8_a, l8_b, l8_s, l8_e, l8_le, l8_ge, l8_lt, l8_gt, l9_m, l9_a, l9_b, l9_s, l9_e, l9_le, l9_ge, l9_lt, l9_gt, lt_t, nn_t, bd_t, bdD_t, bdP_t, nI_clamp, gi_n, nI_add, nI_1, pk_mul, b2_eq0, b2_01, nb_t, if_true, if_false, ni_le, ni_eq, ni_lt]
    rw [if_pos (by omega)]
    exact hk e hc he hwe hpe
end ref
