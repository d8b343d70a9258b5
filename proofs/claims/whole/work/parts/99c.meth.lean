theorem run_split (l : List (Nat × Nat × Nat)) : ∀ p b, run (p, b) l = ((run (p, []) l).1, b ++ (run (p, []) l).2) := by
  induction l with
  | nil => intro p b; show (p, b) = (p, b ++ []); rw [List.append_nil]
  | cons k l ih =>
    intro p b
    rw [run_cons, run_cons]
    unfold run1
    by_cases q : k.1 = 0
    · rw [if_pos q, if_pos q, ih p (b ++ [k.2.1]), ih p ([] ++ [k.2.1])]
      simp
    · rw [if_neg q, if_neg q, ih (ePl p k) (b ++ [eIx p k]), ih (ePl p k) ([] ++ [eIx p k])]
      simp
def rwT (l : List Nat) : Nat → List (Nat × Nat × Nat)
  | 0 => []
  | k + 1 => rwT l k ++ [(1, l.getD k 0, 0)]
def tkT (s : Nat → Nat → Nat) (x : Nat) : Nat → List (Nat × Nat × Nat)
  | 0 => []
  | k + 1 => tkT s x k ++ [(1, s 15 (3 * x + k), 0)]
theorem rwT_len (l : List Nat) (k : Nat) : (rwT l k).length = k := by
  induction k with
  | zero => rfl
  | succ k ih => unfold rwT; rw [List.length_append, ih]; rfl
theorem tkT_len (s : Nat → Nat → Nat) (x k : Nat) : (tkT s x k).length = k := by
  induction k with
  | zero => rfl
  | succ k ih => unfold tkT; rw [List.length_append, ih]; rfl
def cdT (s : Nat → Nat → Nat) (x : Nat) (c : List Nat) : List (Nat × Nat × Nat) := cod s x ++ (if c.length ≤ 0 then [] else [(0, 17, 0), (0, 18, 0)])
def mT (s : Nat → Nat → Nat) (x : Nat) (B c : List Nat) : List (Nat × Nat × Nat) := [(3, s 13 x, 0), (0, tc s x, 0)] ++ (tkT s x (tc s x) ++ ([(1, s 14 x, 0), (0, B.length, 0)] ++ (rwT B B.length ++ ([(0, (cdT s x c).length, 0)] ++ (cdT s x c ++ ([(0, c.length, 0)] ++ rwT c c.length))))))
theorem cdT_len (s : Nat → Nat → Nat) (x : Nat) (c : List Nat) : (cdT s x c).length ≤ 38 := by
  unfold cdT
  have := cod_len s x
  rw [List.length_append]
  split <;> simp <;> omega
theorem row_set {d : gD} {a u v : Nat} {b r : List Nat} (h : Row d a 0 (b ++ v :: r)) : Row (wI d a b.length (nI u)) a 0 (b ++ u :: r) := by
  intro i hi
  have hlen : (b ++ v :: r).length = (b ++ u :: r).length := by simp
  have := h i (by omega)
  rw [Nat.zero_add] at this ⊢
  rw [dI_wI]
  by_cases q : i = b.length
  · rw [if_pos ⟨rfl, q⟩, q, List.getD_eq_getElem?_getD, List.getElem?_append_right (Nat.le_refl _), Nat.sub_self]
    rfl
  · rw [if_neg (fun e => q e.2), this]
    congr 1
    rw [List.getD_eq_getElem?_getD, List.getD_eq_getElem?_getD, List.getElem?_append, List.getElem?_append]
    by_cases r2 : i < b.length
    · rw [if_pos r2, if_pos r2]
    · rw [if_neg r2, if_neg r2]
      obtain ⟨j, hj⟩ : ∃ j, i - b.length = j + 1 := ⟨i - b.length - 1, by omega⟩
      rw [hj]
      rfl
section ref
variable {S : gS} {d : gD} {m : Nat} {s : Nat → Nat → Nat}
theorem wr_ch {P : Nat → Nat → Prop} {e : gD} {w : List (Nat × Nat × Nat) × List Nat} (h : WR d m w) (g : Ch P d e) (n : ∀ a j, P a j → ¬ (a = m ∧ (j = 40 ∨ j = 42)) ∧ a ≠ m + 31 ∧ a ≠ m + 32) : WR e m w :=
  ⟨(g.2 _ _ (fun p => (n _ _ p).1 ⟨rfl, .inl rfl⟩)).trans h.1, row_ch h.2.1 g (fun _ _ p => (n _ _ p).2.1 rfl), (g.2 _ _ (fun p => (n _ _ p).1 ⟨rfl, .inr rfl⟩)).trans h.2.2.1, pr_ch h.2.2.2 g (fun _ _ p => (n _ _ p).2.2 rfl)⟩
theorem wr_PC {e : gD} {w : List (Nat × Nat × Nat) × List Nat} (h : WR d m w) (g : Ch (PC m) d e) : WR e m w := wr_ch h g (fun a j p => by unfold PC at p; omega)
theorem cr_PW {e : gD} {l : List Nat} (h : CR d m l) (g : Ch (PW m) d e) : CR e m l := ⟨(g.2 _ _ (by unfold PW; omega)).trans h.1, row_ch h.2 g (fun i _ => by unfold PW; omega)⟩
theorem r_sm_37 (h : RI S d m s) (b : BI s) {x : Nat} (hx : vx s x) {w : List (Nat × Nat × Nat) × List Nat} (hw : WR d m w) (hp : GP w.1) (hl : w.2.length + 3 ≤ 3600) {v1 : Int32} (Q : Option (Unit × gD) → Prop) {kx : gD → Int32 → Int32 → Option (Unit × gD)} {z : gD → Int32 → Int32 → Int32 → Int32 → Option (Unit × gD)} (hk : ∀ e, Ch (PW m) d e → RI S e m s → WR e m (run w (tkT s x (tc s x))) → GP (run w (tkT s x (tc s x))).1 → Q (kx e v1 (nI x))) : Q (itr (f_R_sayMethod_B37 S m kx) z fu d v1 (nI x) (nI (tc s x)) 0) := by
  have hx75 := vx_lt b hx
  have ht := tc_le s x
  refine itr_q (B := f_R_sayMethod_B37 S m kx) (fun (y : gD × Nat) K => K y.1 v1 (nI x) (nI (tc s x)) (nI y.2)) Q (fun k y => y.2 = k ∧ Ch (PW m) d y.1 ∧ RI S y.1 m s ∧ WR y.1 m (run w (tkT s x k)) ∧ GP (run w (tkT s x k)).1) (tc s x) (by omega) ?_ ?_ (x := (d, 0)) ⟨rfl, ch_r, h, hw, hp⟩
  · rintro k hkk ⟨e, k'⟩ ⟨rfl, hc, he, hwe, hpe⟩ K hK
    simp only at hkk hc he hwe hpe hK ⊢
    have hlen := run_len (tkT s x k') w
    have htl := tkT_len s x k'
    have htT := b.takeT x k' hx (by omega)
    simp (maxSteps := 1000000) (disch := omega) only [f_R_sayMethod_B37, kd_t he.rs.1, rs_P15 he.rs, kd_t (rs_K15 he.rs), rs_N15 he.rs, ri_15 he, l0_e, l0_le, l0_ge, l0_lt, l0_gt, l1_m, l1_a, l1_b, l1_s, l1_e, l1_le, l1_ge, l1_lt, l1_gt, l3_m, l3_a, l3_b, l3_s, l3_e, l3_le, l3_ge, l3_lt, l3_gt, lt_t, nn_t, bd_t, bdD_t, bdP_t, nI_clamp, gi_n, nI_add, nI_1, pk_mul, b2_eq0, b2_01, nb_t, if_true, if_false, ni_le, ni_eq, ni_lt]
    rw [if_neg (by omega)]
    refine q_se he hwe hpe (by omega) (.inl ⟨rfl, htT, rfl⟩) rfl rfl rfl Q ?_
    intro e1 c1 i1 w1 p1
    have er : run w (tkT s x (k' + 1)) = run1 (run w (tkT s x k')) (1, s 15 (3 * x + k'), 0) := by
      show run w (tkT s x k' ++ [_]) = _
      rw [run_app]; rfl
    rw [← er] at w1 p1
    exact hK (e1, k' + 1) ⟨rfl, ch_t hc c1, i1, w1, p1⟩
  · rintro ⟨e, k'⟩ ⟨rfl, hc, he, hwe, hpe⟩ K
    simp only at hc he hwe hpe ⊢
    simp (maxSteps := 1000000) (disch := omega) only [f_R_sayMethod_B37, kd_t he.rs.1, rs_P15 he.rs, kd_t (rs_K15 he.rs), rs_N15 he.rs, ri_15 he, l0_e, l0_le, l0_ge, l0_lt, l0_gt, l1_m, l1_a, l1_b, l1_s, l1_e, l1_le, l1_ge, l1_lt, l1_gt, l3_m, l3_a, l3_b, l3_s, l3_e, l3_le, l3_ge, l3_lt, l3_gt, lt_t, nn_t, bd_t, bdD_t, bdP_t, nI_clamp, gi_n, nI_add, nI_1, pk_mul, b2_eq0, b2_01, nb_t, if_true, if_false, ni_le, ni_eq, ni_lt]
    rw [if_pos (by omega)]
    exact hk e hc he hwe hpe
theorem r_sm_99 (h : RI S d m s) {fl : List (Nat × List Nat)} (hf : FR d m fl) (hfl : fl.length ≤ 80) {j : Nat} (hj : j < fl.length) (hB : cl (fl.getD j df).2) {w : List (Nat × Nat × Nat) × List Nat} (hw : WR d m w) (hp : GP w.1) (hl : w.2.length + 16 ≤ 3600) {v2 : Int32} (Q : Option (Unit × gD) → Prop) {kx : gD → Int32 → Int32 → Option (Unit × gD)} {z : gD → Int32 → Int32 → Int32 → Option (Unit × gD)} (hk : ∀ e, Ch (PW m) d e → RI S e m s → WR e m (run w (rwT (fl.getD j df).2 (fl.getD j df).2.length)) → GP (run w (rwT (fl.getD j df).2 (fl.getD j df).2.length)).1 → Q (kx e (nI j) v2)) : Q (itr (f_R_sayMethod_B99 S m kx) z fu d (nI j) v2 0) := by
  have hlB := cl_len hB
  refine itr_q (B := f_R_sayMethod_B99 S m kx) (fun (y : gD × Nat) K => K y.1 (nI j) v2 (nI y.2)) Q (fun k y => y.2 = k ∧ Ch (PW m) d y.1 ∧ RI S y.1 m s ∧ WR y.1 m (run w (rwT (fl.getD j df).2 k)) ∧ GP (run w (rwT (fl.getD j df).2 k)).1) (fl.getD j df).2.length (by omega) ?_ ?_ (x := (d, 0)) ⟨rfl, ch_r, h, hw, hp⟩
  · rintro k hkk ⟨e, k'⟩ ⟨rfl, hc, he, hwe, hpe⟩ K hK
    simp only at hkk hc he hwe hpe hK ⊢
    have hlen := run_len (rwT (fl.getD j df).2 k') w
    have htl := rwT_len (fl.getD j df).2 k'
    have o := (fr_PW hf hc).2 j hj
    have hB2 := hB.2 _ (getD_mem hkk)
    simp (maxSteps := 1000000) (disch := omega) only [f_R_sayMethod_B99, kd_t he.rs.1, rs_P33 he.rs, kd_t (rs_K33 he.rs), rs_N33 he.rs, rs_P34 he.rs, kd_t (rs_K34 he.rs), rs_N34 he.rs, l0_e, l0_le, l0_ge, l0_lt, l0_gt, l1_m, l1_a, l1_b, l1_s, l1_e, l1_le, l1_ge, l1_lt, l1_gt, l16_m, l16_a, l16_b, l16_s, l16_e, l16_le, l16_ge, l16_lt, l16_gt, lt_t, nn_t, bd_t, bdD_t, bdP_t, nI_clamp, gi_n, nI_add, nI_1, pk_mul, b2_eq0, b2_01, nb_t, if_true, if_false, ni_le, ni_eq, ni_lt, o.2.1, o.2.2 k' hkk]
    rw [if_neg (by omega)]
    refine q_se (t := 1) (a := (fl.getD j df).2.getD k' 0) (c := 0) he hwe hpe (by omega) (.inl ⟨rfl, show (fl.getD j df).2.getD k' 0 < 47 by omega, rfl⟩) rfl rfl rfl Q ?_
    intro e1 c1 i1 w1 p1
    have er : run w (rwT (fl.getD j df).2 (k' + 1)) = run1 (run w (rwT (fl.getD j df).2 k')) (1, (fl.getD j df).2.getD k' 0, 0) := by
      show run w (rwT (fl.getD j df).2 k' ++ [_]) = _
      rw [run_app]; rfl
    rw [← er] at w1 p1
    exact hK (e1, k' + 1) ⟨rfl, ch_t hc c1, i1, w1, p1⟩
  · rintro ⟨e, k'⟩ ⟨rfl, hc, he, hwe, hpe⟩ K
    simp only at hc he hwe hpe ⊢
    have o := (fr_PW hf hc).2 j hj
    simp (maxSteps := 1000000) (disch := omega) only [f_R_sayMethod_B99, kd_t he.rs.1, rs_P33 he.rs, kd_t (rs_K33 he.rs), rs_N33 he.rs, rs_P34 he.rs, kd_t (rs_K34 he.rs), rs_N34 he.rs, l0_e, l0_le, l0_ge, l0_lt, l0_gt, l1_m, l1_a, l1_b, l1_s, l1_e, l1_le, l1_ge, l1_lt, l1_gt, l16_m, l16_a, l16_b, l16_s, l16_e, l16_le, l16_ge, l16_lt, l16_gt, lt_t, nn_t, bd_t, bdD_t, bdP_t, nI_clamp, gi_n, nI_add, nI_1, pk_mul, b2_eq0, b2_01, nb_t, if_true, if_false, ni_le, ni_eq, ni_lt, o.2.1]
    rw [if_pos (by omega)]
    exact hk e hc he hwe hpe
theorem r_sm_205 (h : RI S d m s) {c : List Nat} (hcr : CR d m c) (hB : ∀ t, t ∈ c → t < 47) (hlB : c.length ≤ 16) {w : List (Nat × Nat × Nat) × List Nat} (hw : WR d m w) (hp : GP w.1) (hl : w.2.length + 16 ≤ 3600) {z : gD → Int32 → Option (Unit × gD)} : ∃ e, itr (f_R_sayMethod_B205 S m) z fu d 0 = some ((), e) ∧ Ch (PW m) d e ∧ WR e m (run w (rwT c c.length)) ∧ GP (run w (rwT c c.length)).1 := by
  refine itr_q (B := f_R_sayMethod_B205 S m) (fun (y : gD × Nat) K => K y.1 (nI y.2)) (fun t => ∃ e, t = some ((), e) ∧ Ch (PW m) d e ∧ WR e m (run w (rwT c c.length)) ∧ GP (run w (rwT c c.length)).1) (fun k y => y.2 = k ∧ Ch (PW m) d y.1 ∧ RI S y.1 m s ∧ WR y.1 m (run w (rwT c k)) ∧ GP (run w (rwT c k)).1) c.length (by omega) ?_ ?_ (x := (d, 0)) ⟨rfl, ch_r, h, hw, hp⟩
  · rintro k hkk ⟨e, k'⟩ ⟨rfl, hc, he, hwe, hpe⟩ K hK
    simp only at hkk hc he hwe hpe hK ⊢
    have hlen := run_len (rwT c k') w
    have htl := rwT_len c k'
    have hce := cr_PW hcr hc
    have hbk : dI e (m + 30) k' = nI (c.getD k' 0) := by have := hce.2 k' hkk; rwa [Nat.zero_add] at this
    simp (maxSteps := 1000000) (disch := omega) only [f_R_sayMethod_B205, kd_t he.rs.1, rs_P38 he.rs, kd_t (rs_K38 he.rs), rs_N38 he.rs, l0_e, l0_le, l0_ge, l0_lt, l0_gt, l1_m, l1_a, l1_b, l1_s, l1_e, l1_le, l1_ge, l1_lt, l1_gt, lt_t, nn_t, bd_t, bdD_t, bdP_t, nI_clamp, gi_n, nI_add, nI_1, pk_mul, b2_eq0, b2_01, nb_t, if_true, if_false, ni_le, ni_eq, ni_lt, hce.1, hbk]
    rw [if_neg (by omega)]
    refine q_se (t := 1) (a := c.getD k' 0) (c := 0) he hwe hpe (by omega) (.inl ⟨rfl, hB _ (getD_mem hkk), rfl⟩) rfl rfl rfl (fun t => ∃ e, t = some ((), e) ∧ Ch (PW m) d e ∧ WR e m (run w (rwT c c.length)) ∧ GP (run w (rwT c c.length)).1) ?_
    intro e1 c1 i1 w1 p1
    have er : run w (rwT c (k' + 1)) = run1 (run w (rwT c k')) (1, c.getD k' 0, 0) := by
      show run w (rwT c k' ++ [_]) = _
      rw [run_app]; rfl
    rw [← er] at w1 p1
    exact hK (e1, k' + 1) ⟨rfl, ch_t hc c1, i1, w1, p1⟩
  · rintro ⟨e, k'⟩ ⟨rfl, hc, he, hwe, hpe⟩ K
    simp only at hc he hwe hpe ⊢
    have hce := cr_PW hcr hc
    simp (maxSteps := 1000000) (disch := omega) only [f_R_sayMethod_B205, kd_t he.rs.1, rs_P38 he.rs, kd_t (rs_K38 he.rs), rs_N38 he.rs, l0_e, l0_le, l0_ge, l0_lt, l0_gt, l1_m, l1_a, l1_b, l1_s, l1_e, l1_le, l1_ge, l1_lt, l1_gt, lt_t, nn_t, bd_t, bdD_t, bdP_t, nI_clamp, gi_n, nI_add, nI_1, pk_mul, b2_eq0, b2_01, nb_t, if_true, if_false, ni_le, ni_eq, ni_lt, hce.1]
    rw [if_pos (by omega)]
    exact ⟨e, rfl, hc, hwe, hpe⟩
end ref
