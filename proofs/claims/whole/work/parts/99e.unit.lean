def lsT (x : Int32) : Nat → List (Nat × Nat × Nat)
  | 0 => []
  | k + 1 => lsT x k ++ [(1, ub x k, 0)]
theorem lsT_len (x : Int32) (k : Nat) : (lsT x k).length = k := by
  induction k with
  | zero => rfl
  | succ k ih => unfold lsT; rw [List.length_append, ih]; rfl
noncomputable def mTF (s : Nat → Nat → Nat) (fl : List (Nat × List Nat)) (j : Nat) : List (Nat × Nat × Nat) := mT s (fl.getD j df).1 (fl.getD j df).2 (ct s (fl.getD j df).2)
noncomputable def msT (s : Nat → Nat → Nat) (fl : List (Nat × List Nat)) (l : List Nat) : Nat → List (Nat × Nat × Nat)
  | 0 => []
  | k + 1 => msT s fl l k ++ mTF s fl (l.getD k 0)
theorem mTF_len {s : Nat → Nat → Nat} {fl : List (Nat × List Nat)} {j : Nat} (h : cl (fl.getD j df).2) : (mTF s fl j).length ≤ 79 := by
  have h1 := cl_len h
  have h2 := cl_len (cl_ct (s := s) h)
  have h3 := cdT_len s (fl.getD j df).1 (ct s (fl.getD j df).2)
  have h4 := tc_le s (fl.getD j df).1
  unfold mTF mT
  simp only [List.length_append, List.length_cons, List.length_nil, tkT_len, rwT_len]
  omega
noncomputable def uT (s : Nat → Nat → Nat) (c : Nat) : List (Nat × Nat × Nat) := [(0, s 24 c, 0), (0, s 25 c, 0), (0, ln (nI (s 23 c)), 0)] ++ (lsT (nI (s 23 c)) (ln (nI (s 23 c))) ++ ([(0, (dsc s (nI (s 23 c))).length, 0)] ++ msT s (dsc s (nI (s 23 c))) (ord s (dsc s (nI (s 23 c)))) (dsc s (nI (s 23 c))).length))
def PU (m : Nat) (a j : Nat) : Prop := (a = m ∧ (j = 31 ∨ j = 37 ∨ j = 40 ∨ j = 42)) ∨ (m + 23 ≤ a ∧ a ≤ m + 32)
section ref
variable {S : gS} {d : gD} {m : Nat} {s : Nat → Nat → Nat}
theorem ri_PU {e : gD} (h : RI S d m s) (g : Ch (PU m) d e) : RI S e m s := ri_ch h g (fun a j p => by unfold PU at p; omega)
theorem pd_pu (a j : Nat) (p : PD m a j) : PU m a j := by unfold PD at p; unfold PU; omega
theorem px_pu (a j : Nat) (p : PX m a j) : PU m a j := by unfold PX at p; unfold PU; omega
theorem ord_full {s : Nat → Nat → Nat} {fl : List (Nat × List Nat)} : (ord s fl).length = fl.length ∧ ∀ y, y ∈ ord s fl ↔ y < fl.length := by
  have mem : ∀ y, y ∈ ord s fl ↔ y < fl.length := by
    intro y
    unfold ord
    rw [ordK_mem _ (Nat.le_refl _)]
    constructor
    · exact fun h => h.1
    · intro h
      have hle := fst_le (fun j => sgF s fl y j) (y + 1)
      have hhit := fst_hit (fun j => sgF s fl y j) (y + 1) y (by omega) (sg_r s _)
      have hyes := fst_yes (fun j => sgF s fl y j) (y + 1) (by omega)
      refine ⟨h, fst (fun j => sgF s fl y j) (y + 1), by omega, by omega, ?_, sg_sym hyes⟩
      unfold isF
      have : anyb (fun j => sgF s fl (fst (fun j => sgF s fl y j) (y + 1)) j) (fst (fun j => sgF s fl y j) (y + 1)) = false := by
        cases q : anyb (fun j => sgF s fl (fst (fun j => sgF s fl y j) (y + 1)) j) (fst (fun j => sgF s fl y j) (y + 1)) with
        | false => rfl
        | true =>
          obtain ⟨j, hj, hp⟩ := (anyb_iff _ _).mp q
          have no := fst_no (fun j => sgF s fl y j) (y + 1) j hj
          have := sg_tr hyes hp
          unfold sgF at no
          rw [this] at no
          cases no
      rw [this]
      rfl
  refine ⟨Nat.le_antisymm (ordK_len (Nat.le_refl _)) ?_, mem⟩
  have key : ∀ n (l : List Nat), (∀ y, y < n → y ∈ l) → n ≤ l.length := by
    intro n
    induction n with
    | zero => intro l _; exact Nat.zero_le _
    | succ n ih =>
      intro l hl
      have hn := hl n (by omega)
      have := ih (l.erase n) (fun y hy => (List.mem_erase_of_ne (by omega)).mpr (hl y (by omega)))
      rw [List.length_erase_of_mem hn] at this
      have := List.length_pos_of_mem hn
      omega
  exact key _ _ (fun y hy => (mem y).mpr hy)
theorem r_un_49 {x : Int32} {kx : gD → Int32 → Int32 → Option (Unit × gD)} {z : gD → Int32 → Int32 → Option (Unit × gD)} : itr (f_R_unit_B49 S m kx) z fu d x 0 = kx d x (nI (ln x)) := by
  refine itr_f (B := f_R_unit_B49 S m kx) (fun k K => K d x (nI k)) (fun k => decide (ub x k = 0)) 4 _ (by omega) ?_ ?_ ?_
  · intro k hk hp K hK
    have hu := ub_lt x k
    simp (maxSteps := 1000000) (disch := omega) only [f_R_unit_B49, l0_e, l0_le, l0_ge, l0_lt, l0_gt, l1_m, l1_a, l1_b, l1_s, l1_e, l1_le, l1_ge, l1_lt, l1_gt, l4_m, l4_a, l4_b, l4_s, l4_e, l4_le, l4_ge, l4_lt, l4_gt, l8_m, l8_a, l8_b, l8_s, l8_e, l8_le, l8_ge, l8_lt, l8_gt, l31_m, l31_a, l31_b, l31_s, l31_e, l31_le, l31_ge, l31_lt, l31_gt, l255_m, l255_a, l255_b, l255_s, l255_e, l255_le, l255_ge, l255_lt, l255_gt, lt_t, nn_t, bd_t, bdD_t, bdP_t, nI_clamp, gi_n, nI_add, nI_1, pk_mul, b2_eq0, b2_01, nb_t, if_true, if_false, ni_le, ni_eq, ni_lt, ub_s x hk]
    rw [if_neg (by omega), if_neg (of_decide_eq_false hp)]
    exact hK
  · intro k hk hp he K
    have hu := ub_lt x k
    simp (maxSteps := 1000000) (disch := omega) only [f_R_unit_B49, l0_e, l0_le, l0_ge, l0_lt, l0_gt, l1_m, l1_a, l1_b, l1_s, l1_e, l1_le, l1_ge, l1_lt, l1_gt, l4_m, l4_a, l4_b, l4_s, l4_e, l4_le, l4_ge, l4_lt, l4_gt, l8_m, l8_a, l8_b, l8_s, l8_e, l8_le, l8_ge, l8_lt, l8_gt, l31_m, l31_a, l31_b, l31_s, l31_e, l31_le, l31_ge, l31_lt, l31_gt, l255_m, l255_a, l255_b, l255_s, l255_e, l255_le, l255_ge, l255_lt, l255_gt, lt_t, nn_t, bd_t, bdD_t, bdP_t, nI_clamp, gi_n, nI_add, nI_1, pk_mul, b2_eq0, b2_01, nb_t, if_true, if_false, ni_le, ni_eq, ni_lt, ub_s x hk]
    rw [if_neg (by omega), if_pos (of_decide_eq_true hp), ln, he]
  · intro he K
    simp (maxSteps := 1000000) (disch := omega) only [f_R_unit_B49, lt_t, nn_t, bd_t, bdD_t, bdP_t, nI_clamp, gi_n, nI_add, nI_1, pk_mul, b2_eq0, b2_01, nb_t, if_true, if_false, ni_le, ni_eq, ni_lt]
    rw [if_pos (by decide), ln, he]
theorem r_un_81 (h : RI S d m s) (b : BI s) {x : Int32} (ho : okL s x) {w : List (Nat × Nat × Nat) × List Nat} (hw : WR d m w) (hp : GP w.1) (hl : w.2.length + 4 ≤ 3600) (Q : Option (Unit × gD) → Prop) {kx : gD → Option (Unit × gD)} {z : gD → Int32 → Int32 → Int32 → Option (Unit × gD)} (hk : ∀ e, Ch (PW m) d e → RI S e m s → WR e m (run w (lsT x (ln x))) → GP (run w (lsT x (ln x))).1 → Q (kx e)) : Q (itr (f_R_unit_B81 S m kx) z fu d x (nI (ln x)) 0) := by
  have hln := ln_le x
  have hF := b.faces
  refine itr_q (B := f_R_unit_B81 S m kx) (fun (y : gD × Nat) K => K y.1 x (nI (ln x)) (nI y.2)) Q (fun k y => y.2 = k ∧ Ch (PW m) d y.1 ∧ RI S y.1 m s ∧ WR y.1 m (run w (lsT x k)) ∧ GP (run w (lsT x k)).1) (ln x) (by omega) ?_ ?_ (x := (d, 0)) ⟨rfl, ch_r, h, hw, hp⟩
  · rintro k hkk ⟨e, k'⟩ ⟨rfl, hc, he, hwe, hpe⟩ K hK
    simp only at hkk hc he hwe hpe hK ⊢
    have hlen := run_len (lsT x k') w
    have htl := lsT_len x k'
    have hkf := ho k' hkk
    simp (maxSteps := 1000000) (disch := omega) only [f_R_unit_B81, kd_t he.rs.1, l0_e, l0_le, l0_ge, l0_lt, l0_gt, l1_m, l1_a, l1_b, l1_s, l1_e, l1_le, l1_ge, l1_lt, l1_gt, l8_m, l8_a, l8_b, l8_s, l8_e, l8_le, l8_ge, l8_lt, l8_gt, l31_m, l31_a, l31_b, l31_s, l31_e, l31_le, l31_ge, l31_lt, l31_gt, l255_m, l255_a, l255_b, l255_s, l255_e, l255_le, l255_ge, l255_lt, l255_gt, lt_t, nn_t, bd_t, bdD_t, bdP_t, nI_clamp, gi_n, nI_add, nI_1, pk_mul, b2_eq0, b2_01, nb_t, if_true, if_false, ni_le, ni_eq, ni_lt, ub_s x (show k' < 4 by omega)]
    rw [if_neg (by omega)]
    refine q_se (t := 1) (a := ub x k') (c := 0) he hwe hpe (by omega) (.inl ⟨rfl, show ub x k' < 47 by omega, rfl⟩) rfl rfl rfl Q ?_
    intro e1 c1 i1 w1 p1
    have er : run w (lsT x (k' + 1)) = run1 (run w (lsT x k')) (1, ub x k', 0) := by
      show run w (lsT x k' ++ [_]) = _
      rw [run_app]; rfl
    rw [← er] at w1 p1
    exact hK (e1, k' + 1) ⟨rfl, ch_t hc c1, i1, w1, p1⟩
  · rintro ⟨e, k'⟩ ⟨rfl, hc, he, hwe, hpe⟩ K
    simp only at hc he hwe hpe ⊢
    simp (maxSteps := 1000000) (disch := omega) only [f_R_unit_B81, kd_t he.rs.1, l0_e, l0_le, l0_ge, l0_lt, l0_gt, l1_m, l1_a, l1_b, l1_s, l1_e, l1_le, l1_ge, l1_lt, l1_gt, l8_m, l8_a, l8_b, l8_s, l8_e, l8_le, l8_ge, l8_lt, l8_gt, l31_m, l31_a, l31_b, l31_s, l31_e, l31_le, l31_ge, l31_lt, l31_gt, l255_m, l255_a, l255_b, l255_s, l255_e, l255_le, l255_ge, l255_lt, l255_gt, lt_t, nn_t, bd_t, bdD_t, bdP_t, nI_clamp, gi_n, nI_add, nI_1, pk_mul, b2_eq0, b2_01, nb_t, if_true, if_false, ni_le, ni_eq, ni_lt]
    rw [if_pos (by omega)]
    exact hk e hc he hwe hpe
theorem r_un_125 (h : RI S d m s) (b : BI s) {fl : List (Nat × List Nat)} (hf : FR d m fl) (hg : GF s fl) (h40 : fl.length ≤ 40) (hr : Row d (m + 29) 0 (ord s fl)) {w : List (Nat × Nat × Nat) × List Nat} (hw : WR d m w) (hp : GP w.1) (hl : w.2.length ≤ 8) {z : gD → Int32 → Option (Unit × gD)} : ∃ e, itr (f_R_unit_B125 S m) z fu d 0 = some ((), e) ∧ Ch (PX m) d e ∧ WR e m (run w (msT s fl (ord s fl) fl.length)) ∧ GP (run w (msT s fl (ord s fl) fl.length)).1 := by
  have hof := ord_full (s := s) (fl := fl)
  have hml : ∀ k, k ≤ fl.length → (msT s fl (ord s fl) k).length ≤ 79 * k := by
    intro k
    induction k with
    | zero => intro _; exact Nat.le_refl _
    | succ k ih =>
      intro hk
      have i := ih (by omega)
      have hm := (hof.2 _).mp (getD_mem (l := ord s fl) (i := k) (by omega))
      have := mTF_len (s := s) (hg.2.1 _ hm).2
      unfold msT
      rw [List.length_append]
      omega
  refine itr_q (B := f_R_unit_B125 S m) (fun (y : gD × Nat) K => K y.1 (nI y.2)) (fun t => ∃ e, t = some ((), e) ∧ Ch (PX m) d e ∧ WR e m (run w (msT s fl (ord s fl) fl.length)) ∧ GP (run w (msT s fl (ord s fl) fl.length)).1) (fun k y => y.2 = k ∧ Ch (PX m) d y.1 ∧ WR y.1 m (run w (msT s fl (ord s fl) k)) ∧ GP (run w (msT s fl (ord s fl) k)).1) fl.length (by omega) ?_ ?_ (x := (d, 0)) ⟨rfl, ch_r, hw, hp⟩
  · rintro k hkk ⟨e, k'⟩ ⟨rfl, hc, hwe, hpe⟩ K hK
    simp only at hkk hc hwe hpe hK ⊢
    have he := ri_PX h hc
    have hfe := fr_PX hf hc
    have hre := row_ch hr hc (fun i _ => by unfold PX; omega)
    have hm := (hof.2 _).mp (getD_mem (l := ord s fl) (i := k') (by omega))
    have hbk : dI e (m + 29) k' = nI ((ord s fl).getD k' 0) := by have := hre k' (by omega); rwa [Nat.zero_add] at this
    have hlen := run_len (msT s fl (ord s fl) k') w
    have hmk := hml k' (by omega)
    have hvx : vx s (fl.getD ((ord s fl).getD k' 0) df).1 := by
      rcases hg.2.2 _ hm with q | q
      · exact .inr ⟨q, (hg.2.1 _ hm).1⟩
      · exact .inl q
    obtain ⟨e2, q2, c2, w2, p2⟩ := r_sayMethod he b hfe hg hm hvx hwe hpe (by omega)
    simp (maxSteps := 1000000) (disch := omega) only [f_R_unit_B125, kd_t he.rs.1, rs_P36 he.rs, kd_t (rs_K36 he.rs), rs_N36 he.rs, l1_m, l1_a, l1_b, l1_s, l1_e, l1_le, l1_ge, l1_lt, l1_gt, lt_t, nn_t, bd_t, bdD_t, bdP_t, nI_clamp, gi_n, nI_add, nI_1, pk_mul, b2_eq0, b2_01, nb_t, if_true, if_false, ni_le, ni_eq, ni_lt, hfe.1, hbk, q2]
    rw [if_neg (by omega)]
    have er : run w (msT s fl (ord s fl) (k' + 1)) = run (run w (msT s fl (ord s fl) k')) (mTF s fl ((ord s fl).getD k' 0)) := by
      show run w (msT s fl (ord s fl) k' ++ _) = _
      rw [run_app]
    unfold mTF at er
    rw [← er] at w2 p2
    exact hK (e2, k' + 1) ⟨rfl, ch_t hc c2, w2, p2⟩
  · rintro ⟨e, k'⟩ ⟨rfl, hc, hwe, hpe⟩ K
    simp only at hc hwe hpe ⊢
    have he := ri_PX h hc
    have hfe := fr_PX hf hc
    simp (maxSteps := 1000000) (disch := omega) only [f_R_unit_B125, kd_t he.rs.1, rs_P36 he.rs, kd_t (rs_K36 he.rs), rs_N36 he.rs, l1_m, l1_a, l1_b, l1_s, l1_e, l1_le, l1_ge, l1_lt, l1_gt, lt_t, nn_t, bd_t, bdD_t, bdP_t, nI_clamp, gi_n, nI_add, nI_1, pk_mul, b2_eq0, b2_01, nb_t, if_true, if_false, ni_le, ni_eq, ni_lt, hfe.1]
    rw [if_pos (by omega)]
    exact ⟨e, rfl, hc, hwe, hpe⟩
theorem r_unit (h : RI S d m s) (b : BI s) {c : Nat} (hc : c < 16) (ho : okL s (nI (s 23 c))) (h40 : (dsc s (nI (s 23 c))).length ≤ 40) : ∃ e, f_R_unit S d m (nI c) = some ((), e) ∧ Ch (PU m) d e ∧ FR e m (dsc s (nI (s 23 c))) ∧ WR e m (run ([], []) (uT s c)) ∧ GP (run ([], []) (uT s c)).1 := by
  obtain ⟨e1, q1, c1, f1, r1⟩ := r_describe h b ho
  have hg := GF_dscK b ho _ (Nat.le_refl _)
  have hln := ln_le (nI (s 23 c))
  have hL : ∀ (w' : List (Nat × Nat × Nat) × List Nat) (u : Nat × Nat × Nat), (run1 w' u).2.length = w'.2.length + 1 := run1_len
  have i1 := ri_PD h c1
  have cw : Ch (PW m) e1 (wI (wI e1 m 40 0) m 42 0) := ch_s (ch_w (.inl ⟨rfl, .inl rfl⟩)) (.inl ⟨rfl, .inr rfl⟩)
  have i2 := ri_PW i1 cw
  have w0 : WR (wI (wI e1 m 40 0) m 42 0) m ([], []) := ⟨by rw [dI_wI, if_neg (by omega), dI_wI, if_pos ⟨rfl, rfl⟩]; rfl, row_n, by rw [dI_wI, if_pos ⟨rfl, rfl⟩]; rfl, fun i hi => absurd hi (Nat.not_lt_zero _)⟩
  have p0 : GP (([], []) : List (Nat × Nat × Nat) × List Nat).1 := ⟨fun k hk => absurd hk List.not_mem_nil, trivial⟩
  simp (maxSteps := 1000000) (disch := omega) only [f_R_unit, kd_t h.rs.1, rs_P23 h.rs, kd_t (rs_K23 h.rs), rs_N23 h.rs, ri_23 h, rs_P24 h.rs, kd_t (rs_K24 h.rs), rs_N24 h.rs, ri_24 h, rs_P25 h.rs, kd_t (rs_K25 h.rs), rs_N25 h.rs, ri_25 h, l0_e, l0_le, l0_ge, l0_lt, l0_gt, lt_t, nn_t, bd_t, bdD_t, bdP_t, nI_clamp, gi_n, nI_add, nI_1, pk_mul, b2_eq0, b2_01, nb_t, if_true, if_false, ni_le, ni_eq, ni_lt, q1, ri_24 i2]
  refine q_say (v := s 24 c) i2 w0 (by decide) rfl (fun t => ∃ e, t = some ((), e) ∧ Ch (PU m) d e ∧ FR e m (dsc s (nI (s 23 c))) ∧ WR e m (run ([], []) (uT s c)) ∧ GP (run ([], []) (uT s c)).1) ?_
  intro e3 c3 i3 w3
  rw [ri_25 i3 (by omega)]
  refine q_say (v := s 25 c) i3 w3 (by simp only [hL]; decide) rfl (fun t => ∃ e, t = some ((), e) ∧ Ch (PU m) d e ∧ FR e m (dsc s (nI (s 23 c))) ∧ WR e m (run ([], []) (uT s c)) ∧ GP (run ([], []) (uT s c)).1) ?_
  intro e4 c4 i4 w4
  rw [ri_23 i4 (by omega), r_un_49]
  simp (maxSteps := 1000000) (disch := omega) only [f_R_unit_J73, kd_t i4.rs.1, l0_e, l0_le, l0_ge, l0_lt, l0_gt, lt_t, nn_t, bd_t, bdD_t, bdP_t, nI_clamp, gi_n, nI_add, nI_1, pk_mul, b2_eq0, b2_01, nb_t, if_true, if_false, ni_le, ni_eq, ni_lt]
  refine q_say (v := ln (nI (s 23 c))) i4 w4 (by simp only [hL]; decide) rfl (fun t => ∃ e, t = some ((), e) ∧ Ch (PU m) d e ∧ FR e m (dsc s (nI (s 23 c))) ∧ WR e m (run ([], []) (uT s c)) ∧ GP (run ([], []) (uT s c)).1) ?_
  intro e5 c5 i5 w5
  have vz : ∀ (w' : List (Nat × Nat × Nat) × List Nat) (v : Nat), GP w'.1 → GP (run1 w' (0, v, 0)).1 := fun w' v hh => GP_run1 hh (.inl rfl)
  refine r_un_81 i5 b ho w5 (vz _ _ (vz _ _ (vz _ _ p0))) (by simp only [hL]; decide) (fun t => ∃ e, t = some ((), e) ∧ Ch (PU m) d e ∧ FR e m (dsc s (nI (s 23 c))) ∧ WR e m (run ([], []) (uT s c)) ∧ GP (run ([], []) (uT s c)).1) ?_
  intro e6 c6 i6 w6 p6
  have cP := ch_t cw (ch_t c3 (ch_t c4 (ch_t c5 c6)))
  have f6 := fr_PW f1 cP
  have l6 := run_len (lsT (nI (s 23 c)) (ln (nI (s 23 c)))) (run1 (run1 (run1 ([], []) (0, s 24 c, 0)) (0, s 25 c, 0)) (0, ln (nI (s 23 c)), 0))
  rw [lsT_len, hL, hL, hL] at l6
  simp only [List.length_nil] at l6
  simp (maxSteps := 1000000) (disch := omega) only [f_R_unit_J114, kd_t i6.rs.1, lt_t, nn_t, bd_t, bdD_t, bdP_t, nI_clamp, gi_n, nI_add, nI_1, pk_mul, b2_eq0, b2_01, nb_t, if_true, if_false, ni_le, ni_eq, ni_lt, f6.1]
  refine q_say (v := (dsc s (nI (s 23 c))).length) i6 w6 (by omega) rfl (fun t => ∃ e, t = some ((), e) ∧ Ch (PU m) d e ∧ FR e m (dsc s (nI (s 23 c))) ∧ WR e m (run ([], []) (uT s c)) ∧ GP (run ([], []) (uT s c)).1) ?_
  intro e7 c7 i7 w7
  have cQ := ch_t cP c7
  obtain ⟨e8, q8, c8, w8, p8⟩ := r_un_125 i7 b (fr_PW f1 cQ) hg h40 (row_ch r1 cQ (fun i _ => by unfold PW; omega)) w7 (vz _ _ p6) (by rw [hL]; omega) (z := fun _ _ => none)
  have eqT : run ([], []) (uT s c) = run (run1 (run (run1 (run1 (run1 ([], []) (0, s 24 c, 0)) (0, s 25 c, 0)) (0, ln (nI (s 23 c)), 0)) (lsT (nI (s 23 c)) (ln (nI (s 23 c))))) (0, (dsc s (nI (s 23 c))).length, 0)) (msT s (dsc s (nI (s 23 c))) (ord s (dsc s (nI (s 23 c)))) (dsc s (nI (s 23 c))).length) := by
    unfold uT
    rw [run_app, run_app]
    rfl
  rw [← eqT] at w8 p8
  exact ⟨e8, q8, ch_t (ch_m c1 pd_pu) (ch_t (ch_m cQ (fun a j p => px_pu a j (pw_px a j p))) (ch_m c8 px_pu)), fr_PX (fr_PW f1 cQ) c8, w8, p8⟩
end ref
