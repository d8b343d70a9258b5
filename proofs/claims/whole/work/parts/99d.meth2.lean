theorem cl_ct {s : Nat → Nat → Nat} {B : List Nat} (h : cl B) : cl (ct s B) := by
  unfold ct
  split
  · exact ⟨trivial, fun y hy => absurd hy List.not_mem_nil⟩
  · exact cl_ctK h _ (Nat.le_refl _)
def PX (m : Nat) (a j : Nat) : Prop := (a = m ∧ (j = 37 ∨ j = 40 ∨ j = 42)) ∨ (m + 30 ≤ a ∧ a ≤ m + 32)
section ref
variable {S : gS} {d : gD} {m : Nat} {s : Nat → Nat → Nat}
theorem ri_PX {e : gD} (h : RI S d m s) (g : Ch (PX m) d e) : RI S e m s := ri_ch h g (fun a j p => by unfold PX at p; omega)
theorem fr_PX {e : gD} {fl : List (Nat × List Nat)} (hf : FR d m fl) (g : Ch (PX m) d e) : FR e m fl := fr_ch hf g (fun a j p => by unfold PX at p; omega)
theorem pw_px (a j : Nat) (p : PW m a j) : PX m a j := by unfold PW at p; unfold PX; omega
theorem pc_px (a j : Nat) (p : PC m a j) : PX m a j := by unfold PC at p; unfold PX; omega
theorem r_sm_178 (h : RI S d m s) {c : List Nat} (hcr : CR d m c) (hcl : cl c) {p : List (Nat × Nat × Nat)} {b0 r : List Nat} (hw : WR d m (p, b0 ++ 0 :: r)) (hp : GP p) (hl : b0.length + r.length + 18 ≤ 3600) : ∃ e, f_R_sayMethod_J178 S m d (nI b0.length) = some ((), e) ∧ Ch (PX m) d e ∧ WR e m (run (p, b0 ++ r.length :: r) ([(0, c.length, 0)] ++ rwT c c.length)) ∧ GP (run (p, b0 ++ r.length :: r) ([(0, c.length, 0)] ++ rwT c c.length)).1 := by
  have hlc := cl_len hcl
  have h40 : dI d m 40 = nI (b0.length + (r.length + 1)) := by rw [hw.1]; simp
  have cw : Ch (fun a j => a = m + 31 ∧ j = b0.length) d (wI d (m + 31) b0.length (nI r.length)) := ch_w ⟨rfl, rfl⟩
  have cw2 : Ch (PW m) d (wI d (m + 31) b0.length (nI r.length)) := ch_m cw (fun a j p => .inr (.inl p.1))
  have i1 := ri_PW h cw2
  have cr1 := cr_PW hcr cw2
  have w1 : WR (wI d (m + 31) b0.length (nI r.length)) m (p, b0 ++ r.length :: r) := by
    refine ⟨?_, row_set hw.2.1, (cw.2 _ _ (by omega)).trans hw.2.2.1, pr_ch hw.2.2.2 cw (fun j _ => by omega)⟩
    rw [cw.2 _ _ (by omega), h40]
    simp
  have sub1 : nI (b0.length + (r.length + 1)) - nI b0.length - 1 = nI r.length := by
    rw [pk_sub (by omega), l1_s _ (by omega)]
    congr 1
    omega
  simp (maxSteps := 1000000) (disch := omega) only [f_R_sayMethod_J178, kd_t h.rs.1, rs_P39 h.rs, kd_t (rs_K39 h.rs), rs_N39 h.rs, lt_t, nn_t, bd_t, bdD_t, bdP_t, nI_clamp, gi_n, nI_add, nI_1, pk_mul, b2_eq0, b2_01, nb_t, if_true, if_false, ni_le, ni_eq, ni_lt, h40]
  rw [show nI (b0.length + (r.length + 1)) - nI b0.length - 1 = nI r.length from sub1, cr1.1]
  refine q_say i1 w1 (by simp only [List.length_append, List.length_cons]; omega) rfl (fun t => ∃ e, t = some ((), e) ∧ Ch (PX m) d e ∧ WR e m (run (p, b0 ++ r.length :: r) ([(0, c.length, 0)] ++ rwT c c.length)) ∧ GP (run (p, b0 ++ r.length :: r) ([(0, c.length, 0)] ++ rwT c c.length)).1) ?_
  intro e2 c2 i2 w2
  obtain ⟨e3, q3, c3, w3, p3⟩ := r_sm_205 i2 (cr_PW cr1 c2) (fun t ht => by have := (hcl.2 t ht).2; omega) hlc w2 (GP_run1 hp (.inl rfl)) (by rw [run1_len]; simp only [List.length_append, List.length_cons]; omega) (z := fun _ _ => none)
  exact ⟨e3, q3, ch_m (ch_t cw2 (ch_t c2 c3)) pw_px, w3, p3⟩
theorem r_sayMethod (h : RI S d m s) (b : BI s) {fl : List (Nat × List Nat)} (hf : FR d m fl) (hg : GF s fl) {j : Nat} (hj : j < fl.length) (hx : vx s (fl.getD j df).1) {w : List (Nat × Nat × Nat) × List Nat} (hw : WR d m w) (hp : GP w.1) (hl : w.2.length + 80 ≤ 3600) : ∃ e, f_R_sayMethod S d m (nI j) = some ((), e) ∧ Ch (PX m) d e ∧ WR e m (run w (mT s (fl.getD j df).1 (fl.getD j df).2 (ct s (fl.getD j df).2))) ∧ GP (run w (mT s (fl.getD j df).1 (fl.getD j df).2 (ct s (fl.getD j df).2))).1 := by
  have hll := GF_len hg
  have hx75 := vx_lt b hx
  have ht := tc_le s (fl.getD j df).1
  have hB := (hg.2.1 j hj).2
  have hlB := cl_len hB
  have hcc := cl_ct (s := s) hB
  have hlc := cl_len hcc
  have h13 := b.nameT (fl.getD j df).1
  have h14 := b.resT (fl.getD j df).1
  have o := hf.2 j hj
  have hL : ∀ (w' : List (Nat × Nat × Nat) × List Nat) (u : Nat × Nat × Nat), (run1 w' u).2.length = w'.2.length + 1 := run1_len
  simp (maxSteps := 1000000) (disch := omega) only [f_R_sayMethod, kd_t h.rs.1, rs_P13 h.rs, kd_t (rs_K13 h.rs), rs_N13 h.rs, ri_13 h, rs_P32 h.rs, kd_t (rs_K32 h.rs), rs_N32 h.rs, l0_e, l0_le, l0_ge, l0_lt, l0_gt, l3_m, l3_a, l3_b, l3_s, l3_e, l3_le, l3_ge, l3_lt, l3_gt, lt_t, nn_t, bd_t, bdD_t, bdP_t, nI_clamp, gi_n, nI_add, nI_1, pk_mul, b2_eq0, b2_01, nb_t, if_true, if_false, ni_le, ni_eq, ni_lt, o.1, r_takesCount h b]
  refine q_se (t := 3) (a := s 13 (fl.getD j df).1) (c := 0) h hw hp (by omega) (.inr (.inr ⟨rfl, h13, rfl⟩)) rfl rfl rfl (fun t => ∃ e, t = some ((), e) ∧ Ch (PX m) d e ∧ WR e m (run w (mT s (fl.getD j df).1 (fl.getD j df).2 (ct s (fl.getD j df).2))) ∧ GP (run w (mT s (fl.getD j df).1 (fl.getD j df).2 (ct s (fl.getD j df).2))).1) ?_
  intro e1 c1 i1 w1 p1
  refine q_say (v := tc s (fl.getD j df).1) i1 w1 (by simp only [hL]; omega) rfl (fun t => ∃ e, t = some ((), e) ∧ Ch (PX m) d e ∧ WR e m (run w (mT s (fl.getD j df).1 (fl.getD j df).2 (ct s (fl.getD j df).2))) ∧ GP (run w (mT s (fl.getD j df).1 (fl.getD j df).2 (ct s (fl.getD j df).2))).1) ?_
  intro e2 c2 i2 w2
  refine r_sm_37 i2 b hx w2 (GP_run1 p1 (.inl rfl)) (by simp only [hL]; omega) (fun t => ∃ e, t = some ((), e) ∧ Ch (PX m) d e ∧ WR e m (run w (mT s (fl.getD j df).1 (fl.getD j df).2 (ct s (fl.getD j df).2))) ∧ GP (run w (mT s (fl.getD j df).1 (fl.getD j df).2 (ct s (fl.getD j df).2))).1) ?_
  intro e3 c3 i3 w3 p3
  have c13 := ch_t c1 (ch_t c2 c3)
  have l3 := run_len (tkT s (fl.getD j df).1 (tc s (fl.getD j df).1)) (run1 (run1 w (3, s 13 (fl.getD j df).1, 0)) (0, tc s (fl.getD j df).1, 0))
  rw [tkT_len, hL, hL] at l3
  have o3 := (fr_PW hf c13).2 j hj
  simp (maxSteps := 1000000) (disch := omega) only [f_R_sayMethod_J70, kd_t i3.rs.1, rs_P14 i3.rs, kd_t (rs_K14 i3.rs), rs_N14 i3.rs, ri_14 i3, rs_P34 i3.rs, kd_t (rs_K34 i3.rs), rs_N34 i3.rs, l0_e, l0_le, l0_ge, l0_lt, l0_gt, l1_m, l1_a, l1_b, l1_s, l1_e, l1_le, l1_ge, l1_lt, l1_gt, lt_t, nn_t, bd_t, bdD_t, bdP_t, nI_clamp, gi_n, nI_add, nI_1, pk_mul, b2_eq0, b2_01, nb_t, if_true, if_false, ni_le, ni_eq, ni_lt]
  refine q_se (t := 1) (a := s 14 (fl.getD j df).1) (c := 0) i3 w3 p3 (by omega) (.inl ⟨rfl, h14, rfl⟩) rfl rfl rfl (fun t => ∃ e, t = some ((), e) ∧ Ch (PX m) d e ∧ WR e m (run w (mT s (fl.getD j df).1 (fl.getD j df).2 (ct s (fl.getD j df).2))) ∧ GP (run w (mT s (fl.getD j df).1 (fl.getD j df).2 (ct s (fl.getD j df).2))).1) ?_
  intro e4 c4 i4 w4 p4
  have o4 := (fr_PW hf (ch_t c13 c4)).2 j hj
  rw [o4.2.1]
  refine q_say (v := (fl.getD j df).2.length) i4 w4 (by simp only [hL]; omega) rfl (fun t => ∃ e, t = some ((), e) ∧ Ch (PX m) d e ∧ WR e m (run w (mT s (fl.getD j df).1 (fl.getD j df).2 (ct s (fl.getD j df).2))) ∧ GP (run w (mT s (fl.getD j df).1 (fl.getD j df).2 (ct s (fl.getD j df).2))).1) ?_
  intro e5 c5 i5 w5
  refine r_sm_99 i5 (fr_PW hf (ch_t c13 (ch_t c4 c5))) (by omega) hj hB w5 (GP_run1 p4 (.inl rfl)) (by simp only [hL]; omega) (fun t => ∃ e, t = some ((), e) ∧ Ch (PX m) d e ∧ WR e m (run w (mT s (fl.getD j df).1 (fl.getD j df).2 (ct s (fl.getD j df).2))) ∧ GP (run w (mT s (fl.getD j df).1 (fl.getD j df).2 (ct s (fl.getD j df).2))).1) ?_
  intro e6 c6 i6 w6 p6
  have c16 := ch_t c13 (ch_t c4 (ch_t c5 c6))
  generalize hW : run (run1 (run1 (run (run1 (run1 w (3, s 13 (fl.getD j df).1, 0)) (0, tc s (fl.getD j df).1, 0)) (tkT s (fl.getD j df).1 (tc s (fl.getD j df).1))) (1, s 14 (fl.getD j df).1, 0)) (0, (fl.getD j df).2.length, 0)) (rwT (fl.getD j df).2 (fl.getD j df).2.length) = W at w6 p6
  have lW : W.2.length ≤ w.2.length + 23 := by
    rw [← hW, run_len, rwT_len, hL, hL, l3]
    omega
  have eqT : run w (mT s (fl.getD j df).1 (fl.getD j df).2 (ct s (fl.getD j df).2)) = run W ([(0, (cdT s (fl.getD j df).1 (ct s (fl.getD j df).2)).length, 0)] ++ (cdT s (fl.getD j df).1 (ct s (fl.getD j df).2) ++ ([(0, (ct s (fl.getD j df).2).length, 0)] ++ rwT (ct s (fl.getD j df).2) (ct s (fl.getD j df).2).length))) := by
    rw [← hW]
    unfold mT
    rw [run_app, run_app, run_app, run_app]
    rfl
  rw [eqT]
  simp (maxSteps := 1000000) (disch := omega) only [f_R_sayMethod_J138, kd_t i6.rs.1, lt_t, nn_t, bd_t, bdD_t, bdP_t, nI_clamp, gi_n, nI_add, nI_1, pk_mul, b2_eq0, b2_01, nb_t, if_true, if_false, ni_le, ni_eq, ni_lt, w6.1]
  refine q_say (v := 0) i6 w6 (by omega) rfl (fun t => ∃ e, t = some ((), e) ∧ Ch (PX m) d e ∧ WR e m (run W _) ∧ GP (run W _).1) ?_
  intro e7 c7 i7 w7
  refine q_sayCode i7 b hx w7 (GP_run1 p6 (.inl rfl)) (by simp only [hL]; omega) (fun t => ∃ e, t = some ((), e) ∧ Ch (PX m) d e ∧ WR e m (run W _) ∧ GP (run W _).1) ?_
  intro e8 c8 i8 w8 p8
  have c18 := ch_t c16 (ch_t c7 c8)
  obtain ⟨e9, q9, c9, r9⟩ := r_catchFor i8 b (fr_PW hf c18) hg.2.1 (by omega) hj
  rw [q9, bdD_t, r9.1]
  have i9 := ri_PC i8 c9
  have w9 := wr_PC w8 c9
  have cc9 : Ch (PX m) d e9 := ch_t (ch_m c18 pw_px) (ch_m c9 pc_px)
  have hcl := cod_len s (fl.getD j df).1
  have fin : ∀ e' w', Ch (PX m) d e' → RI S e' m s → CR e' m (ct s (fl.getD j df).2) → WR e' m w' → w' = run (run1 W (0, 0, 0)) (cdT s (fl.getD j df).1 (ct s (fl.getD j df).2)) → GP w'.1 → ∃ e, f_R_sayMethod_J178 S m e' (nI W.2.length) = some ((), e) ∧ Ch (PX m) d e ∧ WR e m (run W ([(0, (cdT s (fl.getD j df).1 (ct s (fl.getD j df).2)).length, 0)] ++ (cdT s (fl.getD j df).1 (ct s (fl.getD j df).2) ++ ([(0, (ct s (fl.getD j df).2).length, 0)] ++ rwT (ct s (fl.getD j df).2) (ct s (fl.getD j df).2).length)))) ∧ GP (run W ([(0, (cdT s (fl.getD j df).1 (ct s (fl.getD j df).2)).length, 0)] ++ (cdT s (fl.getD j df).1 (ct s (fl.getD j df).2) ++ ([(0, (ct s (fl.getD j df).2).length, 0)] ++ rwT (ct s (fl.getD j df).2) (ct s (fl.getD j df).2).length)))).1 := by
    intro e' w' c' i' cr' r' eq' p'
    have cdl := cdT_len s (fl.getD j df).1 (ct s (fl.getD j df).2)
    have sp : ∀ v, run (run1 W (0, v, 0)) (cdT s (fl.getD j df).1 (ct s (fl.getD j df).2)) = ((run (W.1, []) (cdT s (fl.getD j df).1 (ct s (fl.getD j df).2))).1, W.2 ++ v :: (run (W.1, []) (cdT s (fl.getD j df).1 (ct s (fl.getD j df).2))).2) := by
      intro v
      have : run1 W (0, v, 0) = (W.1, W.2 ++ [v]) := rfl
      rw [this, run_split]
      simp
    have ln2 : (run (W.1, []) (cdT s (fl.getD j df).1 (ct s (fl.getD j df).2))).2.length = (cdT s (fl.getD j df).1 (ct s (fl.getD j df).2)).length := by rw [run_len]; simp
    rw [eq', sp] at r' p'
    obtain ⟨e, k1, k2, k3, k4⟩ := r_sm_178 i' cr' hcc r' p' (by rw [ln2]; omega)
    rw [ln2, ← sp, ← run_app] at k3 k4
    exact ⟨e, k1, ch_t c' k2, k3, k4⟩
  simp only [l0_le _ (show (ct s (fl.getD j df).2).length < 2 ^ 31 by omega)]
  by_cases q0 : (ct s (fl.getD j df).2).length ≤ 0
  · rw [if_pos q0]
    refine fin e9 _ cc9 i9 r9 w9 ?_ p8
    unfold cdT
    rw [if_pos q0, List.append_nil]
  · rw [if_neg q0]
    have l8 : (run (run1 W (0, 0, 0)) (cod s (fl.getD j df).1)).2.length ≤ W.2.length + 37 := by rw [run_len, hL]; omega
    refine q_say (v := 17) i9 w9 (by omega) rfl (fun t => ∃ e, t = some ((), e) ∧ Ch (PX m) d e ∧ WR e m (run W _) ∧ GP (run W _).1) ?_
    intro e10 c10 i10 w10
    refine q_say (v := 18) i10 w10 (by simp only [hL]; omega) rfl (fun t => ∃ e, t = some ((), e) ∧ Ch (PX m) d e ∧ WR e m (run W _) ∧ GP (run W _).1) ?_
    intro e11 c11 i11 w11
    refine fin e11 _ (ch_t cc9 (ch_m (ch_t c10 c11) pw_px)) i11 (cr_PW r9 (ch_t c10 c11)) w11 ?_ (GP_run1 (GP_run1 p8 (.inl rfl)) (.inl rfl))
    unfold cdT
    rw [if_neg q0, run_app]
    rfl
end ref
