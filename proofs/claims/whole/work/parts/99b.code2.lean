section ref
variable {S : gS} {d : gD} {m : Nat} {s : Nat → Nat → Nat}
theorem q_sayCode (h : RI S d m s) (b : BI s) {x : Nat} (hx : vx s x) {w : List (Nat × Nat × Nat) × List Nat} (hw : WR d m w) (hp : GP w.1) (hl : w.2.length + 36 ≤ 3600) (Q : Option (Unit × gD) → Prop) {k : Unit → gD → Option (Unit × gD)} (hk : ∀ e, Ch (PW m) d e → RI S e m s → WR e m (run w (cod s x)) → GP (run w (cod s x)).1 → Q (k () e)) : Q (bdD (f_R_sayCode S d m (nI x)) k) := by
  have hx75 := vx_lt b hx
  have ht := tc_le s x
  have h14 := b.resT x
  have hL : ∀ (w' : List (Nat × Nat × Nat) × List Nat) (u : Nat × Nat × Nat), (run1 w' u).2.length = w'.2.length + 1 := run1_len
  have vz : ∀ (w' : List (Nat × Nat × Nat) × List Nat) (v : Nat), GP w'.1 → GP (run1 w' (0, v, 0)).1 := fun w' v hh => GP_run1 hh (.inl rfl)
  have key : ∃ e, f_R_sayCode S d m (nI x) = some ((), e) ∧ Ch (PW m) d e ∧ RI S e m s ∧ WR e m (run w (cod s x)) := by
    have endR : ∀ e1 w1, Ch (PW m) d e1 → RI S e1 m s → WR e1 m w1 → GP w1.1 → w1.2.length + 6 ≤ 3600 → run w1 ([(0, 11, 0)] ++ rsT (s 14 x)) = run w (cod s x) → ∃ e, f_R_sayCode_J160 S m e1 (nI x) = some ((), e) ∧ Ch (PW m) d e ∧ RI S e m s ∧ WR e m (run w (cod s x)) := by
      intro e1 w1 c1 i1 r1 p1 l1 eq
      simp (maxSteps := 1000000) (disch := omega) only [f_R_sayCode_J160, kd_t i1.rs.1, rs_P14 i1.rs, kd_t (rs_K14 i1.rs), rs_N14 i1.rs, ri_14 i1, l0_e, l0_le, l0_ge, l0_lt, l0_gt, l1_m, l1_a, l1_b, l1_s, l1_e, l1_le, l1_ge, l1_lt, l1_gt, l11_m, l11_a, l11_b, l11_s, l11_e, l11_le, l11_ge, l11_lt, l11_gt, l12_m, l12_a, l12_b, l12_s, l12_e, l12_le, l12_ge, l12_lt, l12_gt, l13_m, l13_a, l13_b, l13_s, l13_e, l13_le, l13_ge, l13_lt, l13_gt, l16_m, l16_a, l16_b, l16_s, l16_e, l16_le, l16_ge, l16_lt, l16_gt, l40_m, l40_a, l40_b, l40_s, l40_e, l40_le, l40_ge, l40_lt, l40_gt, lt_t, nn_t, bd_t, bdD_t, bdP_t, nI_clamp, gi_n, nI_add, nI_1, pk_mul, b2_eq0, b2_01, nb_t, if_true, if_false, ni_le, ni_eq, ni_lt]
      refine q_say i1 r1 (by omega) rfl (fun t => ∃ e, t = some ((), e) ∧ Ch (PW m) d e ∧ RI S e m s ∧ WR e m (run w (cod s x))) ?_
      intro e2 c2 i2 r2
      rw [← eq, run_app]
      rw [ri_14 i2 hx75]
      simp only [l0_e _ (b.lt _ _)]
      unfold rsT
      by_cases q0 : s 14 x = 0
      · rw [if_pos q0, if_pos q0]
        refine q_say i2 r2 (by simp only [hL]; omega) rfl (fun t => ∃ e, t = some ((), e) ∧ Ch (PW m) d e ∧ RI S e m s ∧ WR e m _) ?_
        intro e3 c3 i3 r3
        refine q_say i3 r3 (by simp only [hL]; omega) rfl (fun t => ∃ e, t = some ((), e) ∧ Ch (PW m) d e ∧ RI S e m s ∧ WR e m _) ?_
        intro e4 c4 i4 r4
        exact ⟨e4, rfl, ch_t c1 (ch_t c2 (ch_t c3 c4)), i4, r4⟩
      · rw [if_neg q0, if_neg q0]
        refine q_say i2 r2 (by simp only [hL]; omega) rfl (fun t => ∃ e, t = some ((), e) ∧ Ch (PW m) d e ∧ RI S e m s ∧ WR e m _) ?_
        intro e3 c3 i3 r3
        rw [r_plain (by omega), bd_t]
        have c13 := ch_t c1 (ch_t c2 c3)
        have fin : ∀ a, a < 47 → ∀ u : Int32, u = nI a → ∃ e, f_R_sayCode_J219 S m e3 (nI (s 14 x)) (some m) (some m) 1 u = some ((), e) ∧ Ch (PW m) d e ∧ RI S e m s ∧ WR e m (run (run1 (run1 (run1 w1 (0, 11, 0)) (0, 13, 0)) (1, a, 0)) ((if pln (s 14 x) then [(0, 14, 0), (0, s 14 x, 0)] else []) ++ [(0, 15, 0)])) := by
          intro a ha u hu
          simp (maxSteps := 1000000) (disch := omega) only [f_R_sayCode_J219, f_R_sayCode_J246, l0_e, l0_le, l0_ge, l0_lt, l0_gt, l14_m, l14_a, l14_b, l14_s, l14_e, l14_le, l14_ge, l14_lt, l14_gt, l15_m, l15_a, l15_b, l15_s, l15_e, l15_le, l15_ge, l15_lt, l15_gt, lt_t, nn_t, bd_t, bdD_t, bdP_t, nI_clamp, gi_n, nI_add, nI_1, pk_mul, b2_eq0, b2_01, nb_t, if_true, if_false, ni_le, ni_eq, ni_lt, kd_t i3.rs.1]
          refine q_se i3 r3 (vz _ _ (vz _ _ p1)) (by simp only [hL]; omega) (.inl ⟨rfl, ha, rfl⟩) rfl hu rfl (fun t => ∃ e, t = some ((), e) ∧ Ch (PW m) d e ∧ RI S e m s ∧ WR e m _) ?_
          intro e4 c4 i4 r4 p4
          rw [r_plain (by omega), bd_t]
          cases qp : pln (s 14 x) with
          | false =>
            rw [if_pos (by rfl)]
            refine q_say i4 r4 (by simp only [hL]; omega) rfl (fun t => ∃ e, t = some ((), e) ∧ Ch (PW m) d e ∧ RI S e m s ∧ WR e m _) ?_
            intro e5 c5 i5 r5
            exact ⟨e5, rfl, ch_t c13 (ch_t c4 c5), i5, r5⟩
          | true =>
            rw [if_neg (by decide)]
            refine q_say i4 r4 (by simp only [hL]; omega) rfl (fun t => ∃ e, t = some ((), e) ∧ Ch (PW m) d e ∧ RI S e m s ∧ WR e m _) ?_
            intro e5 c5 i5 r5
            refine q_say i5 r5 (by simp only [hL]; omega) rfl (fun t => ∃ e, t = some ((), e) ∧ Ch (PW m) d e ∧ RI S e m s ∧ WR e m _) ?_
            intro e6 c6 i6 r6
            refine q_say i6 r6 (by simp only [hL]; omega) rfl (fun t => ∃ e, t = some ((), e) ∧ Ch (PW m) d e ∧ RI S e m s ∧ WR e m _) ?_
            intro e7 c7 i7 r7
            exact ⟨e7, rfl, ch_t c13 (ch_t c4 (ch_t c5 (ch_t c6 c7))), i7, r7⟩
        cases qp : pln (s 14 x) with
        | false =>
          rw [if_pos (by rfl)]
          have := fin (s 14 x) (by omega) _ rfl
          rw [qp] at this
          exact this
        | true =>
          rw [if_neg (by decide)]
          have hp6 : s 14 x ≤ 6 := by unfold pln at qp; simp at qp; omega
          have := fin (40 + s 14 x) (by omega) _ (l40_b _)
          rw [qp] at this
          exact this
    have midR : ∀ e1 w1, Ch (PW m) d e1 → RI S e1 m s → WR e1 m w1 → GP w1.1 → w1.2.length + 30 ≤ 3600 → run w1 (prm s x (tc s x) ++ ([(0, 11, 0)] ++ rsT (s 14 x))) = run w (cod s x) → ∃ e, f_R_sayCode_J62 S m e1 (nI x) (nI (tc s x)) 1 = some ((), e) ∧ Ch (PW m) d e ∧ RI S e m s ∧ WR e m (run w (cod s x)) := by
      intro e1 w1 c1 i1 r1 p1 l1 eq
      unfold f_R_sayCode_J62
      refine r_sc_65 i1 b hx r1 p1 (by omega) (fun t => ∃ e, t = some ((), e) ∧ Ch (PW m) d e ∧ RI S e m s ∧ WR e m (run w (cod s x))) ?_
      intro e2 c2 i2 r2 p2
      have hpl := prm_len s x (tc s x)
      refine endR e2 _ (ch_t c1 c2) i2 r2 p2 (by rw [run_len]; omega) ?_
      rw [← run_app]
      exact eq
    simp (maxSteps := 1000000) (disch := omega) only [f_R_sayCode, kd_t h.rs.1, l0_e, l0_le, l0_ge, l0_lt, l0_gt, l1_m, l1_a, l1_b, l1_s, l1_e, l1_le, l1_ge, l1_lt, l1_gt, l2_m, l2_a, l2_b, l2_s, l2_e, l2_le, l2_ge, l2_lt, l2_gt, l3_m, l3_a, l3_b, l3_s, l3_e, l3_le, l3_ge, l3_lt, l3_gt, l4_m, l4_a, l4_b, l4_s, l4_e, l4_le, l4_ge, l4_lt, l4_gt, l5_m, l5_a, l5_b, l5_s, l5_e, l5_le, l5_ge, l5_lt, l5_gt, lt_t, nn_t, bd_t, bdD_t, bdP_t, nI_clamp, gi_n, nI_add, nI_1, pk_mul, b2_eq0, b2_01, nb_t, if_true, if_false, ni_le, ni_eq, ni_lt, r_owner hx75, r_numberOf hx75]
    refine q_say h hw (by omega) rfl (fun t => ∃ e, t = some ((), e) ∧ Ch (PW m) d e ∧ RI S e m s ∧ WR e m (run w (cod s x))) ?_
    intro e1 c1 i1 r1
    refine q_say i1 r1 (by simp only [hL]; omega) rfl (fun t => ∃ e, t = some ((), e) ∧ Ch (PW m) d e ∧ RI S e m s ∧ WR e m (run w (cod s x))) ?_
    intro e2 c2 i2 r2
    refine q_say i2 r2 (by simp only [hL]; omega) rfl (fun t => ∃ e, t = some ((), e) ∧ Ch (PW m) d e ∧ RI S e m s ∧ WR e m (run w (cod s x))) ?_
    intro e3 c3 i3 r3
    refine q_se i3 r3 (vz _ _ (vz _ _ (vz _ _ hp))) (by simp only [hL]; omega) (ve_ow b hx) rfl rfl rfl (fun t => ∃ e, t = some ((), e) ∧ Ch (PW m) d e ∧ RI S e m s ∧ WR e m (run w (cod s x))) ?_
    intro e4 c4 i4 r4 p4
    rw [r_takesCount i4 b x hx75, bd_t]
    have c14 := ch_t c1 (ch_t c2 (ch_t c3 c4))
    have c0 : (nI (tc s x) = 0) = (tc s x = 0) := l0_e _ (by omega)
    simp only [c0]
    by_cases q0 : tc s x = 0
    · rw [if_pos q0]
      refine q_say i4 r4 (by simp only [hL]; omega) rfl (fun t => ∃ e, t = some ((), e) ∧ Ch (PW m) d e ∧ RI S e m s ∧ WR e m (run w (cod s x))) ?_
      intro e5 c5 i5 r5
      refine midR e5 _ (ch_t c14 c5) i5 r5 (vz _ _ p4) (by simp only [hL]; omega) ?_
      unfold cod hdT
      rw [if_pos q0]
      rfl
    · rw [if_neg q0]
      refine q_say i4 r4 (by simp only [hL]; omega) rfl (fun t => ∃ e, t = some ((), e) ∧ Ch (PW m) d e ∧ RI S e m s ∧ WR e m (run w (cod s x))) ?_
      intro e5 c5 i5 r5
      refine q_say i5 r5 (by simp only [hL]; omega) rfl (fun t => ∃ e, t = some ((), e) ∧ Ch (PW m) d e ∧ RI S e m s ∧ WR e m (run w (cod s x))) ?_
      intro e6 c6 i6 r6
      refine midR e6 _ (ch_t c14 (ch_t c5 c6)) i6 r6 (vz _ _ (vz _ _ p4)) (by simp only [hL]; omega) ?_
      unfold cod hdT
      rw [if_neg q0]
      rfl
  obtain ⟨e, e1, e2, e3, e4⟩ := key
  rw [e1, bdD_t]
  refine hk e e2 e3 e4 (GP_run ?_ hp)
  have z : ∀ v, vt (0, v, 0) := fun v => .inl rfl
  have hprm : ∀ n, ∀ k, k ∈ prm s x n → vt k := by
    intro n
    induction n with
    | zero => intro k hk; exact absurd hk List.not_mem_nil
    | succ n ih =>
      intro k hk
      unfold prm at hk
      rw [List.mem_append] at hk
      rcases hk with hk | hk
      · exact ih k hk
      · unfold prm1 at hk
        split at hk <;> simp at hk <;> rcases hk with rfl | rfl | rfl | rfl | rfl | hk
        all_goals first | exact z _ | skip
        · rcases hk with rfl | rfl | rfl <;> exact z _
        · rcases hk with rfl; exact z _
  intro k hk
  unfold cod at hk
  rw [List.mem_append, List.mem_append, List.mem_append] at hk
  rcases hk with hk | hk | hk | hk
  · unfold hdT at hk
    rw [List.mem_append] at hk
    rcases hk with hk | hk
    · simp at hk
      rcases hk with rfl | rfl | rfl | rfl
      · exact z _
      · exact z _
      · exact z _
      · exact .inr (ve_ow b hx)
    · split at hk <;> simp at hk
      · rw [hk]; exact z _
      · rcases hk with rfl | rfl <;> exact z _
  · exact hprm _ k hk
  · simp at hk; rw [hk]; exact z _
  · unfold rsT at hk
    split at hk
    · simp at hk; rcases hk with rfl | rfl <;> exact z _
    · rw [List.mem_append, List.mem_append] at hk
      rcases hk with hk | hk | hk
      · simp at hk
        rcases hk with rfl | rfl
        · exact z _
        · refine .inr (.inl ⟨rfl, ?_, rfl⟩)
          simp only
          split
          · rename_i qp; unfold pln at qp; simp at qp; omega
          · exact h14
      · split at hk
        · simp at hk; rcases hk with rfl | rfl <;> exact z _
        · exact absurd hk List.not_mem_nil
      · simp at hk; rw [hk]; exact z _
end ref
