def df : Nat × List Nat := (0, [])
theorem getD_appF {l : List (Nat × List Nat)} {v : Nat × List Nat} {i : Nat} : (l ++ [v]).getD i df = if i = l.length then v else l.getD i df := by
  rw [List.getD_eq_getElem?_getD, List.getD_eq_getElem?_getD, List.getElem?_append]
  by_cases h : i < l.length
  · rw [if_pos h, if_neg (by omega)]
  · rw [if_neg h]
    by_cases e : i = l.length
    · rw [if_pos e, e, Nat.sub_self]; rfl
    · rw [if_neg e, List.getElem?_eq_none (by simp; omega), List.getElem?_eq_none (by omega)]
theorem getD_set {l : List (Nat × List Nat)} {v : Nat × List Nat} {i j : Nat} (hj : j < l.length) : (l.set j v).getD i df = if i = j then v else l.getD i df := by
  rw [List.getD_eq_getElem?_getD, List.getD_eq_getElem?_getD, List.getElem?_set]
  by_cases e : i = j
  · subst e; rw [if_pos rfl, if_pos rfl, if_pos hj]; rfl
  · rw [if_neg (fun q => e q.symm), if_neg e]
def FR (d : gD) (m : Nat) (fl : List (Nat × List Nat)) : Prop := dI d m 31 = nI fl.length ∧ ∀ i, i < fl.length → dI d (m + 25) i = nI (fl.getD i df).1 ∧ dI d (m + 27) i = nI (fl.getD i df).2.length ∧ Row d (m + 26) (16 * i) (fl.getD i df).2
def PF (m : Nat) (a j : Nat) : Prop := (a = m ∧ j = 31) ∨ (m + 25 ≤ a ∧ a ≤ m + 28)
def gf (fl : List (Nat × List Nat)) : Prop := ∀ i, i < fl.length → (fl.getD i df).1 < 75 ∧ cl (fl.getD i df).2
section ref
variable {S : gS} {d : gD} {m : Nat} {s : Nat → Nat → Nat}
theorem ri_PF {e : gD} (h : RI S d m s) (g : Ch (PF m) d e) : RI S e m s := ri_ch h g (fun a j p => by unfold PF at p; omega)
theorem r_add (h : RI S d m s) (b : BI s) {fl : List (Nat × List Nat)} (hf : FR d m fl) (hg : gf fl) (hl : fl.length < 80) {x : Nat} (hx : x < 75) : ∃ e, f_R_add S d m (nI x) = some ((), e) ∧ Ch (PF m) d e ∧ FR e m (fl ++ [(x, thr s x)]) := by
  have ht := b.throwN x
  have h31 := hf.1
  have w1 : Ch (PF m) d (wI d (m + 25) fl.length (nI x)) := ch_w (.inr ⟨by omega, by omega⟩)
  have r1 := ri_PF h w1
  have q1 : dI (wI d (m + 25) fl.length (nI x)) m 31 = nI fl.length := by rw [dI_wI, if_neg (by omega)]; exact h31
  simp (maxSteps := 1000000) (disch := omega) only [f_R_add, kd_t h.rs.1, rs_P16 h.rs, kd_t (rs_K16 h.rs), rs_N16 h.rs, ri_16 h, rs_P32 h.rs, kd_t (rs_K32 h.rs), rs_N32 h.rs, rs_P34 h.rs, kd_t (rs_K34 h.rs), rs_N34 h.rs, l0_e, l0_le, l0_ge, l0_lt, l0_gt, lt_t, nn_t, bd_t, bdD_t, bdP_t, nI_clamp, gi_n, nI_add, nI_1, pk_mul, b2_eq0, b2_01, nb_t, if_true, if_false, ni_le, ni_eq, ni_lt, h31, q1, ri_16 r1]
  have w2 : Ch (PF m) d (wI (wI d (m + 25) fl.length (nI x)) (m + 27) fl.length (nI (s 16 x))) := ch_s w1 (.inr ⟨by omega, by omega⟩)
  refine itr_q (B := f_R_add_B27 S m (f_R_add_J67 S m)) (fun (y : gD × Nat) K => K y.1 (nI x) (nI y.2)) (fun t => ∃ e, t = some ((), e) ∧ Ch (PF m) d e ∧ FR e m (fl ++ [(x, thr s x)])) (fun k y => y.2 = k ∧ Ch (fun a j => a = m + 26 ∧ 16 * fl.length ≤ j) (wI (wI d (m + 25) fl.length (nI x)) (m + 27) fl.length (nI (s 16 x))) y.1 ∧ Row y.1 (m + 26) (16 * fl.length) (thrK s x k)) (s 16 x) (by omega) ?_ ?_ (x := (_, 0)) ⟨rfl, ch_r, row_n⟩
  · rintro k hkk ⟨e, k'⟩ ⟨rfl, hc, hr⟩ K hK
    simp only at hkk hc hr hK ⊢
    have hcf : Ch (PF m) d e := ch_t w2 (ch_m hc (fun a j p => .inr ⟨by omega, by omega⟩))
    have he := ri_PF h hcf
    have q2 : dI e m 31 = nI fl.length := by rw [hc.2 m 31 (by omega), dI_wI, if_neg (by omega)]; exact q1
    simp (maxSteps := 1000000) (disch := omega) only [f_R_add_B27, kd_t he.rs.1, rs_P16 he.rs, kd_t (rs_K16 he.rs), rs_N16 he.rs, ri_16 he, rs_P17 he.rs, kd_t (rs_K17 he.rs), rs_N17 he.rs, ri_17 he, rs_P33 he.rs, kd_t (rs_K33 he.rs), rs_N33 he.rs, l1_m, l1_a, l1_b, l1_s, l1_e, l1_le, l1_ge, l1_lt, l1_gt, l3_m, l3_a, l3_b, l3_s, l3_e, l3_le, l3_ge, l3_lt, l3_gt, l16_m, l16_a, l16_b, l16_s, l16_e, l16_le, l16_ge, l16_lt, l16_gt, lt_t, nn_t, bd_t, bdD_t, bdP_t, nI_clamp, gi_n, nI_add, nI_1, pk_mul, b2_eq0, b2_01, nb_t, if_true, if_false, ni_le, ni_eq, ni_lt, q2]
    rw [if_neg (by omega)]
    have hlen := thrK_len s x k'
    refine hK (_, k' + 1) ⟨rfl, ch_s hc ⟨rfl, by omega⟩, ?_⟩
    exact row_w0 hr (by rw [hlen]) rfl
  · rintro ⟨e, k'⟩ ⟨rfl, hc, hr⟩ K
    simp only at hc hr ⊢
    have hcf : Ch (PF m) d e := ch_t w2 (ch_m hc (fun a j p => .inr ⟨by omega, by omega⟩))
    have he := ri_PF h hcf
    have q2 : dI e m 31 = nI fl.length := by rw [hc.2 m 31 (by omega), dI_wI, if_neg (by omega)]; exact q1
    simp (maxSteps := 1000000) (disch := omega) only [f_R_add_B27, f_R_add_J67, kd_t he.rs.1, rs_P16 he.rs, kd_t (rs_K16 he.rs), rs_N16 he.rs, ri_16 he, rs_P17 he.rs, kd_t (rs_K17 he.rs), rs_N17 he.rs, ri_17 he, rs_P33 he.rs, kd_t (rs_K33 he.rs), rs_N33 he.rs, l1_m, l1_a, l1_b, l1_s, l1_e, l1_le, l1_ge, l1_lt, l1_gt, l3_m, l3_a, l3_b, l3_s, l3_e, l3_le, l3_ge, l3_lt, l3_gt, l16_m, l16_a, l16_b, l16_s, l16_e, l16_le, l16_ge, l16_lt, l16_gt, lt_t, nn_t, bd_t, bdD_t, bdP_t, nI_clamp, gi_n, nI_add, nI_1, pk_mul, b2_eq0, b2_01, nb_t, if_true, if_false, ni_le, ni_eq, ni_lt, q2]
    rw [if_pos (by omega)]
    refine ⟨_, rfl, ch_s hcf (.inl ⟨rfl, rfl⟩), ?_, ?_⟩
    · rw [dI_wI, if_pos ⟨rfl, rfl⟩, List.length_append]; rfl
    · have cw : Ch (fun a j => (a = m ∧ j = 31) ∨ (a = m + 25 ∧ j = fl.length) ∨ (a = m + 27 ∧ j = fl.length) ∨ (a = m + 26 ∧ 16 * fl.length ≤ j)) d (wI e m 31 (nI (fl.length + 1))) := by
        refine ch_s (ch_t (ch_s (ch_w (.inr (.inl ⟨rfl, rfl⟩))) (.inr (.inr (.inl ⟨rfl, rfl⟩)))) (ch_m hc (fun a j p => .inr (.inr (.inr p))))) (.inl ⟨rfl, rfl⟩)
      intro i hi
      rw [List.length_append, List.length_singleton] at hi
      rw [getD_appF]
      by_cases q : i = fl.length
      · rw [if_pos q]
        subst q
        refine ⟨?_, ?_, ?_⟩
        · rw [dI_wI, if_neg (by omega), hc.2 _ _ (by omega), dI_wI, if_neg (by omega), dI_wI, if_pos ⟨rfl, rfl⟩]
        · rw [dI_wI, if_neg (by omega), hc.2 _ _ (by omega), dI_wI, if_pos ⟨rfl, rfl⟩]
          show _ = nI (thr s x).length
          rw [thr_len]
        · have c31 : Ch (fun a j => a = m ∧ j = 31) e (wI e m 31 (nI (fl.length + 1))) := ch_w ⟨rfl, rfl⟩
          exact row_ch hr c31 (fun i hi => by omega)
      · rw [if_neg q]
        have o := hf.2 i (by omega)
        have g16 := cl_len (hg i (by omega)).2
        exact ⟨by rw [cw.2 _ _ (by omega)]; exact o.1, by rw [cw.2 _ _ (by omega)]; exact o.2.1, row_ch o.2.2 cw (fun k hk => by omega)⟩
end ref
