noncomputable def dpK (s : Nat → Nat → Nat) (acc : List Nat) (t : Nat) : Nat → List Nat
  | 0 => []
  | k + 1 => if bN s (acc.getD k 0) t then dpK s acc t k else dpK s acc t k ++ [acc.getD k 0]
noncomputable def ct1 (s : Nat → Nat → Nat) (acc : List Nat) (t : Nat) : List Nat := if !bN s t 8 || bo s t acc then acc else dpK s acc t acc.length ++ [t]
noncomputable def ctK (s : Nat → Nat → Nat) (B : List Nat) : Nat → List Nat
  | 0 => [9, 10]
  | k + 1 => ct1 s (ctK s B k) (B.getD k 0)
noncomputable def ct (s : Nat → Nat → Nat) (B : List Nat) : List Nat := if 8 ∈ B then [] else ctK s B B.length
theorem dpK_mem {s : Nat → Nat → Nat} {acc : List Nat} {t y : Nat} : ∀ k, y ∈ dpK s acc t k → ∃ i, i < k ∧ y = acc.getD i 0 := by
  intro k
  induction k with
  | zero => intro h; exact absurd h List.not_mem_nil
  | succ k ih =>
    intro h
    unfold dpK at h
    split at h
    · obtain ⟨i, hi, e⟩ := ih h
      exact ⟨i, by omega, e⟩
    · rw [List.mem_append, List.mem_singleton] at h
      rcases h with h | h
      · obtain ⟨i, hi, e⟩ := ih h
        exact ⟨i, by omega, e⟩
      · exact ⟨k, by omega, h⟩
theorem cl_dpK {s : Nat → Nat → Nat} {acc : List Nat} {t : Nat} (h : cl acc) : ∀ k, k ≤ acc.length → cl (dpK s acc t k) ∧ (dpK s acc t k).length ≤ k := by
  intro k
  induction k with
  | zero => intro _; exact ⟨⟨trivial, fun y hy => absurd hy List.not_mem_nil⟩, Nat.le_refl _⟩
  | succ k ih =>
    intro hk
    have i := ih (by omega)
    unfold dpK
    split
    · exact ⟨i.1, by omega⟩
    · have hm := h.2 _ (getD_mem (l := acc) (i := k) (by omega))
      refine ⟨cl_app i.1 (fun w => ?_) hm.1 hm.2, by rw [List.length_append, List.length_singleton]; omega⟩
      obtain ⟨j, hj, e⟩ := dpK_mem k w
      exact nd_getD h.1 j k hj (by omega) e.symm
theorem cl_ct1 {s : Nat → Nat → Nat} {acc : List Nat} {t : Nat} (h : cl acc) (h1 : 8 ≤ t) (h2 : t < 24) : cl (ct1 s acc t) := by
  unfold ct1
  by_cases q : (!bN s t 8 || bo s t acc) = true
  · rw [if_pos q]; exact h
  · rw [if_neg q]
    refine cl_app (cl_dpK h _ (Nat.le_refl _)).1 (fun w => q ?_) h1 h2
    obtain ⟨i, hi, e⟩ := dpK_mem _ w
    have : bo s t acc = true := (anyb_iff _ _).mpr ⟨i, hi, by rw [← e]; exact bw_eq⟩
    rw [this, Bool.or_true]
theorem cl_910 : cl [9, 10] := by
  refine ⟨⟨by simp, by simp, trivial⟩, fun y hy => ?_⟩
  simp at hy
  omega
theorem cl_ctK {s : Nat → Nat → Nat} {B : List Nat} (h : cl B) : ∀ k, k ≤ B.length → cl (ctK s B k) := by
  intro k
  induction k with
  | zero => intro _; exact cl_910
  | succ k ih =>
    intro hk
    have hm := h.2 _ (getD_mem (l := B) (i := k) (by omega))
    exact cl_ct1 (ih (by omega)) hm.1 hm.2
section ref
variable {S : gS} {d : gD} {m : Nat} {s : Nat → Nat → Nat}
def PC (m : Nat) (a j : Nat) : Prop := (a = m ∧ j = 37) ∨ a = m + 30
theorem ri_PC {e : gD} (h : RI S d m s) (g : Ch (PC m) d e) : RI S e m s := ri_ch h g (fun a j p => by unfold PC at p; omega)
theorem fr_PC {e : gD} {fl : List (Nat × List Nat)} (hf : FR d m fl) (g : Ch (PC m) d e) : FR e m fl := fr_ch hf g (fun a j p => by unfold PC at p; omega)
def CR (d : gD) (m : Nat) (l : List Nat) : Prop := dI d m 37 = nI l.length ∧ Row d (m + 30) 0 l
theorem r_ca_77 (h : RI S d m s) (b : BI s) {t : Nat} {acc : List Nat} (hc : cl acc) (hr : CR d m acc) {v1 v2 : Int32} {u : Bool} {kx : gD → Int32 → Int32 → Int32 → Int32 → Option (Unit × gD)} {z : gD → Int32 → Int32 → Int32 → Int32 → Int32 → Option (Unit × gD)} : itr (f_R_catchFor_B77 S m kx) z fu d v1 v2 (nI t) (b2 u) 0 = kx d v1 v2 (nI t) (b2 (u || bo s t acc)) := by
  have hl := cl_len hc
  have e0 : b2 u = b2 (u || anyb (fun i => bN s t (acc.getD i 0)) 0) := by rw [anyb_0, Bool.or_false]
  rw [bo, e0]
  refine itr_0 (B := f_R_catchFor_B77 S m kx) (fun k K => K d v1 v2 (nI t) (b2 (u || anyb (fun i => bN s t (acc.getD i 0)) k)) (nI k)) _ acc.length (by omega) ?_ ?_
  · intro k hk K hK
    have hbk : dI d (m + 30) k = nI (acc.getD k 0) := by have := hr.2 k hk; rwa [Nat.zero_add] at this
    simp (maxSteps := 1000000) (disch := omega) only [f_R_catchFor_B77, f_R_catchFor_J104, kd_t h.rs.1, rs_P38 h.rs, kd_t (rs_K38 h.rs), rs_N38 h.rs, l0_e, l0_le, l0_ge, l0_lt, l0_gt, l1_m, l1_a, l1_b, l1_s, l1_e, l1_le, l1_ge, l1_lt, l1_gt, lt_t, nn_t, bd_t, bdD_t, bdP_t, nI_clamp, gi_n, nI_add, nI_1, pk_mul, b2_eq0, b2_01, nb_t, if_true, if_false, ni_le, ni_eq, ni_lt, hr.1, hbk, r_isBelow h b]
    rw [if_neg (by omega)]
    rw [anyb_s] at hK
    cases q : bN s t (acc.getD k 0) with
    | true =>
      rw [q, Bool.or_true, Bool.or_true] at hK
      unfold bN at q
      rw [if_neg (by rw [q]; decide)]
      exact hK
    | false =>
      rw [q, Bool.or_false] at hK
      unfold bN at q
      rw [if_pos q]
      exact hK
  · intro K
    simp (maxSteps := 1000000) (disch := omega) only [f_R_catchFor_B77, kd_t h.rs.1, rs_P38 h.rs, kd_t (rs_K38 h.rs), rs_N38 h.rs, l0_e, l0_le, l0_ge, l0_lt, l0_gt, l1_m, l1_a, l1_b, l1_s, l1_e, l1_le, l1_ge, l1_lt, l1_gt, lt_t, nn_t, bd_t, bdD_t, bdP_t, nI_clamp, gi_n, nI_add, nI_1, pk_mul, b2_eq0, b2_01, nb_t, if_true, if_false, ni_le, ni_eq, ni_lt, hr.1]
    rw [if_pos (by omega)]
theorem r_ca_121 (h : RI S d m s) (b : BI s) {t : Nat} {acc : List Nat} (hc : cl acc) (hr : CR d m acc) {v1 v2 : Int32} (Q : Option (Unit × gD) → Prop) {kx : gD → Int32 → Int32 → Int32 → Int32 → Option (Unit × gD)} {z : gD → Int32 → Int32 → Int32 → Int32 → Int32 → Option (Unit × gD)} (hk : ∀ e, Ch (fun a _ => a = m + 30) d e → Row e (m + 30) 0 (dpK s acc t acc.length) → Q (kx e v1 v2 (nI t) (nI (dpK s acc t acc.length).length))) : Q (itr (f_R_catchFor_B121 S m kx) z fu d v1 v2 (nI t) 0 0) := by
  have hl := cl_len hc
  refine itr_q (B := f_R_catchFor_B121 S m kx) (fun (y : gD × Nat) K => K y.1 v1 v2 (nI t) (nI (dpK s acc t y.2).length) (nI y.2)) Q (fun k y => y.2 = k ∧ Ch (fun a _ => a = m + 30) d y.1 ∧ Row y.1 (m + 30) 0 (dpK s acc t k) ∧ ∀ i, k ≤ i → i < acc.length → dI y.1 (m + 30) i = nI (acc.getD i 0)) acc.length (by omega) ?_ ?_ (x := (d, 0)) ⟨rfl, ch_r, row_n, fun i _ hi => by have := hr.2 i hi; rwa [Nat.zero_add] at this⟩
  · rintro k hkk ⟨e, k'⟩ ⟨rfl, hce, hre, hrest⟩ K hK
    simp only at hkk hce hre hrest hK ⊢
    have he : RI S e m s := ri_ch h hce (fun a j p => by omega)
    have q37 : dI e m 37 = nI acc.length := (hce.2 _ _ (by omega)).trans hr.1
    have hbk := hrest k' (Nat.le_refl _) hkk
    have hdl := (cl_dpK (s := s) (t := t) hc k' (by omega)).2
    simp (maxSteps := 1000000) (disch := omega) only [f_R_catchFor_B121, f_R_catchFor_J162, kd_t he.rs.1, rs_P38 he.rs, kd_t (rs_K38 he.rs), rs_N38 he.rs, l0_e, l0_le, l0_ge, l0_lt, l0_gt, l1_m, l1_a, l1_b, l1_s, l1_e, l1_le, l1_ge, l1_lt, l1_gt, lt_t, nn_t, bd_t, bdD_t, bdP_t, nI_clamp, gi_n, nI_add, nI_1, pk_mul, b2_eq0, b2_01, nb_t, if_true, if_false, ni_le, ni_eq, ni_lt, q37, hbk, r_isBelow he b]
    rw [if_neg (by omega)]
    have hst : dpK s acc t (k' + 1) = if bN s (acc.getD k' 0) t then dpK s acc t k' else dpK s acc t k' ++ [acc.getD k' 0] := rfl
    have fin := fun e' h1 h2 h3 => hK (e', k' + 1) ⟨rfl, h1, h2, h3⟩
    simp only at fin
    rw [hst] at fin
    cases q : bN s (acc.getD k' 0) t with
    | true =>
      rw [q, if_pos rfl] at fin
      unfold bN at q
      rw [if_neg (by rw [q]; decide)]
      exact fin e hce hre (fun i h1 h2 => hrest i (by omega) h2)
    | false =>
      rw [q, if_neg (by decide), List.length_append, List.length_singleton] at fin
      unfold bN at q
      rw [if_pos q]
      refine fin _ (ch_s hce rfl) (row_w0 hre (by omega) rfl) (fun i h1 h2 => ?_)
      rw [dI_wI, if_neg (by omega)]
      exact hrest i (by omega) h2
  · rintro ⟨e, k'⟩ ⟨rfl, hce, hre, hrest⟩ K
    simp only at hce hre hrest ⊢
    have he : RI S e m s := ri_ch h hce (fun a j p => by omega)
    have q37 : dI e m 37 = nI acc.length := (hce.2 _ _ (by omega)).trans hr.1
    simp (maxSteps := 1000000) (disch := omega) only [f_R_catchFor_B121, kd_t he.rs.1, rs_P38 he.rs, kd_t (rs_K38 he.rs), rs_N38 he.rs, l0_e, l0_le, l0_ge, l0_lt, l0_gt, l1_m, l1_a, l1_b, l1_s, l1_e, l1_le, l1_ge, l1_lt, l1_gt, lt_t, nn_t, bd_t, bdD_t, bdP_t, nI_clamp, gi_n, nI_add, nI_1, pk_mul, b2_eq0, b2_01, nb_t, if_true, if_false, ni_le, ni_eq, ni_lt, q37]
    rw [if_pos (by omega)]
    exact hk e hce hre
theorem r_catchFor (h : RI S d m s) (b : BI s) {fl : List (Nat × List Nat)} (hf : FR d m fl) (hg : gf fl) (hl : fl.length ≤ 80) {j : Nat} (hj : j < fl.length) : ∃ e, f_R_catchFor S d m (nI j) = some ((), e) ∧ Ch (PC m) d e ∧ CR e m (ct s (fl.getD j df).2) := by
  have hB := (hg j hj).2
  have hlB := cl_len hB
  simp (maxSteps := 1000000) (disch := omega) only [f_R_catchFor, kd_t h.rs.1, rs_P38 h.rs, kd_t (rs_K38 h.rs), rs_N38 h.rs, l0_e, l0_le, l0_ge, l0_lt, l0_gt, l1_m, l1_a, l1_b, l1_s, l1_e, l1_le, l1_ge, l1_lt, l1_gt, l2_m, l2_a, l2_b, l2_s, l2_e, l2_le, l2_ge, l2_lt, l2_gt, l9_m, l9_a, l9_b, l9_s, l9_e, l9_le, l9_ge, l9_lt, l9_gt, l10_m, l10_a, l10_b, l10_s, l10_e, l10_le, l10_ge, l10_lt, l10_gt, lt_t, nn_t, bd_t, bdD_t, bdP_t, nI_clamp, gi_n, nI_add, nI_1, pk_mul, b2_eq0, b2_01, nb_t, if_true, if_false, ni_le, ni_eq, ni_lt]
  rw [show gi (0 : Int32) 16 = gi (nI 0) 16 from rfl]
  simp only [show (1 : Int32) = nI 1 from rfl, show (0 : Int32).toNatClampNeg = 0 from rfl, nI_clamp (show 1 < 2 ^ 31 by omega), gi_n (show 0 < 16 by omega) (show 16 < 2 ^ 31 by omega), gi_n (show 1 < 16 by omega) (show 16 < 2 ^ 31 by omega)]
  have c0 : Ch (PC m) d (wI (wI (wI d m 37 2) (m + 30) 0 9) (m + 30) 1 10) := ch_s (ch_s (ch_w (.inl ⟨rfl, rfl⟩)) (.inr rfl)) (.inr rfl)
  have r0 : CR (wI (wI (wI d m 37 2) (m + 30) 0 9) (m + 30) 1 10) m [9, 10] := by
    refine ⟨?_, ?_⟩
    · rw [dI_wI, if_neg (by omega), dI_wI, if_neg (by omega), dI_wI, if_pos ⟨rfl, rfl⟩]; rfl
    · have a := row_w0 (v := 9) (x := 9) (row_n (d := wI d m 37 2) (a := m + 30) (o := 0)) (p := 0) rfl rfl
      exact row_w0 (v := 10) (x := 10) a (p := 1) rfl rfl
  refine itr_q (B := f_R_catchFor_B23 S m (f_R_catchFor_J51 S m)) (fun (y : gD × Nat) K => K y.1 (nI j) (nI y.2)) (fun t => ∃ e, t = some ((), e) ∧ Ch (PC m) d e ∧ CR e m (ct s (fl.getD j df).2)) (fun k y => y.2 = k ∧ Ch (PC m) d y.1 ∧ CR y.1 m (ctK s (fl.getD j df).2 k) ∧ ∀ i, i < k → (fl.getD j df).2.getD i 0 ≠ 8) (fl.getD j df).2.length (by omega) ?_ ?_ (x := (_, 0)) ⟨rfl, c0, r0, fun i hi => absurd hi (Nat.not_lt_zero _)⟩
  · rintro k hkk ⟨e, k'⟩ ⟨rfl, hc, hr, h8⟩ K hK
    simp only at hkk hc hr h8 hK ⊢
    have he := ri_PC h hc
    have hfe := fr_PC hf hc
    have o := hfe.2 j hj
    have hB2 := hB.2 _ (getD_mem hkk)
    have hck := cl_ctK (s := s) hB k' (by omega)
    simp (maxSteps := 1000000) (disch := omega) only [f_R_catchFor_B23, f_R_catchFor_J51, f_R_catchFor_J72, kd_t he.rs.1, rs_P33 he.rs, kd_t (rs_K33 he.rs), rs_N33 he.rs, rs_P34 he.rs, kd_t (rs_K34 he.rs), rs_N34 he.rs, l0_e, l0_le, l0_ge, l0_lt, l0_gt, l1_m, l1_a, l1_b, l1_s, l1_e, l1_le, l1_ge, l1_lt, l1_gt, l8_m, l8_a, l8_b, l8_s, l8_e, l8_le, l8_ge, l8_lt, l8_gt, l16_m, l16_a, l16_b, l16_s, l16_e, l16_le, l16_ge, l16_lt, l16_gt, lt_t, nn_t, bd_t, bdD_t, bdP_t, nI_clamp, gi_n, nI_add, nI_1, pk_mul, b2_eq0, b2_01, nb_t, if_true, if_false, ni_le, ni_eq, ni_lt, o.2.1, o.2.2 k' hkk, r_isBelow he b]
    rw [if_neg (by omega)]
    by_cases q8 : (fl.getD j df).2.getD k' 0 = 8
    · rw [if_pos q8]
      have : 8 ∈ (fl.getD j df).2 := by rw [← q8]; exact getD_mem hkk
      unfold ct
      rw [if_pos this]
      exact ⟨_, rfl, ch_s hc (.inl ⟨rfl, rfl⟩), by rw [dI_wI, if_pos ⟨rfl, rfl⟩]; rfl, row_n⟩
    · rw [if_neg q8]
      have fin := fun e' h1 h2 => hK (e', k' + 1) ⟨rfl, h1, h2, fun i hi => by
        by_cases r : i = k'
        · rw [r]; exact q8
        · exact h8 i (by omega)⟩
      simp only at fin
      have hst : ctK s (fl.getD j df).2 (k' + 1) = ct1 s (ctK s (fl.getD j df).2 k') ((fl.getD j df).2.getD k' 0) := rfl
      have hcl1 := cl_len (cl_ctK (s := s) hB (k' + 1) (by omega))
      rw [hst] at fin hcl1
      unfold ct1 at fin hcl1
      have un : bw s (nI ((fl.getD j df).2.getD k' 0)) 8 = bN s ((fl.getD j df).2.getD k' 0) 8 := rfl
      rw [un]
      have step : itr (f_R_catchFor_B77 S m (f_R_catchFor_J110 S m (f_R_catchFor_J51 S m) K)) (fun _ _ _ _ _ _ => none) fu e (nI j) (nI k') (nI ((fl.getD j df).2.getD k' 0)) (b2 (!bN s ((fl.getD j df).2.getD k' 0) 8)) 0 = f_R_catchFor_J110 S m (f_R_catchFor_J51 S m) K e (nI j) (nI k') (nI ((fl.getD j df).2.getD k' 0)) (b2 (!bN s ((fl.getD j df).2.getD k' 0) 8 || bo s ((fl.getD j df).2.getD k' 0) (ctK s (fl.getD j df).2 k'))) := r_ca_77 he b hck hr
      have sel : (if bN s ((fl.getD j df).2.getD k' 0) 8 = false then itr (f_R_catchFor_B77 S m (f_R_catchFor_J110 S m (f_R_catchFor_J51 S m) K)) (fun _ _ _ _ _ _ => none) fu e (nI j) (nI k') (nI ((fl.getD j df).2.getD k' 0)) 1 0 else itr (f_R_catchFor_B77 S m (f_R_catchFor_J110 S m (f_R_catchFor_J51 S m) K)) (fun _ _ _ _ _ _ => none) fu e (nI j) (nI k') (nI ((fl.getD j df).2.getD k' 0)) 0 0) = f_R_catchFor_J110 S m (f_R_catchFor_J51 S m) K e (nI j) (nI k') (nI ((fl.getD j df).2.getD k' 0)) (b2 (!bN s ((fl.getD j df).2.getD k' 0) 8 || bo s ((fl.getD j df).2.getD k' 0) (ctK s (fl.getD j df).2 k'))) := by
        rw [← step]
        cases bN s ((fl.getD j df).2.getD k' 0) 8
        · rw [if_pos rfl]; rfl
        · rw [if_neg (by decide)]; rfl
      show ∃ e, (if bN s ((fl.getD j df).2.getD k' 0) 8 = false then itr (f_R_catchFor_B77 S m (f_R_catchFor_J110 S m (f_R_catchFor_J51 S m) K)) (fun _ _ _ _ _ _ => none) fu _ (nI j) (nI k') (nI ((fl.getD j df).2.getD k' 0)) 1 0 else itr (f_R_catchFor_B77 S m (f_R_catchFor_J110 S m (f_R_catchFor_J51 S m) K)) (fun _ _ _ _ _ _ => none) fu _ (nI j) (nI k') (nI ((fl.getD j df).2.getD k' 0)) 0 0) = some ((), e) ∧ _
      rw [sel]
      simp (maxSteps := 1000000) (disch := omega) only [f_R_catchFor_J110, f_R_catchFor_J184, l0_e, l0_le, l0_ge, l0_lt, l0_gt, l1_m, l1_a, l1_b, l1_s, l1_e, l1_le, l1_ge, l1_lt, l1_gt, lt_t, nn_t, bd_t, bdD_t, bdP_t, nI_clamp, gi_n, nI_add, nI_1, pk_mul, b2_eq0, b2_01, nb_t, if_true, if_false, ni_le, ni_eq, ni_lt]
      cases q : (!bN s ((fl.getD j df).2.getD k' 0) 8 || bo s ((fl.getD j df).2.getD k' 0) (ctK s (fl.getD j df).2 k')) with
      | true =>
        rw [q, if_pos rfl] at fin
        rw [if_neg (by decide)]
        exact fin e hc hr
      | false =>
        rw [q, if_neg (by decide), List.length_append, List.length_singleton] at hcl1
        rw [q, if_neg (by decide)] at fin
        rw [if_pos rfl]
        refine r_ca_121 he b hck hr (fun t => ∃ e, t = some ((), e) ∧ Ch (PC m) d e ∧ CR e m (ct s (fl.getD j df).2)) ?_
        intro e2 c2 r2
        have i2 : RI S e2 m s := ri_ch he c2 (fun a j p => by omega)
        simp (maxSteps := 1000000) (disch := omega) only [f_R_catchFor_J168, f_R_catchFor_J184, kd_t i2.rs.1, rs_P38 i2.rs, kd_t (rs_K38 i2.rs), rs_N38 i2.rs, l1_m, l1_a, l1_b, l1_s, l1_e, l1_le, l1_ge, l1_lt, l1_gt, lt_t, nn_t, bd_t, bdD_t, bdP_t, nI_clamp, gi_n, nI_add, nI_1, pk_mul, b2_eq0, b2_01, nb_t, if_true, if_false, ni_le, ni_eq, ni_lt]
        refine fin _ (ch_s (ch_s (ch_t hc (ch_m c2 (fun a j p => .inr p))) (.inr rfl)) (.inl ⟨rfl, rfl⟩)) ⟨?_, ?_⟩
        · rw [dI_wI, if_pos ⟨rfl, rfl⟩, List.length_append]; rfl
        · exact row_ch (P := fun a j => a = m ∧ j = 37) (row_w0 r2 (by omega) rfl) (ch_w ⟨rfl, rfl⟩) (fun i hi => by omega)
  · rintro ⟨e, k'⟩ ⟨rfl, hc, hr, h8⟩ K
    simp only at hc hr h8 ⊢
    have he := ri_PC h hc
    have hfe := fr_PC hf hc
    have o := hfe.2 j hj
    simp (maxSteps := 1000000) (disch := omega) only [f_R_catchFor_B23, kd_t he.rs.1, rs_P33 he.rs, kd_t (rs_K33 he.rs), rs_N33 he.rs, rs_P34 he.rs, kd_t (rs_K34 he.rs), rs_N34 he.rs, l0_e, l0_le, l0_ge, l0_lt, l0_gt, l1_m, l1_a, l1_b, l1_s, l1_e, l1_le, l1_ge, l1_lt, l1_gt, l8_m, l8_a, l8_b, l8_s, l8_e, l8_le, l8_ge, l8_lt, l8_gt, l16_m, l16_a, l16_b, l16_s, l16_e, l16_le, l16_ge, l16_lt, l16_gt, lt_t, nn_t, bd_t, bdD_t, bdP_t, nI_clamp, gi_n, nI_add, nI_1, pk_mul, b2_eq0, b2_01, nb_t, if_true, if_false, ni_le, ni_eq, ni_lt, o.2.1]
    rw [if_pos (by omega)]
    refine ⟨e, rfl, hc, ?_⟩
    unfold ct
    rw [if_neg]
    · exact hr
    · intro w
      obtain ⟨i, hi, e8⟩ := mem_getD w
      exact h8 i hi e8
end ref
