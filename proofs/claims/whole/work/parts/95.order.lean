def sgF (s : Nat → Nat → Nat) (fl : List (Nat × List Nat)) (i j : Nat) : Bool := sg s (fl.getD i df).1 (fl.getD j df).1
def isF (s : Nat → Nat → Nat) (fl : List (Nat × List Nat)) (i : Nat) : Bool := !anyb (fun j => sgF s fl i j) i
def grpJ (s : Nat → Nat → Nat) (fl : List (Nat × List Nat)) (i : Nat) (acc : List Nat) : Nat → List Nat
  | 0 => acc
  | k + 1 => if sgF s fl i (i + k) then grpJ s fl i acc k ++ [i + k] else grpJ s fl i acc k
def ordK (s : Nat → Nat → Nat) (fl : List (Nat × List Nat)) : Nat → List Nat
  | 0 => []
  | i + 1 => if isF s fl i then grpJ s fl i (ordK s fl i) (fl.length - i) else ordK s fl i
def ord (s : Nat → Nat → Nat) (fl : List (Nat × List Nat)) : List Nat := ordK s fl fl.length
theorem grpJ_mem {s : Nat → Nat → Nat} {fl : List (Nat × List Nat)} {i y : Nat} {acc : List Nat} : ∀ k, y ∈ grpJ s fl i acc k ↔ y ∈ acc ∨ ∃ t, t < k ∧ y = i + t ∧ sgF s fl i y = true := by
  intro k
  induction k with
  | zero =>
    constructor
    · intro h; exact .inl h
    · rintro (h | ⟨t, ht, _⟩)
      · exact h
      · omega
  | succ k ih =>
    unfold grpJ
    cases q : sgF s fl i (i + k) with
    | true =>
      rw [if_pos rfl, List.mem_append, List.mem_singleton, ih]
      constructor
      · rintro ((h | ⟨t, ht, e, g⟩) | h)
        · exact .inl h
        · exact .inr ⟨t, by omega, e, g⟩
        · exact .inr ⟨k, by omega, h, by rw [h]; exact q⟩
      · rintro (h | ⟨t, ht, e, g⟩)
        · exact .inl (.inl h)
        · by_cases r : t = k
          · exact .inr (by rw [e, r])
          · exact .inl (.inr ⟨t, by omega, e, g⟩)
    | false =>
      rw [if_neg (by decide), ih]
      constructor
      · rintro (h | ⟨t, ht, e, g⟩)
        · exact .inl h
        · exact .inr ⟨t, by omega, e, g⟩
      · rintro (h | ⟨t, ht, e, g⟩)
        · exact .inl h
        · by_cases r : t = k
          · subst r; rw [e, q] at g; cases g
          · exact .inr ⟨t, by omega, e, g⟩
theorem isF_no {s : Nat → Nat → Nat} {fl : List (Nat × List Nat)} {i j : Nat} (h : isF s fl i = true) (hj : j < i) : sgF s fl i j = false := by
  cases q : sgF s fl i j with
  | false => rfl
  | true =>
    have : anyb (fun j => sgF s fl i j) i = true := (anyb_iff _ _).mpr ⟨j, hj, q⟩
    unfold isF at h
    rw [this] at h
    cases h
theorem ordK_mem {s : Nat → Nat → Nat} {fl : List (Nat × List Nat)} {y : Nat} : ∀ i, i ≤ fl.length → (y ∈ ordK s fl i ↔ y < fl.length ∧ ∃ t, t < i ∧ t ≤ y ∧ isF s fl t = true ∧ sgF s fl t y = true) := by
  intro i
  induction i with
  | zero =>
    intro _
    constructor
    · intro h; exact absurd h List.not_mem_nil
    · rintro ⟨_, t, ht, _⟩; omega
  | succ i ih =>
    intro hi
    have ih := ih (by omega)
    unfold ordK
    cases q : isF s fl i with
    | true =>
      rw [if_pos rfl, grpJ_mem, ih]
      constructor
      · rintro (⟨h, t, ht, g⟩ | ⟨t, ht, e, g⟩)
        · exact ⟨h, t, by omega, g⟩
        · exact ⟨by omega, i, by omega, by omega, q, g⟩
      · rintro ⟨h, t, ht, h2, g1, g2⟩
        by_cases r : t = i
        · subst r; exact .inr ⟨y - t, by omega, by omega, g2⟩
        · exact .inl ⟨h, t, by omega, h2, g1, g2⟩
    | false =>
      rw [if_neg (by decide), ih]
      constructor
      · rintro ⟨h, t, ht, g⟩; exact ⟨h, t, by omega, g⟩
      · rintro ⟨h, t, ht, h2, g1, g2⟩
        by_cases r : t = i
        · subst r; rw [q] at g1; cases g1
        · exact ⟨h, t, by omega, h2, g1, g2⟩
theorem grpJ_nd {s : Nat → Nat → Nat} {fl : List (Nat × List Nat)} {i : Nat} (hi : i < fl.length) (hF : isF s fl i = true) (hn : nd (ordK s fl i)) : ∀ k, k ≤ fl.length - i → nd (grpJ s fl i (ordK s fl i) k) := by
  intro k
  induction k with
  | zero => intro _; exact hn
  | succ k ih =>
    intro hk
    unfold grpJ
    cases q : sgF s fl i (i + k) with
    | false => rw [if_neg (by decide)]; exact ih (by omega)
    | true =>
      rw [if_pos rfl]
      refine nd_app (ih (by omega)) (fun w => ?_)
      rcases (grpJ_mem k).mp w with h | ⟨t, ht, e, _⟩
      · obtain ⟨_, t, ht, _, _, g2⟩ := (ordK_mem i (by omega)).mp h
        have := sg_tr q (sg_sym g2)
        have no := isF_no hF ht
        unfold sgF at no
        rw [this] at no
        cases no
      · omega
theorem ordK_nd {s : Nat → Nat → Nat} {fl : List (Nat × List Nat)} : ∀ i, i ≤ fl.length → nd (ordK s fl i) := by
  intro i
  induction i with
  | zero => intro _; exact trivial
  | succ i ih =>
    intro hi
    unfold ordK
    cases q : isF s fl i with
    | true => rw [if_pos rfl]; exact grpJ_nd (by omega) q (ih (by omega)) _ (Nat.le_refl _)
    | false => rw [if_neg (by decide)]; exact ih (by omega)
theorem grpJ_len {s : Nat → Nat → Nat} {fl : List (Nat × List Nat)} {i k : Nat} (hi : i < fl.length) (hF : isF s fl i = true) (hk : k ≤ fl.length - i) : (grpJ s fl i (ordK s fl i) k).length ≤ fl.length :=
  nd_len _ _ (grpJ_nd hi hF (ordK_nd i (by omega)) k hk) (fun y hy => by
    rcases (grpJ_mem k).mp hy with h | ⟨t, ht, e, _⟩
    · exact ((ordK_mem i (by omega)).mp h).1
    · omega)
theorem ordK_len {s : Nat → Nat → Nat} {fl : List (Nat × List Nat)} {i : Nat} (hi : i ≤ fl.length) : (ordK s fl i).length ≤ fl.length :=
  nd_len _ _ (ordK_nd i hi) (fun y hy => ((ordK_mem i hi).mp hy).1)
section ref
variable {S : gS} {d : gD} {m : Nat} {s : Nat → Nat → Nat}
def PO (m : Nat) (a _j : Nat) : Prop := a = m + 29
theorem ri_PO {e : gD} (h : RI S d m s) (g : Ch (PO m) d e) : RI S e m s := ri_ch h g (fun a j p => by unfold PO at p; omega)
theorem fr_ch {P : Nat → Nat → Prop} {e : gD} {fl : List (Nat × List Nat)} (hf : FR d m fl) (g : Ch P d e) (n : ∀ a j, P a j → ¬ (a = m ∧ j = 31) ∧ a ≠ m + 25 ∧ a ≠ m + 26 ∧ a ≠ m + 27) : FR e m fl :=
  ⟨(g.2 _ _ (fun p => (n _ _ p).1 ⟨rfl, rfl⟩)).trans hf.1, fun i hi => ⟨(g.2 _ _ (fun p => (n _ _ p).2.1 rfl)).trans (hf.2 i hi).1, (g.2 _ _ (fun p => (n _ _ p).2.2.2 rfl)).trans (hf.2 i hi).2.1, row_ch (hf.2 i hi).2.2 g (fun _ _ p => (n _ _ p).2.2.1 rfl)⟩⟩
theorem fr_PO {e : gD} {fl : List (Nat × List Nat)} (hf : FR d m fl) (g : Ch (PO m) d e) : FR e m fl := fr_ch hf g (fun a j p => by unfold PO at p; omega)
theorem r_or_198 (h : RI S d m s) (b : BI s) {fl : List (Nat × List Nat)} (hf : FR d m fl) (hg : GF s fl) {i : Nat} (hi : i < fl.length) {v2 : Int32} {kx : gD → Int32 → Int32 → Int32 → Option (Unit × gD)} {z : gD → Int32 → Int32 → Int32 → Int32 → Option (Unit × gD)} : itr (f_R_describe_B198 S m kx) z fu d v2 (nI i) 1 0 = kx d v2 (nI i) (b2 (isF s fl i)) := by
  have hl := GF_len hg
  refine itr_0 (B := f_R_describe_B198 S m kx) (fun k K => K d v2 (nI i) (b2 (!anyb (fun j => sgF s fl i j) k)) (nI k)) _ i (by omega) ?_ ?_
  · intro k hk K hK
    have o := hf.2 k (by omega)
    have oi := hf.2 i (by omega)
    have g1 := (hg.2.1 k (by omega)).1
    have g2 := (hg.2.1 i (by omega)).1
    simp (maxSteps := 1000000) (disch := omega) only [f_R_describe_B198, f_R_describe_J227, kd_t h.rs.1, rs_P32 h.rs, kd_t (rs_K32 h.rs), rs_N32 h.rs, l0_e, l0_le, l0_ge, l0_lt, l0_gt, l1_m, l1_a, l1_b, l1_s, l1_e, l1_le, l1_ge, l1_lt, l1_gt, lt_t, nn_t, bd_t, bdD_t, bdP_t, nI_clamp, gi_n, nI_add, nI_1, pk_mul, b2_eq0, b2_01, nb_t, if_true, if_false, ni_le, ni_eq, ni_lt, o.1, oi.1, r_sameSignature h b]
    rw [if_neg (by omega)]
    rw [anyb_s] at hK
    unfold sgF at hK
    cases q : sg s (fl.getD i df).1 (fl.getD k df).1 with
    | false => rw [q, Bool.or_false] at hK; rw [if_pos rfl]; exact hK
    | true => rw [q, Bool.or_true] at hK; rw [if_neg (by decide)]; exact hK
  · intro K
    simp (maxSteps := 1000000) (disch := omega) only [f_R_describe_B198, kd_t h.rs.1, rs_P32 h.rs, kd_t (rs_K32 h.rs), rs_N32 h.rs, l0_e, l0_le, l0_ge, l0_lt, l0_gt, lt_t, nn_t, bd_t, bdD_t, bdP_t, nI_clamp, gi_n, nI_add, nI_1, pk_mul, b2_eq0, b2_01, nb_t, if_true, if_false, ni_le, ni_eq, ni_lt]
    rw [if_pos (by omega)]
    rfl
theorem r_or_241 (h : RI S d m s) (b : BI s) {fl : List (Nat × List Nat)} (hf : FR d m fl) (hg : GF s fl) {i : Nat} (hi : i < fl.length) (hF : isF s fl i = true) (hr : Row d (m + 29) 0 (ordK s fl i)) (Q : Option (Unit × gD) → Prop) {kx : gD → Int32 → Int32 → Option (Unit × gD)} {z : gD → Int32 → Int32 → Int32 → Option (Unit × gD)} (hk : ∀ e, Ch (PO m) d e → Row e (m + 29) 0 (grpJ s fl i (ordK s fl i) (fl.length - i)) → Q (kx e (nI (grpJ s fl i (ordK s fl i) (fl.length - i)).length) (nI i))) : Q (itr (f_R_describe_B241 S m kx) z fu d (nI (ordK s fl i).length) (nI i) (nI i)) := by
  have hl := GF_len hg
  refine itr_q (B := f_R_describe_B241 S m kx) (fun (y : gD × Nat) K => K y.1 (nI (grpJ s fl i (ordK s fl i) y.2).length) (nI i) (nI (i + y.2))) Q (fun k y => y.2 = k ∧ Ch (PO m) d y.1 ∧ Row y.1 (m + 29) 0 (grpJ s fl i (ordK s fl i) k)) (fl.length - i) (by omega) ?_ ?_ (x := (d, 0)) ⟨rfl, ch_r, hr⟩
  · rintro k hkk ⟨e, k'⟩ ⟨rfl, hc, hr2⟩ K hK
    simp only at hkk hc hr2 hK ⊢
    have he := ri_PO h hc
    have hfe := fr_PO hf hc
    have o := hfe.2 (i + k') (by omega)
    have oi := hfe.2 i (by omega)
    have g1 := (hg.2.1 (i + k') (by omega)).1
    have g2 := (hg.2.1 i (by omega)).1
    have hgl := grpJ_len hi hF (show k' ≤ fl.length - i by omega)
    simp (maxSteps := 1000000) (disch := omega) only [f_R_describe_B241, f_R_describe_J281, kd_t he.rs.1, rs_P32 he.rs, kd_t (rs_K32 he.rs), rs_N32 he.rs, rs_P36 he.rs, kd_t (rs_K36 he.rs), rs_N36 he.rs, l0_e, l0_le, l0_ge, l0_lt, l0_gt, l1_m, l1_a, l1_b, l1_s, l1_e, l1_le, l1_ge, l1_lt, l1_gt, lt_t, nn_t, bd_t, bdD_t, bdP_t, nI_clamp, gi_n, nI_add, nI_1, pk_mul, b2_eq0, b2_01, nb_t, if_true, if_false, ni_le, ni_eq, ni_lt, hfe.1, o.1, oi.1, r_sameSignature he b]
    rw [if_neg (by omega)]
    have hst : grpJ s fl i (ordK s fl i) (k' + 1) = if sgF s fl i (i + k') then grpJ s fl i (ordK s fl i) k' ++ [i + k'] else grpJ s fl i (ordK s fl i) k' := rfl
    have fin := fun e' h1 h2 => hK (e', k' + 1) ⟨rfl, h1, h2⟩
    simp only at fin
    rw [hst] at fin
    unfold sgF at fin
    cases q : sg s (fl.getD i df).1 (fl.getD (i + k') df).1 with
    | false =>
      rw [q, if_neg (by decide)] at fin
      rw [if_pos rfl]
      exact fin e hc hr2
    | true =>
      rw [q, if_pos rfl, List.length_append, List.length_singleton] at fin
      rw [if_neg (by decide)]
      exact fin _ (ch_s hc rfl) (row_w0 hr2 (by omega) rfl)
  · rintro ⟨e, k'⟩ ⟨rfl, hc, hr2⟩ K
    simp only at hc hr2 ⊢
    have he := ri_PO h hc
    have hfe := fr_PO hf hc
    simp (maxSteps := 1000000) (disch := omega) only [f_R_describe_B241, kd_t he.rs.1, rs_P32 he.rs, kd_t (rs_K32 he.rs), rs_N32 he.rs, rs_P36 he.rs, kd_t (rs_K36 he.rs), rs_N36 he.rs, l0_e, l0_le, l0_ge, l0_lt, l0_gt, l1_m, l1_a, l1_b, l1_s, l1_e, l1_le, l1_ge, l1_lt, l1_gt, lt_t, nn_t, bd_t, bdD_t, bdP_t, nI_clamp, gi_n, nI_add, nI_1, pk_mul, b2_eq0, b2_01, nb_t, if_true, if_false, ni_le, ni_eq, ni_lt, hfe.1]
    rw [if_pos (by omega)]
    exact hk e hc hr2
theorem r_or_184 (h : RI S d m s) (b : BI s) {fl : List (Nat × List Nat)} (hf : FR d m fl) (hg : GF s fl) : ∃ e, f_R_describe_J180 S m d = some ((), e) ∧ Ch (PO m) d e ∧ Row e (m + 29) 0 (ord s fl) := by
  have hl := GF_len hg
  unfold f_R_describe_J180
  refine itr_q (B := f_R_describe_B184 S m) (fun (y : gD × Nat) K => K y.1 (nI (ordK s fl y.2).length) (nI y.2)) (fun t => ∃ e, t = some ((), e) ∧ Ch (PO m) d e ∧ Row e (m + 29) 0 (ord s fl)) (fun k y => y.2 = k ∧ Ch (PO m) d y.1 ∧ Row y.1 (m + 29) 0 (ordK s fl k)) fl.length (by omega) ?_ ?_ (x := (d, 0)) ⟨rfl, ch_r, row_n⟩
  · rintro k hkk ⟨e, k'⟩ ⟨rfl, hc, hr2⟩ K hK
    simp only at hkk hc hr2 hK ⊢
    have he := ri_PO h hc
    have hfe := fr_PO hf hc
    simp (maxSteps := 1000000) (disch := omega) only [f_R_describe_B184, kd_t he.rs.1, l0_e, l0_le, l0_ge, l0_lt, l0_gt, l1_m, l1_a, l1_b, l1_s, l1_e, l1_le, l1_ge, l1_lt, l1_gt, lt_t, nn_t, bd_t, bdD_t, bdP_t, nI_clamp, gi_n, nI_add, nI_1, pk_mul, b2_eq0, b2_01, nb_t, if_true, if_false, ni_le, ni_eq, ni_lt, hfe.1, r_or_198 he b hfe hg hkk]
    rw [if_neg (by omega)]
    simp (maxSteps := 1000000) (disch := omega) only [f_R_describe_J233, f_R_describe_J287, l0_e, l0_le, l0_ge, l0_lt, l0_gt, l1_m, l1_a, l1_b, l1_s, l1_e, l1_le, l1_ge, l1_lt, l1_gt, lt_t, nn_t, bd_t, bdD_t, bdP_t, nI_clamp, gi_n, nI_add, nI_1, pk_mul, b2_eq0, b2_01, nb_t, if_true, if_false, ni_le, ni_eq, ni_lt]
    have hst : ordK s fl (k' + 1) = if isF s fl k' then grpJ s fl k' (ordK s fl k') (fl.length - k') else ordK s fl k' := rfl
    have fin := fun e' h1 h2 => hK (e', k' + 1) ⟨rfl, h1, h2⟩
    simp only at fin
    rw [hst] at fin
    cases q : isF s fl k' with
    | false =>
      rw [q, if_neg (by decide)] at fin
      rw [if_pos rfl]
      exact fin e hc hr2
    | true =>
      rw [q, if_pos rfl] at fin
      rw [if_neg (by decide)]
      refine r_or_241 he b hfe hg hkk q hr2 (fun t => ∃ e, t = some ((), e) ∧ Ch (PO m) d e ∧ Row e (m + 29) 0 (ord s fl)) ?_
      intro e2 c2 r2
      simp only [f_R_describe_J287, nI_1]
      exact fin e2 (ch_t hc c2) r2
  · rintro ⟨e, k'⟩ ⟨rfl, hc, hr2⟩ K
    simp only at hc hr2 ⊢
    have he := ri_PO h hc
    have hfe := fr_PO hf hc
    simp (maxSteps := 1000000) (disch := omega) only [f_R_describe_B184, kd_t he.rs.1, l0_e, l0_le, l0_ge, l0_lt, l0_gt, l1_m, l1_a, l1_b, l1_s, l1_e, l1_le, l1_ge, l1_lt, l1_gt, lt_t, nn_t, bd_t, bdD_t, bdP_t, nI_clamp, gi_n, nI_add, nI_1, pk_mul, b2_eq0, b2_01, nb_t, if_true, if_false, ni_le, ni_eq, ni_lt, hfe.1]
    rw [if_pos (by omega)]
    exact ⟨e, rfl, hc, hr2⟩
def DS (d : gD) (m : Nat) (s : Nat → Nat → Nat) (x : Int32) : Prop := FR d m (dsc s x) ∧ Row d (m + 29) 0 (ord s (dsc s x))
theorem r_describe (h : RI S d m s) (b : BI s) {x : Int32} (ho : okL s x) : ∃ e, f_R_describe S d m x = some ((), e) ∧ Ch (PD m) d e ∧ DS e m s x := by
  obtain ⟨e1, q1, c1, l1⟩ := r_listMethods h b
  have cc1 : Ch (PD m) d (wI e1 m 31 0) := ch_s (ch_m c1 (fun a j p => by unfold PL at p; unfold PD; omega)) (.inl ⟨rfl, rfl⟩)
  have i1 := ri_PD h cc1
  simp (maxSteps := 1000000) (disch := omega) only [f_R_describe, kd_t h.rs.1, l0_e, l0_le, l0_ge, l0_lt, l0_gt, l72_m, l72_a, l72_b, l72_s, l72_e, l72_le, l72_ge, l72_lt, l72_gt, lt_t, nn_t, bd_t, bdD_t, bdP_t, nI_clamp, gi_n, nI_add, nI_1, pk_mul, b2_eq0, b2_01, nb_t, if_true, if_false, ni_le, ni_eq, ni_lt, q1]
  refine r_ds_12 i1 b fr_0 (fun t => ∃ e, t = some ((), e) ∧ Ch (PD m) d e ∧ DS e m s x) ?_
  intro e2 c2 f2
  have i2 := ri_PF i1 c2
  have l2 : LT e2 m s (s 5 0) := lt_PF (lt_PF l1 (ch_w (.inl ⟨rfl, rfl⟩))) c2
  simp only [f_R_describe_J29]
  refine r_ds_31 i2 b ho f2 l2 (fun t => ∃ e, t = some ((), e) ∧ Ch (PD m) d e ∧ DS e m s x) ?_
  intro e3 c3 f3
  have i3 := ri_PF i2 c3
  obtain ⟨e4, q4, c4, r4⟩ := r_or_184 i3 b f3 (GF_dscK b ho _ (Nat.le_refl _))
  refine ⟨e4, q4, ch_t cc1 (ch_t (ch_m c2 pf_pd) (ch_t (ch_m c3 pf_pd) (ch_m c4 (fun a j p => by unfold PO at p; unfold PD; omega)))), fr_PO f3 c4, r4⟩
end ref
