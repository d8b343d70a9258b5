def okT (l : List (Nat × Nat × Nat)) : Prop := ∀ k, k ∈ l → vt k ∧ (k.1 = 0 → k.2.1 < 256)
theorem okT_n : okT [] := fun k hk => absurd hk List.not_mem_nil
theorem okT_a {l r : List (Nat × Nat × Nat)} (h : okT l) (g : okT r) : okT (l ++ r) := fun k hk => by
  rcases List.mem_append.mp hk with q | q
  · exact h k q
  · exact g k q
theorem okT_0 {v : Nat} (h : v < 256) : okT [(0, v, 0)] := fun k hk => by
  rw [List.mem_singleton.mp hk]; exact ⟨.inl rfl, fun _ => h⟩
theorem okT_e {k : Nat × Nat × Nat} (h : ve k) : okT [k] := fun j hj => by
  rw [List.mem_singleton.mp hj]
  exact ⟨.inr h, fun e => by unfold ve at h; omega⟩
theorem okT_c {k : Nat × Nat × Nat} {l : List (Nat × Nat × Nat)} (h : okT [k]) (g : okT l) : okT (k :: l) := okT_a (l := [k]) h g
theorem okT_rw {B : List Nat} (h : ∀ t, t ∈ B → t < 47) : ∀ k, k ≤ B.length → okT (rwT B k) := by
  intro k
  induction k with
  | zero => intro _; exact okT_n
  | succ k ih => intro hk; exact okT_a (ih (by omega)) (okT_e (.inl ⟨rfl, h _ (getD_mem hk), rfl⟩))
theorem okT_ls {v : Int32} (h : ∀ k, k < ln v → ub v k < 47) : ∀ k, k ≤ ln v → okT (lsT v k) := by
  intro k
  induction k with
  | zero => intro _; exact okT_n
  | succ k ih => intro hk; exact okT_a (ih (by omega)) (okT_e (.inl ⟨rfl, h k (by omega), rfl⟩))
theorem okT_cd {s : Nat → Nat → Nat} (b : BI s) {y : Nat} (hy : vx s y) (c : List Nat) : okT (cdT s y c) := by
  have ht := tc_le s y
  have hr := b.resT y
  have hprm1 : ∀ k, k < 3 → okT (prm1 s y k) := by
    intro k hk
    have hp := plc_le s y k
    have hT := b.takeT y k hy hk
    unfold prm1
    refine okT_a (okT_c (okT_0 (by omega)) (okT_c (okT_0 (by omega)) (okT_c (okT_0 (by omega)) (okT_c (okT_0 (by omega)) (okT_0 (by omega)))))) (okT_a ?_ (okT_0 (by omega)))
    split
    · exact okT_c (okT_0 (by omega)) (okT_0 (by omega))
    · exact okT_n
  have hprm : ∀ k, k ≤ 3 → okT (prm s y k) := by
    intro k
    induction k with
    | zero => intro _; exact okT_n
    | succ k ih => intro hk; exact okT_a (ih (by omega)) (hprm1 k (by omega))
  unfold cdT cod hdT
  refine okT_a (okT_a (okT_a (okT_c (okT_0 (by omega)) (okT_c (okT_0 (by omega)) (okT_c (okT_0 (by omega)) (okT_e (ve_ow b hy))))) ?_) (okT_a (hprm _ ht) (okT_a (okT_0 (by omega)) ?_))) ?_
  · split
    · exact okT_0 (by omega)
    · exact okT_c (okT_0 (by omega)) (okT_0 (by omega))
  · unfold rsT
    split
    · exact okT_c (okT_0 (by omega)) (okT_0 (by omega))
    · refine okT_a (okT_c (okT_0 (by omega)) (okT_e (.inl ⟨rfl, ?_, rfl⟩))) (okT_a ?_ (okT_0 (by omega)))
      · cases hp : pln (s 14 y) with
        | true =>
          show (if true = true then 40 + s 14 y else s 14 y) < 47
          rw [if_pos rfl]
          unfold pln at hp
          simp at hp
          omega
        | false =>
          show (if false = true then 40 + s 14 y else s 14 y) < 47
          rw [if_neg (by decide)]; exact hr
      · split
        · exact okT_c (okT_0 (by omega)) (okT_0 (by omega))
        · exact okT_n
  · split
    · exact okT_n
    · exact okT_c (okT_0 (by omega)) (okT_0 (by omega))
theorem okT_m {s : Nat → Nat → Nat} (b : BI s) {y : Nat} (hy : vx s y) {B c : List Nat} (hB : cl B) (hc : cl c) : okT (mT s y B c) := by
  have ht := tc_le s y
  have hr := b.resT y
  have hn := b.nameT y
  have lB := cl_len hB
  have lc := cl_len hc
  have ld := cdT_len s y c
  have htk : ∀ k, k ≤ 3 → okT (tkT s y k) := by
    intro k
    induction k with
    | zero => intro _; exact okT_n
    | succ k ih => intro hk; exact okT_a (ih (by omega)) (okT_e (.inl ⟨rfl, b.takeT y k hy (by omega), rfl⟩))
  unfold mT
  exact okT_a (okT_c (okT_e (.inr (.inr ⟨rfl, hn, rfl⟩))) (okT_0 (by omega))) (okT_a (htk _ ht) (okT_a (okT_c (okT_e (.inl ⟨rfl, hr, rfl⟩)) (okT_0 (by omega))) (okT_a (okT_rw (fun t h => by have := hB.2 t h; omega) _ (Nat.le_refl _)) (okT_a (okT_0 (by omega)) (okT_a (okT_cd b hy c) (okT_a (okT_0 (by omega)) (okT_rw (fun t h => by have := hc.2 t h; omega) _ (Nat.le_refl _))))))))
theorem run_256 : ∀ (l : List (Nat × Nat × Nat)) (w : List (Nat × Nat × Nat) × List Nat), okT l → GP w.1 → (∀ v, v ∈ w.2 → v < 256) → ∀ v, v ∈ (run w l).2 → v < 256 := by
  intro l
  induction l with
  | nil => intro w _ _ h; exact h
  | cons k l ih =>
    intro w ho g h
    have hk := ho k List.mem_cons_self
    have hp := GP_len g
    rw [run_cons]
    refine ih (run1 w k) (fun j hj => ho j (List.mem_cons_of_mem _ hj)) (GP_run1 g hk.1) ?_
    intro v hv
    unfold run1 at hv
    by_cases q : k.1 = 0
    · rw [if_pos q] at hv
      rcases List.mem_append.mp hv with c | c
      · exact h v c
      · rw [List.mem_singleton.mp c]; exact hk.2 q
    · rw [if_neg q] at hv
      rcases List.mem_append.mp hv with c | c
      · exact h v c
      · have : eIx w.1 k ≤ w.1.length := fst_le _ _
        rw [List.mem_singleton.mp c]; omega
theorem fB_256 {p : List (Nat × Nat × Nat)} (h : ∀ k, k ∈ p → ve k) : ∀ v, v ∈ fB p → v < 256 := by
  induction p with
  | nil => intro v hv; exact absurd hv List.not_mem_nil
  | cons k p ih =>
    intro v hv
    have hk := h k List.mem_cons_self
    rcases List.mem_append.mp (show v ∈ eB k ++ fB p from hv) with c | c
    · unfold eB at c
      unfold ve at hk
      split at c
      · simp only [List.mem_cons, List.not_mem_nil, or_false] at c; omega
      · simp only [List.mem_cons, List.not_mem_nil, or_false] at c; omega
    · exact ih (fun j hj => h j (List.mem_cons_of_mem _ hj)) v c
noncomputable def MT (s : Nat → Nat → Nat) (D : List (Nat × List Nat)) : Nat → List (Nat × Nat × Nat)
  | 0 => []
  | k + 1 => MT s D k ++ mT s (D.getD k df).1 (D.getD k df).2 (ct s (D.getD k df).2)
theorem MT_perm {s : Nat → Nat → Nat} {fl : List (Nat × List Nat)} : ∀ k, k ≤ fl.length → MT s (perm s fl) k = msT s fl (ord s fl) k := by
  intro k
  induction k with
  | zero => intro _; rfl
  | succ k ih =>
    intro hk
    unfold MT msT mTF
    rw [ih (by omega), perm_at (by omega)]
noncomputable def wT (s : Nat → Nat → Nat) (D : List (Nat × List Nat)) (pk nu : Nat) (v : Int32) : List (Nat × Nat × Nat) := [(0, pk, 0)] ++ ([(0, nu, 0)] ++ (([(0, ln v, 0)] ++ lsT v (ln v)) ++ ([(0, D.length, 0)] ++ MT s D D.length)))
section cls
variable {S : gS} {d : gD} {x : Nat} {s : Nat → Nat → Nat} {A : Nat → Nat → Nat}
theorem c_fillI {a n : Nat} (hk : sK S a = 50) (hn : sN S a = n) (h6 : n < 6000) (v : Int32) : ∃ e, f_Ar_fillI S d (some a) v = some ((), e) ∧ Ch (fun b _ => b = a) d e ∧ ∀ i, i < n → dI e a i = v := by
  simp only [f_Ar_fillI, nn_t, kd_t hk, hn]
  rw [show Int32.ofNat n = nI n from rfl]
  refine itr_q (B := f_Ar_fillI_B5 S) (fun (y : gD × Nat) K => K y.1 (some a) v (nI y.2) (nI n)) (fun t => ∃ e, t = some ((), e) ∧ Ch (fun b _ => b = a) d e ∧ ∀ i, i < n → dI e a i = v) (fun k y => y.2 = k ∧ Ch (fun b _ => b = a) d y.1 ∧ ∀ i, i < k → dI y.1 a i = v) n h6 ?_ ?_ (x := (d, 0)) ⟨rfl, ch_r, fun i hi => absurd hi (Nat.not_lt_zero _)⟩
  · rintro k hkk ⟨e, k'⟩ ⟨rfl, hc, hv⟩ K hK
    simp only at hkk hc hv hK ⊢
    simp (maxSteps := 1000000) (disch := omega) only [f_Ar_fillI_B5, l1_m, l1_a, l1_b, l1_s, l1_e, l1_le, l1_ge, l1_lt, l1_gt, lt_t, nn_t, bd_t, bdD_t, bdP_t, nI_clamp, gi_n, nI_add, nI_1, pk_mul, b2_eq0, b2_01, nb_t, if_true, if_false, ni_le, ni_eq, ni_lt, kd_t hk, hn]
    rw [if_neg (by omega)]
    refine hK (wI e a k' v, k' + 1) ⟨rfl, ch_s hc rfl, fun i hi => ?_⟩
    rw [dI_wI]
    by_cases c : i = k'
    · rw [if_pos ⟨rfl, c⟩]
    · rw [if_neg (fun q => c q.2)]; exact hv i (by omega)
  · rintro ⟨e, k'⟩ ⟨rfl, hc, hv⟩ K
    simp only at hc hv ⊢
    simp (maxSteps := 1000000) (disch := omega) only [f_Ar_fillI_B5, l1_m, l1_a, l1_b, l1_s, l1_e, l1_le, l1_ge, l1_lt, l1_gt, lt_t, nn_t, bd_t, bdD_t, bdP_t, nI_clamp, gi_n, nI_add, nI_1, pk_mul, b2_eq0, b2_01, nb_t, if_true, if_false, ni_le, ni_eq, ni_lt]
    rw [if_pos (Nat.le_refl _)]
    exact ⟨e, rfl, hc, hv⟩
def WI (S : gS) (d : gD) (x : Nat) (s : Nat → Nat → Nat) (A : Nat → Nat → Nat) (a : Nat) (D : List (Nat × List Nat)) (pk : Nat) (nm : Nat) (v : Int32) : Prop := (sK S a = 6) ∧ (x + 64 < a) ∧ (∃ r, sP S a 4 = some r ∧ sK S r = 63 ∧ sN S r = D.length ∧ ∀ i, i < D.length → ∃ u, sP S r i = some u ∧ SMs S u ∧ x + 64 < u ∧ sP S u 0 = some (A 1 (D.getD i df).1) ∧ RWd d (u + 1) (D.getD i df).2 ∧ RWd d (u + 3) (ct s (D.getD i df).2)) ∧ (dI d a 1 = v) ∧ (dI d a 2 = nI pk) ∧ (dI d a 3 = nI nm) ∧ (∀ i, i < D.length → OM S d x s (A 1 (D.getD i df).1) (D.getD i df).1)
theorem WI.k {S : gS} {d : gD} {x : Nat} {s : Nat → Nat → Nat} {A : Nat → Nat → Nat} {a : Nat} {D : List (Nat × List Nat)} {pk : Nat} {nm : Nat} {v : Int32} (h : WI S d x s A a D pk nm v) : sK S a = 6 := h.1
theorem WI.lo {S : gS} {d : gD} {x : Nat} {s : Nat → Nat → Nat} {A : Nat → Nat → Nat} {a : Nat} {D : List (Nat × List Nat)} {pk : Nat} {nm : Nat} {v : Int32} (h : WI S d x s A a D pk nm v) : x + 64 < a := h.2.1
theorem WI.p4 {S : gS} {d : gD} {x : Nat} {s : Nat → Nat → Nat} {A : Nat → Nat → Nat} {a : Nat} {D : List (Nat × List Nat)} {pk : Nat} {nm : Nat} {v : Int32} (h : WI S d x s A a D pk nm v) : ∃ r, sP S a 4 = some r ∧ sK S r = 63 ∧ sN S r = D.length ∧ ∀ i, i < D.length → ∃ u, sP S r i = some u ∧ SMs S u ∧ x + 64 < u ∧ sP S u 0 = some (A 1 (D.getD i df).1) ∧ RWd d (u + 1) (D.getD i df).2 ∧ RWd d (u + 3) (ct s (D.getD i df).2) := h.2.2.1
theorem WI.g1 {S : gS} {d : gD} {x : Nat} {s : Nat → Nat → Nat} {A : Nat → Nat → Nat} {a : Nat} {D : List (Nat × List Nat)} {pk : Nat} {nm : Nat} {v : Int32} (h : WI S d x s A a D pk nm v) : dI d a 1 = v := h.2.2.2.1
theorem WI.g2 {S : gS} {d : gD} {x : Nat} {s : Nat → Nat → Nat} {A : Nat → Nat → Nat} {a : Nat} {D : List (Nat × List Nat)} {pk : Nat} {nm : Nat} {v : Int32} (h : WI S d x s A a D pk nm v) : dI d a 2 = nI pk := h.2.2.2.2.1
theorem WI.g3 {S : gS} {d : gD} {x : Nat} {s : Nat → Nat → Nat} {A : Nat → Nat → Nat} {a : Nat} {D : List (Nat × List Nat)} {pk : Nat} {nm : Nat} {v : Int32} (h : WI S d x s A a D pk nm v) : dI d a 3 = nI nm := h.2.2.2.2.2.1
theorem WI.om {S : gS} {d : gD} {x : Nat} {s : Nat → Nat → Nat} {A : Nat → Nat → Nat} {a : Nat} {D : List (Nat × List Nat)} {pk : Nat} {nm : Nat} {v : Int32} (h : WI S d x s A a D pk nm v) : ∀ i, i < D.length → OM S d x s (A 1 (D.getD i df).1) (D.getD i df).1 := h.2.2.2.2.2.2
theorem om_ch {P : Nat → Nat → Prop} {e : gD} {w i : Nat} (o : OM S d x s w i) (g : Ch P d e) (n : ∀ j, ¬ P w j ∧ ¬ P (w + 1) j ∧ ¬ P (w + 2) j) : OM S e x s w i := om_fm (fm_ch g) o n
theorem wi_c {a pk nm : Nat} {D : List (Nat × List Nat)} {v : Int32} : cI x (fun e => WI S e x s A a D pk nm v) := by
  intro d e w c
  have lo := w.lo
  obtain ⟨r, r1, r2, r3, r4⟩ := w.p4
  have np : ∀ b j, x + 64 < b → ¬ PUw x b j := fun b j hb => by unfold PUw; omega
  refine ⟨w.k, lo, ⟨r, r1, r2, r3, fun i hi => ?_⟩, (c.2 _ _ (np _ _ lo)).trans w.g1, (c.2 _ _ (np _ _ lo)).trans w.g2, (c.2 _ _ (np _ _ lo)).trans w.g3, fun i hi => ?_⟩
  · obtain ⟨u, u1, u2, u3, u4, u5, u6⟩ := r4 i hi
    exact ⟨u, u1, u2, u3, u4, rwd_ch u5 c (np _ _ (by omega)) (fun j _ => np _ _ (by omega)), rwd_ch u6 c (np _ _ (by omega)) (fun j _ => np _ _ (by omega))⟩
  · have o := w.om i hi
    have ol := o.lo
    exact om_ch o c (fun j => ⟨by unfold PUw; omega, by unfold PUw; omega, by unfold PUw; omega⟩)
theorem c_write (h : CS S x) (hx : x + 64 < sZ S) (b : BI s) {a pk nm : Nat} {D : List (Nat × List Nat)} {v : Int32} (W : WI S d x s A a D pk nm v) (hD : D.length ≤ 40) (hv : ∀ i, i < D.length → vx s (D.getD i df).1 ∧ cl (D.getD i df).2) (hl : ∀ k, k < ln v → ub v k < 47) (hpk : pk < 256) (hnm : nm < 256) (hT : (wT s D pk nm v).length ≤ 3200) : ∃ d' m, f_Uw_write S d (x + 13) (some a) = some ((some (sZ S), nS S 52 (uBy (run ([], []) (wT s D pk nm v))).length, d'), 1, m) ∧ m ≤ 4000 ∧ Fm (PUw x) S d (nS S 52 (uBy (run ([], []) (wT s D pk nm v))).length) d' ∧ BRow d' (sZ S) (uBy (run ([], []) (wT s D pk nm v))) := by
  have hI : cI x (fun e => WI S e x s A a D pk nm v) := wi_c
  have lo := W.lo
  obtain ⟨e0, f0, c0, v0⟩ := c_fillI (S := S) (d := d) (a := x + 14) (n := 292) (cs_K14 h) (cs_N14 h) (by omega) (-1)
  have hMT : ∀ k, k ≤ D.length → okT (MT s D k) := by
    intro k
    induction k with
    | zero => intro _; exact okT_n
    | succ k ih => intro hk; exact okT_a (ih (by omega)) (okT_m b (hv k (by omega)).1 (hv k (by omega)).2 (cl_ct (hv k (by omega)).2))
  have hok : okT (wT s D pk nm v) := by
    have := ln_le v
    unfold wT
    exact okT_a (okT_0 hpk) (okT_a (okT_0 hnm) (okT_a (okT_a (okT_0 (by omega)) (okT_ls hl _ (Nat.le_refl _))) (okT_a (okT_0 (by omega)) (hMT _ (Nat.le_refl _)))))
  have g0 : GP ([] : List (Nat × Nat × Nat)) := ⟨fun k hk => absurd hk List.not_mem_nil, trivial⟩
  have gT : GP (run ([], []) (wT s D pk nm v)).1 := GP_run (fun k hk => (hok k hk).1) g0
  have b256 := run_256 _ ([], []) hok g0 (fun v hv => absurd hv List.not_mem_nil)
  -- the state after the resets
  have c1 : Ch (PUw x) d (wI (wI (wI e0 (x + 13) 1 0) (x + 13) 3 0) (x + 13) 5 0) := ch_s (ch_s (ch_s (ch_m c0 (fun a j p => .inr (.inl p))) (.inl ⟨rfl, .inl rfl⟩)) (.inl ⟨rfl, .inr (.inl rfl)⟩)) (.inl ⟨rfl, .inr (.inr rfl)⟩)
  have u1 : UWR (wI (wI (wI e0 (x + 13) 1 0) (x + 13) 3 0) (x + 13) 5 0) x ([], []) := by
    refine ⟨?_, ?_, ?_, fun k hk => ?_, brow_n, brow_n⟩
    · rw [dI_wI, if_neg (by omega), dI_wI, if_neg (by omega), dI_wI, if_pos ⟨rfl, rfl⟩]; rfl
    · rw [dI_wI, if_neg (by omega), dI_wI, if_pos ⟨rfl, rfl⟩]; rfl
    · rw [dI_wI, if_pos ⟨rfl, rfl⟩]; rfl
    · rw [dI_wI, if_neg (by omega), dI_wI, if_neg (by omega), dI_wI, if_neg (by omega), v0 _ (ek_lt hk)]; rfl
  have W1 := hI _ _ W c1
  generalize hd1 : wI (wI (wI e0 (x + 13) 1 0) (x + 13) 3 0) (x + 13) 5 0 = d1 at c1 u1 W1
  obtain ⟨r, r1, r2, r3, -⟩ := W.p4
  have hT' : ∀ k, k ≤ D.length → (MT s D k).length ≤ (MT s D D.length).length := by
    have : ∀ j k, k + j = D.length → (MT s D k).length ≤ (MT s D D.length).length := by
      intro j
      induction j with
      | zero => intro k hk; rw [show k = D.length by omega]; exact Nat.le_refl _
      | succ j ih =>
        intro k hk
        have h1 := ih (k + 1) (by omega)
        have : (MT s D (k + 1)).length = (MT s D k).length + (mT s (D.getD k df).1 (D.getD k df).2 (ct s (D.getD k df).2)).length := by show (MT s D k ++ _).length = _; rw [List.length_append]
        omega
    intro k hk
    exact this (D.length - k) k (by omega)
  -- the head
  have head : Em x (fun e => WI S e x s A a D pk nm v) (fun e => bdD (f_Uw_put S e (x + 13) (nI pk)) fun _ e => bdD (f_Uw_put S e (x + 13) (nI nm)) fun _ e => bdD (f_Uw_putTypes S e (x + 13) v) fun _ e => f_Uw_put S e (x + 13) (nI D.length)) ([(0, pk, 0)] ++ ([(0, nm, 0)] ++ (([(0, ln v, 0)] ++ lsT v (ln v)) ++ [(0, D.length, 0)]))) := em_bd hI (em_put h rfl) (em_bd hI (em_put h rfl) (em_bd hI (em_types hI h hl) (em_put h rfl)))
  have hTl : (wT s D pk nm v).length = ([(0, pk, 0)] ++ ([(0, nm, 0)] ++ (([(0, ln v, 0)] ++ lsT v (ln v)) ++ [(0, D.length, 0)]))).length + (MT s D D.length).length := by
    unfold wT
    simp only [List.length_append, List.length_singleton]
    omega
  have hTe : wT s D pk nm v = ([(0, pk, 0)] ++ ([(0, nm, 0)] ++ (([(0, ln v, 0)] ++ lsT v (ln v)) ++ [(0, D.length, 0)]))) ++ MT s D D.length := by
    unfold wT
    simp only [List.append_assoc]
  obtain ⟨d2, f2, c2, u2, p2⟩ := head d1 ([], []) W1 u1 g0 (by show 0 + _ ≤ 3200; omega)
  generalize hH : ([(0, pk, 0)] ++ ([(0, nm, 0)] ++ (([(0, ln v, 0)] ++ lsT v (ln v)) ++ [(0, D.length, 0)]))) = H at hTl hTe u2 p2
  have W2 := hI _ _ W1 c2
  have loop : ∀ (z : gS → gD → Option Nat → Int32 → Option ((Option Nat × gS × gD) × Nat × Nat)), ∃ d' m, itr (f_Uw_write_B58 (x + 13) (f_Uw_write_J83 (x + 13))) z fu S d2 (some a) 0 = some ((some (sZ S), nS S 52 (uBy (run ([], []) (wT s D pk nm v))).length, d'), 1, m) ∧ m ≤ 4000 ∧ Fm (PUw x) S d (nS S 52 (uBy (run ([], []) (wT s D pk nm v))).length) d' ∧ BRow d' (sZ S) (uBy (run ([], []) (wT s D pk nm v))) := by
    intro z
    refine itr_q (B := f_Uw_write_B58 (x + 13) (f_Uw_write_J83 (x + 13))) (fun (y : gD × Nat) K => K S y.1 (some a) (nI y.2)) (fun t => ∃ d' m, t = some ((some (sZ S), nS S 52 (uBy (run ([], []) (wT s D pk nm v))).length, d'), 1, m) ∧ m ≤ 4000 ∧ Fm (PUw x) S d (nS S 52 (uBy (run ([], []) (wT s D pk nm v))).length) d' ∧ BRow d' (sZ S) (uBy (run ([], []) (wT s D pk nm v)))) (fun k y => y.2 = k ∧ Ch (PUw x) d y.1 ∧ WI S y.1 x s A a D pk nm v ∧ UWR y.1 x (run (run ([], []) H) (MT s D k)) ∧ GP (run (run ([], []) H) (MT s D k)).1) D.length (by omega) ?_ ?_ (x := (d2, 0)) ⟨rfl, ch_t c1 c2, W2, u2, p2⟩
    · rintro k hk ⟨e, k'⟩ ⟨rfl, hc, we, hu, hp⟩ K hK
      simp only at hk hc we hu hp hK ⊢
      obtain ⟨r, r1, r2, r3, r4⟩ := we.p4
      obtain ⟨u, q1, q2, q3, q4, q5, q6⟩ := r4 k' hk
      have hm := hT' (k' + 1) (by omega)
      have hml : (MT s D (k' + 1)).length = (MT s D k').length + (mT s (D.getD k' df).1 (D.getD k' df).2 (ct s (D.getD k' df).2)).length := by show (MT s D k' ++ _).length = _; rw [List.length_append]
      have hI2 : cI x (fun e => WI S e x s A a D pk nm v ∧ RWd e (u + 1) (D.getD k' df).2 ∧ RWd e (u + 3) (ct s (D.getD k' df).2)) := by
        intro d3 e3 w3 c3
        have np : ∀ b j, x + 64 < b → ¬ PUw x b j := fun b j hb => by unfold PUw; omega
        exact ⟨hI _ _ w3.1 c3, rwd_ch w3.2.1 c3 (np _ _ (by omega)) (fun j _ => np _ _ (by omega)), rwd_ch w3.2.2 c3 (np _ _ (by omega)) (fun j _ => np _ _ (by omega))⟩
      obtain ⟨e2, g2, cc2, uu2, pp2⟩ := em_meth hI2 h b (hv k' hk).1 q2 q4 (hv k' hk).2 (cl_ct (hv k' hk).2) (fun d3 w3 => ⟨w3.1.om k' hk, w3.2.1, w3.2.2⟩) e _ ⟨we, q5, q6⟩ hu hp (by rw [run_len, run_len]; show 0 + H.length + _ + _ ≤ 3200; omega)
      have g2' : f_Uw_putMethod S e (x + 13) (some u) = some ((), e2) := g2
      rw [← run_app] at uu2 pp2
      simp (maxSteps := 1000000) (disch := omega) only [f_Uw_write_B58, kd_t (cs_K0 h), cs_P0_0 h, kd_t (cs_K1 h), cs_P1_0 h, kd_t (cs_K2 h), cs_N2 h, cs_P0_1 h, kd_t (cs_K3 h), cs_N3 h, cs_P0_3 h, kd_t (cs_K4 h), cs_N4 h, cs_P0_5 h, kd_t (cs_K5 h), cs_N5 h, cs_P0_6 h, kd_t (cs_K6 h), cs_N6 h, cs_P0_8 h, kd_t (cs_K7 h), cs_N7 h, cs_P0_9 h, kd_t (cs_K8 h), cs_N8 h, cs_P0_11 h, kd_t (cs_K9 h), cs_P9_0 h, cs_P9_1 h, kd_t (cs_K10 h), cs_N10 h, cs_P9_3 h, kd_t (cs_K11 h), cs_P11_0 h, kd_t (cs_K12 h), cs_N12 h, cs_P0_12 h, kd_t (cs_K13 h), cs_P13_0 h, kd_t (cs_K14 h), cs_N14 h, cs_P13_2 h, kd_t (cs_K15 h), cs_N15 h, cs_P13_4 h, kd_t (cs_K16 h), cs_N16 h, cs_P0_16 h, kd_t (cs_K17 h), cs_N17 h, cs_P0_17 h, kd_t (cs_K18 h), cs_N18 h, cs_P7_0 h, cs_P7_1 h, cs_P7_2 h, l1_m, l1_a, l1_b, l1_s, l1_e, l1_le, l1_ge, l1_lt, l1_gt, lt_t, nn_t, bd_t, bdD_t, bdP_t, nI_clamp, gi_n, nI_add, nI_1, pk_mul, b2_eq0, b2_01, nb_t, if_true, if_false, ni_le, ni_eq, ni_lt, kd_t we.k, r1, kd_t r2, r3, q1, g2', show Int32.ofNat D.length = nI D.length from rfl]
      rw [if_neg (by omega)]
      exact hK (e2, k' + 1) ⟨rfl, ch_t hc cc2, hI _ _ we cc2, uu2, pp2⟩
    · rintro ⟨e, k'⟩ ⟨rfl, hc, we, hu, hp⟩ K
      simp only at hc we hu hp ⊢
      obtain ⟨r, r1, r2, r3, r4⟩ := we.p4
      rw [← run_app, ← hTe] at hu hp
      have hbl : (run ([], []) (wT s D pk nm v)).2.length ≤ 3200 := by rw [run_len]; show 0 + _ ≤ 3200; omega
      obtain ⟨d', fj, mj, bj⟩ := c_joined h hx hu hp hbl (fB_256 hp.1) b256
      have hfl := fB_500 hp
      have hul : (uBy (run ([], []) (wT s D pk nm v))).length ≤ 4000 := by
        unfold uBy
        rw [List.length_append, List.length_append]
        show 3 + (_ + _) ≤ 4000
        omega
      refine ⟨d', (uBy (run ([], []) (wT s D pk nm v))).length, ?_, hul, fm_t (fm_ch hc) (fm_m mj (fun _ _ _ f => f.elim)), bj⟩
      simp (maxSteps := 1000000) (disch := omega) only [f_Uw_write_B58, f_Uw_write_J83, kd_t (cs_K0 h), cs_P0_0 h, kd_t (cs_K1 h), cs_P1_0 h, kd_t (cs_K2 h), cs_N2 h, cs_P0_1 h, kd_t (cs_K3 h), cs_N3 h, cs_P0_3 h, kd_t (cs_K4 h), cs_N4 h, cs_P0_5 h, kd_t (cs_K5 h), cs_N5 h, cs_P0_6 h, kd_t (cs_K6 h), cs_N6 h, cs_P0_8 h, kd_t (cs_K7 h), cs_N7 h, cs_P0_9 h, kd_t (cs_K8 h), cs_N8 h, cs_P0_11 h, kd_t (cs_K9 h), cs_P9_0 h, cs_P9_1 h, kd_t (cs_K10 h), cs_N10 h, cs_P9_3 h, kd_t (cs_K11 h), cs_P11_0 h, kd_t (cs_K12 h), cs_N12 h, cs_P0_12 h, kd_t (cs_K13 h), cs_P13_0 h, kd_t (cs_K14 h), cs_N14 h, cs_P13_2 h, kd_t (cs_K15 h), cs_N15 h, cs_P13_4 h, kd_t (cs_K16 h), cs_N16 h, cs_P0_16 h, kd_t (cs_K17 h), cs_N17 h, cs_P0_17 h, kd_t (cs_K18 h), cs_N18 h, cs_P7_0 h, cs_P7_1 h, cs_P7_2 h, l0_e, l0_le, l0_ge, l0_lt, l0_gt, l1_m, l1_a, l1_b, l1_s, l1_e, l1_le, l1_ge, l1_lt, l1_gt, lt_t, nn_t, bd_t, bdD_t, bdP_t, nI_clamp, gi_n, nI_add, nI_1, pk_mul, b2_eq0, b2_01, nb_t, if_true, if_false, ni_le, ni_eq, ni_lt, kd_t we.k, r1, kd_t r2, r3, show Int32.ofNat D.length = nI D.length from rfl, bdA_t]
      rw [if_pos (Nat.le_refl _), fj, bdA_t, ac_t, Nat.zero_add, Nat.zero_add]
  have gw : ∀ e, WI S e x s A a D pk nm v → dI e a 1 = v ∧ dI e a 2 = nI pk ∧ dI e a 3 = nI nm := fun e w => ⟨w.g1, w.g2, w.g3⟩
  obtain ⟨q1, fp1, cp1, up1, pp1⟩ := em_put (I := fun e => WI S e x s A a D pk nm v) h (v := pk) rfl d1 ([], []) W1 u1 g0 (by show 0 + 1 ≤ 3200; omega)
  have fp1' : f_Uw_put S d1 (x + 13) (nI pk) = some ((), q1) := fp1
  have W3 := hI _ _ W1 cp1
  obtain ⟨q2, fp2, cp2, up2, pp2⟩ := em_put (I := fun e => WI S e x s A a D pk nm v) h (v := nm) rfl q1 _ W3 up1 pp1 (by show 0 + 1 + 1 ≤ 3200; omega)
  have fp2' : f_Uw_put S q1 (x + 13) (nI nm) = some ((), q2) := fp2
  have W4 := hI _ _ W3 cp2
  have hl4 := ln_le v
  obtain ⟨q3, fp3, cp3, up3, pp3⟩ := em_types hI h hl q2 _ W4 up2 pp2 (by rw [run_len, run_len, List.length_append, lsT_len]; show 0 + 1 + 1 + (1 + ln v) ≤ 3200; omega)
  have fp3' : f_Uw_putTypes S q2 (x + 13) v = some ((), q3) := fp3
  have hf2 : f_Uw_put S q3 (x + 13) (nI D.length) = some ((), d2) := by
    have := f2
    simp only [fp1', bdD_t, fp2', fp3'] at this
    exact this
  obtain ⟨d', m, fl, hm, mm, bb⟩ := loop (fun _ _ _ _ => none)
  refine ⟨d', m, ?_, hm, mm, bb⟩
  simp (maxSteps := 1000000) (disch := omega) only [f_Uw_write, kd_t (cs_K0 h), cs_P0_0 h, kd_t (cs_K1 h), cs_P1_0 h, kd_t (cs_K2 h), cs_N2 h, cs_P0_1 h, kd_t (cs_K3 h), cs_N3 h, cs_P0_3 h, kd_t (cs_K4 h), cs_N4 h, cs_P0_5 h, kd_t (cs_K5 h), cs_N5 h, cs_P0_6 h, kd_t (cs_K6 h), cs_N6 h, cs_P0_8 h, kd_t (cs_K7 h), cs_N7 h, cs_P0_9 h, kd_t (cs_K8 h), cs_N8 h, cs_P0_11 h, kd_t (cs_K9 h), cs_P9_0 h, cs_P9_1 h, kd_t (cs_K10 h), cs_N10 h, cs_P9_3 h, kd_t (cs_K11 h), cs_P11_0 h, kd_t (cs_K12 h), cs_N12 h, cs_P0_12 h, kd_t (cs_K13 h), cs_P13_0 h, kd_t (cs_K14 h), cs_N14 h, cs_P13_2 h, kd_t (cs_K15 h), cs_N15 h, cs_P13_4 h, kd_t (cs_K16 h), cs_N16 h, cs_P0_16 h, kd_t (cs_K17 h), cs_N17 h, cs_P0_17 h, kd_t (cs_K18 h), cs_N18 h, cs_P7_0 h, cs_P7_1 h, cs_P7_2 h, l0_e, l0_le, l0_ge, l0_lt, l0_gt, lt_t, nn_t, bd_t, bdD_t, bdP_t, nI_clamp, gi_n, nI_add, nI_1, pk_mul, b2_eq0, b2_01, nb_t, if_true, if_false, ni_le, ni_eq, ni_lt, f0, hd1, kd_t W.k, (gw d1 W1).2.1, fp1', (gw q1 W3).2.2, fp2', (gw q2 W4).1, fp3', r1, kd_t r2, r3, show Int32.ofNat D.length = nI D.length from rfl, hf2]
  exact fl
end cls
