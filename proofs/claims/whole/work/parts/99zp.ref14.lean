section ref
variable {S : gS} {d e : gD} {m : Nat} {s s' : Nat → Nat → Nat} {q : (Nat → Int64) × Int64 × (Nat → Int64) × (Nat → Int32)}
theorem rf_ta {k : Nat} (h : Ta m k d e) : Rf m d e := fun a j n => ⟨h.1 a j (by omega), h.2 a j (by omega)⟩
theorem fr_ta {k : Nat} {fl : List (Nat × List Nat)} (hf : FR d m fl) (h : Ta m k d e) : FR e m fl :=
  ⟨(h.1 _ _ (by omega)).trans hf.1, fun i hi => ⟨(h.1 _ _ (by omega)).trans (hf.2 i hi).1, (h.1 _ _ (by omega)).trans (hf.2 i hi).2.1, fun j hj => (h.1 _ _ (by omega)).trans ((hf.2 i hi).2.2 j hj)⟩⟩
theorem fr_rfw {fl : List (Nat × List Nat)} {v : Int32} (hf : FR d m fl) : FR (wI d m 0 v) m fl := fr_ch hf (ch_w (P := fun a j => a = m ∧ j = 0) ⟨rfl, rfl⟩) (fun a j p => by omega)
def ar3 (a b c : Int64) (k : Nat) : Int64 := if k = 0 then a else if k = 1 then b else c
noncomputable def caO (s : Nat → Nat → Nat) (y : Nat) (w : Nat → Int64) : Nat → Bool
  | 0 => true
  | k + 1 => caO s y w k && tkO s (s 15 (3 * y + k)) (w k)
def snV (s : Nat → Nat → Nat) (o : Nat → Int64) (y : Nat) (w : Nat → Int64) (j : Nat) : Int64 := if j = 0 then Int32.toInt64 (nI (ow y)) else if j = 1 then Int32.toInt64 (nI (nu y)) else if j = 2 then Int32.toInt64 (nI (tc s y)) else if j < 6 then (if j - 3 < tc s y then Int32.toInt64 (aT s (s 15 (3 * y + (j - 3))) (w (j - 3))) else -1) else (if j - 6 < tc s y then aV o (s 15 (3 * y + (j - 6))) (w (j - 6)) else -1)
def CA (S : gS) (d : gD) (m : Nat) (s : Nat → Nat → Nat) (q : (Nat → Int64) × Int64 × (Nat → Int64) × (Nat → Int32)) (fl : List (Nat × List Nat)) (y : Nat) (w : Nat → Int64) (n : Nat) : Prop := (RP S d m s q) ∧ (FR d m fl) ∧ (∀ k, k < n → dI d (m + 34) k = aT s (s 15 (3 * y + k)) (w k) ∧ dL d (m + 35) k = aV q.1 (s 15 (3 * y + k)) (w k))
theorem CA.rp {S : gS} {d : gD} {m : Nat} {s : Nat → Nat → Nat} {q : (Nat → Int64) × Int64 × (Nat → Int64) × (Nat → Int32)} {fl : List (Nat × List Nat)} {y : Nat} {w : Nat → Int64} {n : Nat} (h : CA S d m s q fl y w n) : RP S d m s q := h.1
theorem CA.fr {S : gS} {d : gD} {m : Nat} {s : Nat → Nat → Nat} {q : (Nat → Int64) × Int64 × (Nat → Int64) × (Nat → Int32)} {fl : List (Nat × List Nat)} {y : Nat} {w : Nat → Int64} {n : Nat} (h : CA S d m s q fl y w n) : FR d m fl := h.2.1
theorem CA.ar {S : gS} {d : gD} {m : Nat} {s : Nat → Nat → Nat} {q : (Nat → Int64) × Int64 × (Nat → Int64) × (Nat → Int32)} {fl : List (Nat × List Nat)} {y : Nat} {w : Nat → Int64} {n : Nat} (h : CA S d m s q fl y w n) : ∀ k, k < n → dI d (m + 34) k = aT s (s 15 (3 * y + k)) (w k) ∧ dL d (m + 35) k = aV q.1 (s 15 (3 * y + k)) (w k) := h.2.2
theorem rp_44 {k : Nat} {v : Int64} (h : RP S d m s q) : RP S (wL d (m + 33) k v) m s (q.1, q.2.1, upf q.2.2.1 k v, q.2.2.2) :=
  ⟨rx_L h.ri, fun i hi => by rw [dL_wL, if_neg (by omega)]; exact h.ov i hi, by rw [dL_wL, if_neg (by omega)]; exact h.oc, fun j hj => by
    show dL _ (m + 33) j = upf q.2.2.1 k v j
    unfold upf
    rw [dL_wL]
    by_cases c : j = k
    · rw [if_pos ⟨rfl, c⟩, if_pos c]
    · rw [if_neg (fun z => c z.2), if_neg c]; exact h.sn j hj, h.hd⟩
theorem r_ca_189 {fl : List (Nat × List Nat)} {y c j : Nat} {w : Nat → Int64} (A : CA S d m s q fl y w (tc s y)) (b : BI s) (hg : gf fl) (hl : fl.length ≤ 80) (hj : j < fl.length) (hc : c < s 21 0) (hh : q.2.2.2 c = -1 ∧ s 27 c = 0 ∨ ∃ jo, jo < s 18 0 ∧ q.2.2.2 c = nI jo) (h0 : q.2.2.1 0 = Int32.toInt64 (nI (ow y)) ∧ q.2.2.1 1 = Int32.toInt64 (nI (nu y)) ∧ q.2.2.1 2 = Int32.toInt64 (nI (tc s y))) {z : gD → Int32 → Int32 → Int32 → Int32 → Option (Int32 × gD)} : ∃ e sn, itr (f_R_call_B189 S m (f_R_call_J261 S m)) z fu d (nI c) (nI j) (nI (tc s y)) 0 = some (fitC s q c (fl.getD j df), e) ∧ RP S e m s (q.1, fitO s q c (fl.getD j df), sn, q.2.2.2) ∧ (∀ i, i < 9 → sn i = snV s q.1 y w i) ∧ Rf m d e ∧ dI e m 0 = dI d m 0 := by
  have ht := tc_le s y
  refine itr_q (B := f_R_call_B189 S m (f_R_call_J261 S m)) (fun (y : gD × Nat) K => K y.1 (nI c) (nI j) (nI (tc s _)) (nI y.2)) (fun t => ∃ e sn, t = some (fitC s q c (fl.getD j df), e) ∧ RP S e m s (q.1, fitO s q c (fl.getD j df), sn, q.2.2.2) ∧ (∀ i, i < 9 → sn i = snV s q.1 y w i) ∧ Rf m d e ∧ dI e m 0 = dI d m 0) (fun k z => z.2 = k ∧ ∃ sn, CA S z.1 m s (q.1, q.2.1, sn, q.2.2.2) fl y w (tc s y) ∧ (∀ i, i < 3 → sn i = snV s q.1 y w i) ∧ (∀ i, i < k → sn (3 + i) = snV s q.1 y w (3 + i) ∧ sn (6 + i) = snV s q.1 y w (6 + i)) ∧ Rf m d z.1 ∧ dI z.1 m 0 = dI d m 0) 3 (by omega) ?_ ?_ (x := (d, 0)) ⟨rfl, q.2.2.1, A, ?_, fun i hi => absurd hi (Nat.not_lt_zero _), rf_r, rfl⟩
  · rintro k hk ⟨e, k'⟩ ⟨rfl, sn, Ae, s3, sk, rf, z0⟩ K hK
    simp only at hk Ae s3 sk rf z0 hK ⊢
    have hr := Ae.rp
    have fin : ∀ v1 v2, v1 = snV s q.1 y w (3 + k') → v2 = snV s q.1 y w (6 + k') → ∃ e2 sn2, K (wL (wL e (m + 33) (3 + k') v1) (m + 33) (6 + k') v2) (nI c) (nI j) (nI (tc s y)) (nI (k' + 1)) = some (fitC s q c (fl.getD j df), e2) ∧ RP S e2 m s (q.1, fitO s q c (fl.getD j df), sn2, q.2.2.2) ∧ (∀ i, i < 9 → sn2 i = snV s q.1 y w i) ∧ Rf m d e2 ∧ dI e2 m 0 = dI d m 0 := by
      intro v1 v2 e1 e2
      refine hK (wL (wL e (m + 33) (3 + k') v1) (m + 33) (6 + k') v2, k' + 1) ⟨rfl, upf (upf sn (3 + k') v1) (6 + k') v2, ⟨rp_44 (rp_44 hr), Ae.fr, fun i hi => ?_⟩, fun i hi => ?_, fun i hi => ⟨?_, ?_⟩, rf_t rf (rf_t (rf_wL (by omega)) (rf_wL (by omega))), z0⟩
      · have := Ae.ar i hi
        exact ⟨this.1, by rw [dL_wL, if_neg (by omega), dL_wL, if_neg (by omega)]; exact this.2⟩
      · unfold upf; rw [if_neg (by omega), if_neg (by omega)]; exact s3 i hi
      · unfold upf
        by_cases c1 : i = k'
        · rw [if_neg (by omega), if_pos (by omega), c1]; exact e1
        · rw [if_neg (by omega), if_neg (by omega)]; exact (sk i (by omega)).1
      · unfold upf
        by_cases c1 : i = k'
        · rw [if_pos (by omega), c1]; exact e2
        · rw [if_neg (by omega), if_neg (by omega)]; exact (sk i (by omega)).2
    have hs3 : snV s q.1 y w (3 + k') = if k' < tc s y then Int32.toInt64 (aT s (s 15 (3 * y + k')) (w k')) else -1 := by
      unfold snV
      rw [if_neg (by omega), if_neg (by omega), if_neg (by omega), if_pos (by omega), show 3 + k' - 3 = k' by omega]
    have hs6 : snV s q.1 y w (6 + k') = if k' < tc s y then aV q.1 (s 15 (3 * y + k')) (w k') else -1 := by
      unfold snV
      rw [if_neg (by omega), if_neg (by omega), if_neg (by omega), if_neg (by omega), show 6 + k' - 6 = k' by omega]
    by_cases c1 : tc s y ≤ k'
    · simp (maxSteps := 1000000) (disch := omega) only [f_R_call_B189, f_R_call_J224, f_R_call_J254, kd_t hr.ri.rs.1, rs_P44 hr.ri.rs, kd_t (rs_K44 hr.ri.rs), rs_N44 hr.ri.rs, rs_P45 hr.ri.rs, kd_t (rs_K45 hr.ri.rs), rs_N45 hr.ri.rs, rs_P46 hr.ri.rs, kd_t (rs_K46 hr.ri.rs), rs_N46 hr.ri.rs, lt_t, nn_t, bd_t, bdD_t, bdP_t, nI_clamp, gi_n, nI_add, nI_1, pk_mul, b2_eq0, b2_01, nb_t, if_true, if_false, ni_le, ni_eq, ni_lt, l3_b, l6_b, l3_ge]
      rw [if_neg (by omega), if_pos c1, if_pos c1]
      exact fin _ _ (by rw [hs3, if_neg (by omega)]) (by rw [hs6, if_neg (by omega)])
    · have ha := Ae.ar k' (by omega)
      have ha2 : dL (wL e (m + 33) (3 + k') (Int32.toInt64 (aT s (s 15 (3 * y + k')) (w k')))) (m + 35) k' = aV q.1 (s 15 (3 * y + k')) (w k') := by rw [dL_wL, if_neg (by omega)]; exact ha.2
      simp (maxSteps := 1000000) (disch := omega) only [f_R_call_B189, f_R_call_J224, f_R_call_J254, kd_t hr.ri.rs.1, rs_P44 hr.ri.rs, kd_t (rs_K44 hr.ri.rs), rs_N44 hr.ri.rs, rs_P45 hr.ri.rs, kd_t (rs_K45 hr.ri.rs), rs_N45 hr.ri.rs, rs_P46 hr.ri.rs, kd_t (rs_K46 hr.ri.rs), rs_N46 hr.ri.rs, lt_t, nn_t, bd_t, bdD_t, bdP_t, nI_clamp, gi_n, nI_add, nI_1, pk_mul, b2_eq0, b2_01, nb_t, if_true, if_false, ni_le, ni_eq, ni_lt, l3_b, l6_b, l3_ge, ha.1, ha2]
      rw [if_neg (by omega), if_neg c1, if_neg c1]
      exact fin _ _ (by rw [hs3, if_pos (by omega)]) (by rw [hs6, if_pos (by omega)])
  · rintro ⟨e, k'⟩ ⟨rfl, sn, Ae, s3, sk, rf, z0⟩ K
    simp only at Ae s3 sk rf z0 ⊢
    obtain ⟨e2, f2, r2, rf2, z2⟩ := r_fit Ae.rp b Ae.fr hg hl hj hc hh
    refine ⟨e2, sn, ?_, r2, fun i hi => ?_, rf_t rf rf2, z2.trans z0⟩
    · have ef : fitC s (q.1, q.2.1, sn, q.2.2.2) c (fl.getD j df) = fitC s q c (fl.getD j df) := rfl
      rw [ef] at f2
      simp (maxSteps := 1000000) (disch := omega) only [f_R_call_B189, f_R_call_J261, kd_t Ae.rp.ri.rs.1, rs_P44 Ae.rp.ri.rs, kd_t (rs_K44 Ae.rp.ri.rs), rs_N44 Ae.rp.ri.rs, rs_P45 Ae.rp.ri.rs, kd_t (rs_K45 Ae.rp.ri.rs), rs_N45 Ae.rp.ri.rs, lt_t, nn_t, bd_t, bdD_t, bdP_t, nI_clamp, gi_n, nI_add, nI_1, pk_mul, b2_eq0, b2_01, nb_t, if_true, if_false, ni_le, ni_eq, ni_lt, l3_ge, f2]
      rw [if_pos (by decide)]
    · by_cases c1 : i < 3
      · exact s3 i c1
      · by_cases c2 : i < 6
        · have := (sk (i - 3) (by omega)).1
          rw [show 3 + (i - 3) = i by omega] at this; exact this
        · have := (sk (i - 6) (by omega)).2
          rw [show 6 + (i - 6) = i by omega] at this; exact this
  · intro i hi
    show q.2.2.1 i = _
    unfold snV
    rcases (show i = 0 ∨ i = 1 ∨ i = 2 by omega) with rfl | rfl | rfl
    · rw [if_pos rfl]; exact h0.1
    · rw [if_neg (by omega), if_pos rfl]; exact h0.2.1
    · rw [if_neg (by omega), if_neg (by omega), if_pos rfl]; exact h0.2.2
theorem r_ca_148 {fl : List (Nat × List Nat)} {y c j : Nat} {w : Nat → Int64} (A : CA S d m s q fl y w (tc s y)) (b : BI s) (hy : y < 75) (hg : gf fl) (hl : fl.length ≤ 80) (hj : j < fl.length) (hc : c < s 21 0) (hh : q.2.2.2 c = -1 ∧ s 27 c = 0 ∨ ∃ jo, jo < s 18 0 ∧ q.2.2.2 c = nI jo) : ∃ e sn, f_R_call_J148 S m d (nI c) (nI j) (nI y) (nI (tc s y)) = some (fitC s q c (fl.getD j df), e) ∧ RP S e m s (q.1, fitO s q c (fl.getD j df), sn, q.2.2.2) ∧ (∀ i, i < 9 → sn i = snV s q.1 y w i) ∧ Rf m d e ∧ dI e m 0 = 0 := by
  have h1 := rp_w0 (v := 0) A.rp
  have h2 := rp_44 (k := 2) (v := Int32.toInt64 (nI (tc s y))) (rp_44 (k := 1) (v := Int32.toInt64 (nI (nu y))) (rp_44 (k := 0) (v := Int32.toInt64 (nI (ow y))) h1))
  obtain ⟨e, sn, f1, r1, s1, rf1, z1⟩ := r_ca_189 (S := S) (d := wL (wL (wL (wI d m 0 0) (m + 33) 0 (Int32.toInt64 (nI (ow y)))) (m + 33) 1 (Int32.toInt64 (nI (nu y)))) (m + 33) 2 (Int32.toInt64 (nI (tc s y)))) (z := fun _ _ _ _ _ => none) (w := w) (y := y) (fl := fl) ⟨h2, fr_rfw A.fr, fun k hk => ⟨by rw [dI_wL, dI_wL, dI_wL, dI_wI, if_neg (by omega)]; exact (A.ar k hk).1, by rw [dL_wL, if_neg (by omega), dL_wL, if_neg (by omega), dL_wL, if_neg (by omega), dL_wI]; exact (A.ar k hk).2⟩⟩ b hg hl hj hc hh ⟨rfl, rfl, rfl⟩
  refine ⟨e, sn, ?_, r1, s1, rf_t (rf_t (rf_t (rf_t (rf_w (by omega)) (rf_wL (by omega))) (rf_wL (by omega))) (rf_wL (by omega))) rf1, ?_⟩
  · simp (maxSteps := 1000000) (disch := omega) only [f_R_call_J148, kd_t A.rp.ri.rs.1, rs_P44 A.rp.ri.rs, kd_t (rs_K44 A.rp.ri.rs), rs_N44 A.rp.ri.rs, lt_t, nn_t, bd_t, bdD_t, bdP_t, nI_clamp, gi_n, nI_add, nI_1, pk_mul, b2_eq0, b2_01, nb_t, if_true, if_false, ni_le, ni_eq, ni_lt, r_owner hy, r_numberOf hy]
    rw [show (0 : Int32) = nI 0 from rfl, show (1 : Int32) = nI 1 from rfl, show (2 : Int32) = nI 2 from rfl, gi_n (by omega) (by omega), gi_n (by omega) (by omega), gi_n (by omega) (by omega), nI_clamp (by omega), nI_clamp (by omega), nI_clamp (by omega)]
    exact f1
  · rw [z1, dI_wL, dI_wL, dI_wL, dI_wI, if_pos ⟨rfl, rfl⟩]
theorem ca_step {fl : List (Nat × List Nat)} {y k : Nat} {w : Nat → Int64} (A : CA S d m s q fl y w k) (b : BI s) (hy : vx s y) (hk : k < 3) : ∃ e, f_R_takesAs S d m (nI k) (nI (s 15 (3 * y + k))) (w k) = some (b2 (tkO s (s 15 (3 * y + k)) (w k)), e) ∧ RP S e m s q ∧ Rf m d e ∧ dI e m 0 = dI d m 0 ∧ (tkO s (s 15 (3 * y + k)) (w k) = true → CA S e m s q fl y w (k + 1)) := by
  obtain ⟨e, f1, r1, t1, a1⟩ := r_takesAs A.rp b hk (b.takeT y k hy hk) (w k)
  refine ⟨e, f1, r1, rf_ta t1, t1.1 _ _ (by omega), fun ok => ⟨r1, fr_ta A.fr t1, fun i hi => ?_⟩⟩
  by_cases c : i = k
  · rw [c]; exact a1 ok
  · have := A.ar i (by omega)
    exact ⟨(t1.1 _ _ (by omega)).trans this.1, (t1.2 _ _ (by omega)).trans this.2⟩
theorem r_call (h : RP S d m s q) (b : BI s) {c k : Nat} (hc : c < s 21 0) (ho : okL s (nI (s 23 c))) (hk : k < (dsc s (nI (s 23 c))).length) (hh : q.2.2.2 c = -1 ∧ s 27 c = 0 ∨ ∃ jo, jo < s 18 0 ∧ q.2.2.2 c = nI jo) (w : Nat → Int64) : (caO s ((perm s (dsc s (nI (s 23 c)))).getD k df).1 w (tc s ((perm s (dsc s (nI (s 23 c)))).getD k df).1) = false → ∃ e, f_R_call S d m (nI c) (nI k) (w 0) (w 1) (w 2) = some (0, e) ∧ RP S e m s q ∧ Rf m d e ∧ dI e m 0 = 2) ∧ (caO s ((perm s (dsc s (nI (s 23 c)))).getD k df).1 w (tc s ((perm s (dsc s (nI (s 23 c)))).getD k df).1) = true → ∃ e sn, f_R_call S d m (nI c) (nI k) (w 0) (w 1) (w 2) = some (fitC s q c ((perm s (dsc s (nI (s 23 c)))).getD k df), e) ∧ RP S e m s (q.1, fitO s q c ((perm s (dsc s (nI (s 23 c)))).getD k df), sn, q.2.2.2) ∧ (∀ i, i < 9 → sn i = snV s q.1 ((perm s (dsc s (nI (s 23 c)))).getD k df).1 w i) ∧ Rf m d e ∧ dI e m 0 = 0) := by
  have hS := b.stands
  have h2 := rp_w0 (v := 1) h
  obtain ⟨e, fe, ce, De⟩ := r_describe h2.ri b ho
  have he := rp_ch h2 ce (ri_PD h2.ri ce) pd_21
  have hg := GF_dscK b ho _ (Nat.le_refl _)
  rw [show dscK s (nI (s 23 c)) (ln (nI (s 23 c))) = dsc s (nI (s 23 c)) from rfl] at hg
  have hlen := GF_len hg
  obtain ⟨a1, a2, a3, a4, a5, a6, a7, a8⟩ := ds_at b ho De hk
  generalize hj : (ord s (dsc s (nI (s 23 c)))).getD k 0 = j at a1 a2 a3 a4 a5 a8
  generalize hp : (perm s (dsc s (nI (s 23 c)))).getD k df = p at a3 a4 a5 a6 a7 a8
  have p75 := vx_lt b a6
  have rfe := rf_t (rf_w (m := m) (d := d) (a := m) (k := 0) (v := 1) (by omega)) (rf_PD ce)
  have h3 := rp_w0 (v := 2) he
  have rf3 := rf_t rfe (rf_w (m := m) (d := e) (a := m) (k := 0) (v := 2) (by omega))
  have z3 : dI (wI e m 0 2) m 0 = 2 := by rw [dI_wI, if_pos ⟨rfl, rfl⟩]
  have A0 : CA S (wI e m 0 2) m s q (dsc s (nI (s 23 c))) p.1 w 0 := ⟨h3, fr_rfw De.1, fun i hi => absurd hi (Nat.not_lt_zero _)⟩
  have ht := tc_le s p.1
  have htc := r_takesCount he.ri b p.1 p75
  obtain ⟨e1, f1, r1, rf1, z1, n1⟩ := ca_step A0 b a6 (by omega)
  rw [Nat.add_zero] at f1 n1
  have hd0 : f_R_call S d m (nI c) (nI k) (w 0) (w 1) (w 2) = if tc s p.1 ≤ 0 then f_R_call_J92 S m (wI e m 0 2) (nI c) (w 1) (w 2) (nI j) (nI p.1) (nI (tc s p.1)) else bdD (f_R_takesAs S (wI e m 0 2) m 0 (nI (s 15 (3 * p.1))) (w 0)) fun x32 d34 => if x32 = 0 then some (0, d34) else f_R_call_J92 S m d34 (nI c) (w 1) (w 2) (nI j) (nI p.1) (nI (tc s p.1)) := by
    simp (maxSteps := 1000000) (disch := omega) only [f_R_call, kd_t he.ri.rs.1, rs_P15 he.ri.rs, kd_t (rs_K15 he.ri.rs), rs_N15 he.ri.rs, ri_15 he.ri, rs_P23 he.ri.rs, kd_t (rs_K23 he.ri.rs), rs_N23 he.ri.rs, ri_23 he.ri, rs_P32 he.ri.rs, kd_t (rs_K32 he.ri.rs), rs_N32 he.ri.rs, rs_P36 he.ri.rs, kd_t (rs_K36 he.ri.rs), rs_N36 he.ri.rs, lt_t, nn_t, bd_t, bdD_t, bdP_t, nI_clamp, gi_n, nI_add, nI_1, pk_mul, b2_eq0, b2_01, nb_t, if_true, if_false, ni_le, ni_eq, ni_lt, r_isStand h2.ri, c0_of b hc, ri_23 h2.ri, fe, De.1.1, a1, a3, htc, ri_15 h3.ri, l3_m, l0_le]
    rw [if_neg (by decide), if_neg (nI_pos (by omega)), if_pos hk]
  have l2 : ∀ (d2 : gD) (A : CA S d2 m s q (dsc s (nI (s 23 c))) p.1 w 2) (rf : Rf m d d2) (z : dI d2 m 0 = 2) (cc : caO s p.1 w 2 = true) (h2t : 2 ≤ tc s p.1), (caO s p.1 w (tc s p.1) = false → ∃ e, f_R_call_J119 S m d2 (nI c) (w 2) (nI j) (nI p.1) (nI (tc s p.1)) = some (0, e) ∧ RP S e m s q ∧ Rf m d e ∧ dI e m 0 = 2) ∧ (caO s p.1 w (tc s p.1) = true → ∃ e sn, f_R_call_J119 S m d2 (nI c) (w 2) (nI j) (nI p.1) (nI (tc s p.1)) = some (fitC s q c p, e) ∧ RP S e m s (q.1, fitO s q c p, sn, q.2.2.2) ∧ (∀ i, i < 9 → sn i = snV s q.1 p.1 w i) ∧ Rf m d e ∧ dI e m 0 = 0) := by
    intro d2 A rf z cc h2t
    by_cases t2 : tc s p.1 = 2
    · have ev : f_R_call_J119 S m d2 (nI c) (w 2) (nI j) (nI p.1) (nI (tc s p.1)) = f_R_call_J148 S m d2 (nI c) (nI j) (nI p.1) (nI (tc s p.1)) := by
        simp only [f_R_call_J119, l2_le _ (show tc s p.1 < 2 ^ 31 by omega)]
        rw [if_pos (by omega)]
      have A' : CA S d2 m s q (dsc s (nI (s 23 c))) p.1 w (tc s p.1) := by rw [t2]; exact A
      obtain ⟨e9, sn, g1, g2, g3, g4, g5⟩ := r_ca_148 A' b p75 hg.2.1 (by omega) a2 hc hh
      rw [← a8] at g1 g2
      rw [ev]
      exact ⟨fun hf => by rw [t2, cc] at hf; exact absurd hf (by decide), fun _ => ⟨e9, sn, g1, g2, g3, rf_t rf g4, g5⟩⟩
    · have t3 : tc s p.1 = 3 := by omega
      obtain ⟨e3, f3, r3, rf3', z3', n3⟩ := ca_step A b a6 (by omega)
      have ev : f_R_call_J119 S m d2 (nI c) (w 2) (nI j) (nI p.1) (nI (tc s p.1)) = if b2 (tkO s (s 15 (3 * p.1 + 2)) (w 2)) = 0 then some (0, e3) else f_R_call_J148 S m e3 (nI c) (nI j) (nI p.1) (nI (tc s p.1)) := by
        simp (maxSteps := 1000000) (disch := omega) only [f_R_call_J119, kd_t A.rp.ri.rs.1, rs_P15 A.rp.ri.rs, kd_t (rs_K15 A.rp.ri.rs), rs_N15 A.rp.ri.rs, ri_15 A.rp.ri, lt_t, nn_t, bd_t, bdD_t, bdP_t, nI_clamp, gi_n, nI_add, nI_1, pk_mul, b2_eq0, b2_01, nb_t, if_true, if_false, ni_le, ni_eq, ni_lt, ri_15 A.rp.ri, l2_le, l3_m, l2_a]
        rw [if_neg (by omega), show (2 : Int32) = nI 2 from rfl, f3]
        simp only [bdD_t, b2_eq0]
      have cd : caO s p.1 w (tc s p.1) = (caO s p.1 w 2 && tkO s (s 15 (3 * p.1 + 2)) (w 2)) := by rw [t3]; rfl
      rw [ev, cd, cc, Bool.true_and]
      cases tkv : tkO s (s 15 (3 * p.1 + 2)) (w 2) with
      | false => exact ⟨fun _ => ⟨e3, by rw [if_pos (show b2 false = 0 from rfl)], r3, rf_t rf rf3', z3'.trans z⟩, fun c => absurd c (by decide)⟩
      | true =>
        have A' : CA S e3 m s q (dsc s (nI (s 23 c))) p.1 w (tc s p.1) := by rw [t3]; exact n3 tkv
        obtain ⟨e9, sn, g1, g2, g3, g4, g5⟩ := r_ca_148 A' b p75 hg.2.1 (by omega) a2 hc hh
        rw [← a8] at g1 g2
        exact ⟨fun c => absurd c (by decide), fun _ => ⟨e9, sn, by rw [if_neg (by decide)]; exact g1, g2, g3, rf_t (rf_t rf rf3') g4, g5⟩⟩
  have l1 : ∀ (d2 : gD) (A : CA S d2 m s q (dsc s (nI (s 23 c))) p.1 w 1) (rf : Rf m d d2) (z : dI d2 m 0 = 2) (cc : caO s p.1 w 1 = true) (h1t : 1 ≤ tc s p.1), (caO s p.1 w (tc s p.1) = false → ∃ e, f_R_call_J92 S m d2 (nI c) (w 1) (w 2) (nI j) (nI p.1) (nI (tc s p.1)) = some (0, e) ∧ RP S e m s q ∧ Rf m d e ∧ dI e m 0 = 2) ∧ (caO s p.1 w (tc s p.1) = true → ∃ e sn, f_R_call_J92 S m d2 (nI c) (w 1) (w 2) (nI j) (nI p.1) (nI (tc s p.1)) = some (fitC s q c p, e) ∧ RP S e m s (q.1, fitO s q c p, sn, q.2.2.2) ∧ (∀ i, i < 9 → sn i = snV s q.1 p.1 w i) ∧ Rf m d e ∧ dI e m 0 = 0) := by
    intro d2 A rf z cc h1t
    by_cases t1 : tc s p.1 = 1
    · have ev : f_R_call_J92 S m d2 (nI c) (w 1) (w 2) (nI j) (nI p.1) (nI (tc s p.1)) = f_R_call_J148 S m d2 (nI c) (nI j) (nI p.1) (nI (tc s p.1)) := by
        simp only [f_R_call_J92, f_R_call_J119, l1_le _ (show tc s p.1 < 2 ^ 31 by omega), l2_le _ (show tc s p.1 < 2 ^ 31 by omega)]
        rw [if_pos (by omega), if_pos (by omega)]
      have A' : CA S d2 m s q (dsc s (nI (s 23 c))) p.1 w (tc s p.1) := by rw [t1]; exact A
      obtain ⟨e9, sn, g1, g2, g3, g4, g5⟩ := r_ca_148 A' b p75 hg.2.1 (by omega) a2 hc hh
      rw [← a8] at g1 g2
      rw [ev]
      exact ⟨fun hf => by rw [t1, cc] at hf; exact absurd hf (by decide), fun _ => ⟨e9, sn, g1, g2, g3, rf_t rf g4, g5⟩⟩
    · obtain ⟨e3, f3, r3, rf3', z3', n3⟩ := ca_step A b a6 (by omega)
      have ev : f_R_call_J92 S m d2 (nI c) (w 1) (w 2) (nI j) (nI p.1) (nI (tc s p.1)) = if b2 (tkO s (s 15 (3 * p.1 + 1)) (w 1)) = 0 then some (0, e3) else f_R_call_J119 S m e3 (nI c) (w 2) (nI j) (nI p.1) (nI (tc s p.1)) := by
        simp (maxSteps := 1000000) (disch := omega) only [f_R_call_J92, kd_t A.rp.ri.rs.1, rs_P15 A.rp.ri.rs, kd_t (rs_K15 A.rp.ri.rs), rs_N15 A.rp.ri.rs, ri_15 A.rp.ri, lt_t, nn_t, bd_t, bdD_t, bdP_t, nI_clamp, gi_n, nI_add, nI_1, pk_mul, b2_eq0, b2_01, nb_t, if_true, if_false, ni_le, ni_eq, ni_lt, ri_15 A.rp.ri, l1_le, l3_m, l1_a]
        rw [if_neg (by omega), show (1 : Int32) = nI 1 from rfl, f3]
        simp only [bdD_t, b2_eq0]
      rw [ev]
      cases tkv : tkO s (s 15 (3 * p.1 + 1)) (w 1) with
      | false =>
        have cf : caO s p.1 w (tc s p.1) = false := by
          have c2 : caO s p.1 w 2 = false := by show (caO s p.1 w 1 && tkO s (s 15 (3 * p.1 + 1)) (w 1)) = false; rw [tkv, Bool.and_false]
          rcases (show tc s p.1 = 2 ∨ tc s p.1 = 3 by omega) with t | t
          · rw [t]; exact c2
          · rw [t]; show (caO s p.1 w 2 && _) = false; rw [c2, Bool.false_and]
        exact ⟨fun _ => ⟨e3, by rw [if_pos (show b2 false = 0 from rfl)], r3, rf_t rf rf3', z3'.trans z⟩, fun c => by rw [cf] at c; exact absurd c (by decide)⟩
      | true =>
        rw [if_neg (by decide)]
        refine l2 e3 (n3 tkv) (rf_t rf rf3') (z3'.trans z) ?_ (by omega)
        show (caO s p.1 w 1 && tkO s (s 15 (3 * p.1 + 1)) (w 1)) = true
        rw [cc, tkv]; rfl
  rw [hd0]
  by_cases t0 : tc s p.1 = 0
  · have ev : f_R_call_J92 S m (wI e m 0 2) (nI c) (w 1) (w 2) (nI j) (nI p.1) (nI (tc s p.1)) = f_R_call_J148 S m (wI e m 0 2) (nI c) (nI j) (nI p.1) (nI (tc s p.1)) := by
      simp only [f_R_call_J92, f_R_call_J119, l1_le _ (show tc s p.1 < 2 ^ 31 by omega), l2_le _ (show tc s p.1 < 2 ^ 31 by omega)]
      rw [if_pos (by omega), if_pos (by omega)]
    have A' : CA S (wI e m 0 2) m s q (dsc s (nI (s 23 c))) p.1 w (tc s p.1) := by rw [t0]; exact A0
    obtain ⟨e9, sn, g1, g2, g3, g4, g5⟩ := r_ca_148 A' b p75 hg.2.1 (by omega) a2 hc hh
    rw [← a8] at g1 g2
    rw [if_pos (by omega), ev]
    exact ⟨fun hf => by rw [t0] at hf; exact absurd (show true = false from hf) (by decide), fun _ => ⟨e9, sn, g1, g2, g3, rf_t rf3 g4, g5⟩⟩
  · rw [if_neg (by omega), show (0 : Int32) = nI 0 from rfl, f1]
    simp only [bdD_t]
    cases tkv : tkO s (s 15 (3 * p.1)) (w 0) with
    | false =>
      have c1 : caO s p.1 w 1 = false := by show (true && tkO s (s 15 (3 * p.1 + 0)) (w 0)) = false; rw [Nat.add_zero, tkv]; rfl
      have cf : caO s p.1 w (tc s p.1) = false := by
        have c2 : caO s p.1 w 2 = false := by show (caO s p.1 w 1 && _) = false; rw [c1, Bool.false_and]
        rcases (show tc s p.1 = 1 ∨ tc s p.1 = 2 ∨ tc s p.1 = 3 by omega) with t | t | t
        · rw [t]; exact c1
        · rw [t]; exact c2
        · rw [t]; show (caO s p.1 w 2 && _) = false; rw [c2, Bool.false_and]
      exact ⟨fun _ => ⟨e1, by rw [if_pos (show b2 false = nI 0 from rfl)], r1, rf_t rf3 rf1, z1.trans z3⟩, fun c => by rw [cf] at c; exact absurd c (by decide)⟩
    | true =>
      rw [if_neg (by decide)]
      refine l1 e1 (n1 tkv) (rf_t rf3 rf1) (z1.trans z3) ?_ (by omega)
      show (true && tkO s (s 15 (3 * p.1 + 0)) (w 0)) = true
      rw [Nat.add_zero, tkv]; rfl
theorem r_call_1 (h : RP S d m s q) (b : BI s) {v1 v2 : Int32} {a1 a2 a3 : Int64} (hok : ∀ c, c < s 21 0 → okL s (nI (s 23 c))) (hn : cIn 0 (nI (s 21 0)) v1 = false ∨ ∃ c, c < s 21 0 ∧ v1 = nI c ∧ cIn 0 (nI (dsc s (nI (s 23 c))).length) v2 = false) : ∃ e, f_R_call S d m v1 v2 a1 a2 a3 = some (0, e) ∧ RP S e m s q ∧ Rf m d e ∧ dI e m 0 = 1 := by
  have hS := b.stands
  have h2 := rp_w0 (v := 1) h
  have z2 : dI (wI d m 0 1) m 0 = 1 := by rw [dI_wI, if_pos ⟨rfl, rfl⟩]
  rcases hn with hn | ⟨c, hc, rfl, hk⟩
  · refine ⟨_, ?_, h2, rf_w (by omega), z2⟩
    simp (maxSteps := 1000000) (disch := omega) only [f_R_call, kd_t h2.ri.rs.1, rs_P15 h2.ri.rs, kd_t (rs_K15 h2.ri.rs), rs_N15 h2.ri.rs, ri_15 h2.ri, rs_P23 h2.ri.rs, kd_t (rs_K23 h2.ri.rs), rs_N23 h2.ri.rs, ri_23 h2.ri, rs_P32 h2.ri.rs, kd_t (rs_K32 h2.ri.rs), rs_N32 h2.ri.rs, rs_P36 h2.ri.rs, kd_t (rs_K36 h2.ri.rs), rs_N36 h2.ri.rs, lt_t, nn_t, bd_t, bdD_t, bdP_t, nI_clamp, gi_n, nI_add, nI_1, pk_mul, b2_eq0, b2_01, nb_t, if_true, if_false, ni_le, ni_eq, ni_lt, r_isStand h2.ri, hn]
  · obtain ⟨e, fe, ce, De⟩ := r_describe h2.ri b (hok c hc)
    refine ⟨e, ?_, rp_ch h2 ce (ri_PD h2.ri ce) pd_21, rf_t (rf_w (by omega)) (rf_PD ce), (ce.2 _ _ (by unfold PD; omega)).trans z2⟩
    simp (maxSteps := 1000000) (disch := omega) only [f_R_call, kd_t h2.ri.rs.1, rs_P15 h2.ri.rs, kd_t (rs_K15 h2.ri.rs), rs_N15 h2.ri.rs, ri_15 h2.ri, rs_P23 h2.ri.rs, kd_t (rs_K23 h2.ri.rs), rs_N23 h2.ri.rs, ri_23 h2.ri, rs_P32 h2.ri.rs, kd_t (rs_K32 h2.ri.rs), rs_N32 h2.ri.rs, rs_P36 h2.ri.rs, kd_t (rs_K36 h2.ri.rs), rs_N36 h2.ri.rs, lt_t, nn_t, bd_t, bdD_t, bdP_t, nI_clamp, gi_n, nI_add, nI_1, pk_mul, b2_eq0, b2_01, nb_t, if_true, if_false, ni_le, ni_eq, ni_lt, r_isStand h2.ri, c0_of b hc, fe, De.1.1]
    rw [if_neg (by decide)]
    unfold cIn at hk
    rw [Bool.and_eq_false_iff, decide_eq_false_iff_not, decide_eq_false_iff_not] at hk
    by_cases q1 : v2 < 0
    · rw [if_pos q1]
    · rw [if_neg q1, if_neg (by
        rcases hk with hk | hk
        · exact fun _ => hk (Int32.not_lt.mp q1)
        · exact hk)]
end ref
