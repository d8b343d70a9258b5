def SMs (S : gS) (v : Nat) : Prop := (sK S v = 7) ∧ (sP S v 1 = some (v + 1)) ∧ (sP S v 2 = some (v + 3)) ∧ (RWs S (v + 1) 16) ∧ (RWs S (v + 3) 16)
theorem SMs.k {S : gS} {v : Nat} (h : SMs S v) : sK S v = 7 := h.1
theorem SMs.p1 {S : gS} {v : Nat} (h : SMs S v) : sP S v 1 = some (v + 1) := h.2.1
theorem SMs.p2 {S : gS} {v : Nat} (h : SMs S v) : sP S v 2 = some (v + 3) := h.2.2.1
theorem SMs.r1 {S : gS} {v : Nat} (h : SMs S v) : RWs S (v + 1) 16 := h.2.2.2.1
theorem SMs.r2 {S : gS} {v : Nat} (h : SMs S v) : RWs S (v + 3) 16 := h.2.2.2.2
theorem take_s {l : List Nat} {k : Nat} (h : nd l) (hk : k < l.length) : adL (l.take k) (l.getD k 0) = l.take (k + 1) := by
  unfold adL
  have hn : l.getD k 0 ∉ l.take k := by
    intro hm
    obtain ⟨i, hi, e⟩ := mem_getD hm
    rw [List.length_take] at hi
    have hi2 : i < k := by omega
    have : (l.take k).getD i 0 = l.getD i 0 := by
      rw [List.getD_eq_getElem?_getD, List.getD_eq_getElem?_getD, List.getElem?_take, if_pos hi2]
    rw [this] at e
    exact nd_getD h i k hi2 hk e
  rw [if_neg hn, List.take_add_one, List.getD_eq_getElem?_getD]
  rw [List.getElem?_eq_getElem hk]; rfl
theorem take_cl {l : List Nat} (h : cl l) (k : Nat) : cl (l.take k) := by
  refine ⟨?_, fun t ht => h.2 t (List.mem_of_mem_take ht)⟩
  have : ∀ (l : List Nat) k, nd l → nd (l.take k) := by
    intro l
    induction l with
    | nil => intro k _; rw [List.take_nil]; exact trivial
    | cons y l ih =>
      intro k hn
      cases k with
      | zero => exact trivial
      | succ k => exact ⟨fun hm => hn.1 (List.mem_of_mem_take hm), ih k hn.2⟩
  exact this l k h.1
theorem abL_fl {s : Nat → Nat → Nat} {B T : List Nat} (h : cl B) : ∀ k, k ≤ B.length → abL s B T [] k = flK s B T k := by
  intro k
  induction k with
  | zero => intro _; rfl
  | succ k ih =>
    intro hk
    have hi := ih (by omega)
    unfold abL flK
    rw [hi]
    split
    · unfold adL
      rw [if_neg]
      intro hm
      obtain ⟨i, hi2, e⟩ := flK_mem k hm
      exact nd_getD h.1 i k hi2 (by omega) e.symm
    · rfl
theorem abL_mg {s : Nat → Nat → Nat} {B T acc : List Nat} : ∀ k, abL s T B acc k = mgK s B T acc k := by
  intro k
  induction k with
  | zero => rfl
  | succ k ih =>
    unfold abL mgK adL
    rw [ih]
    by_cases q : bo s (T.getD k 0) B = true
    · by_cases r : T.getD k 0 ∈ mgK s B T acc k
      · rw [if_pos q, if_pos r, if_neg (by rw [decide_eq_true r, Bool.not_true, Bool.and_false]; decide)]
      · rw [if_pos q, if_neg r, if_pos (by simp only [q, r, decide_false, Bool.not_false, Bool.and_self])]
    · rw [if_neg q, if_neg (by simp only [q, Bool.false_and]; exact Bool.false_ne_true)]
section cls
variable {S : gS} {d : gD} {x : Nat} {s : Nat → Nat → Nat}
theorem rw_sep {r r3 n n3 : Nat} (hr : RWs S r n) (hr3 : RWs S r3 n3) (hne : r ≠ r3) : ¬ PRw r3 r 1 ∧ ∀ i, ¬ PRw r3 (r + 1) i := by
  refine ⟨?_, fun i => ?_⟩
  · rintro (q | q)
    · exact hne q.1
    · have := hr.k; rw [q, hr3.ak] at this; cases this
  · rintro (q | q)
    · have := hr.ak; rw [q.1, hr3.k] at this; cases this
    · omega
theorem rw_x1 (h : CS S x) {r n : Nat} (hr : RWs S r n) : ¬ PRw r (x + 1) 1 := by
  rintro (q | q)
  · have := cs_K1 h; rw [q.1, hr.k] at this; cases this
  · have := cs_K1 h; rw [q, hr.ak] at this; cases this
theorem c_copyFrom {r1 n1 r3 : Nat} (hr1 : RWs S r1 n1) (hn1 : n1 ≤ 16) (hr3 : RWs S r3 16) {B : List Nat} (hB : cl B) (hl1 : B.length ≤ n1) (h1 : RWd d r1 B) (n13 : r1 ≠ r3) : ∃ e, f_Rw_copyFrom S d r3 (some r1) = some ((), e) ∧ Ch (PRw r3) d e ∧ RWd e r3 B := by
  obtain ⟨d0, hclr, c0, w0⟩ := c_clear (d := d) hr3
  have sp := rw_sep hr1 hr3 n13
  unfold f_Rw_copyFrom
  simp only [kd_t hr3.k, hclr, bdD_t]
  refine itr_q (B := f_Rw_copyFrom_B6 S r3) (fun (y : gD × Nat) K => K y.1 (some r1) (nI y.2)) (fun t => ∃ e, t = some ((), e) ∧ Ch (PRw r3) d e ∧ RWd e r3 B) (fun k y => y.2 = k ∧ Ch (PRw r3) d y.1 ∧ RWd y.1 r3 (B.take k)) B.length (by have := cl_len hB; omega) ?_ ?_ (x := (d0, 0)) ⟨rfl, c0, by rw [List.take_zero]; exact w0⟩
  · rintro k hk ⟨e, k'⟩ ⟨rfl, hc, hd⟩ K hK
    simp only at hk hc hd hK ⊢
    have g1 := rwd_ch h1 hc sp.1 (fun i _ => sp.2 i)
    have hcl := take_cl hB k'
    have hm := hB.2 _ (getD_mem hk)
    have hg := g1.2 k' hk
    rw [Nat.zero_add] at hg
    have hBl := cl_len hB
    obtain ⟨e2, hadd, hc2, hd2⟩ := c_add hr3 (Nat.le_refl _) hd (cl_len hcl) (fun t ht => by have := hcl.2 t ht; omega) (t := B.getD k' 0) (by omega) (fun n => cl_lt hcl n hm.1 hm.2)
    rw [take_s hB.1 hk] at hd2
    simp (maxSteps := 1000000) (disch := omega) only [f_Rw_copyFrom_B6, l1_m, l1_a, l1_b, l1_s, l1_e, l1_le, l1_ge, l1_lt, l1_gt, lt_t, nn_t, bd_t, bdD_t, bdP_t, nI_clamp, gi_n, nI_add, nI_1, pk_mul, b2_eq0, b2_01, nb_t, if_true, if_false, ni_le, ni_eq, ni_lt, kd_t hr1.k, kd_t hr1.ak, hr1.p, hr1.an, kd_t hr3.k, g1.1, hg, hadd]
    rw [if_neg (by omega)]
    exact hK (e2, k' + 1) ⟨rfl, ch_t hc hc2, hd2⟩
  · rintro ⟨e, k'⟩ ⟨rfl, hc, hd⟩ K
    simp only at hc hd ⊢
    have g1 := rwd_ch h1 hc sp.1 (fun i _ => sp.2 i)
    have hBl := cl_len hB
    simp (maxSteps := 1000000) (disch := omega) only [f_Rw_copyFrom_B6, l1_m, l1_a, l1_b, l1_s, l1_e, l1_le, l1_ge, l1_lt, l1_gt, lt_t, nn_t, bd_t, bdD_t, bdP_t, nI_clamp, gi_n, nI_add, nI_1, pk_mul, b2_eq0, b2_01, nb_t, if_true, if_false, ni_le, ni_eq, ni_lt, kd_t hr1.k, g1.1]
    rw [if_pos (by omega)]
    rw [List.take_length] at hd
    exact ⟨e, rfl, hc, hd⟩
def PNr (x r : Nat) (a j : Nat) : Prop := PRw (x + 11) a j ∨ PRw r a j
theorem cs_row (h : CS S x) : RWs S (x + 11) 16 := ⟨cs_K11 h, cs_P11_0 h, cs_K12 h, cs_N12 h⟩
theorem c_narrow (h : CS S x) (t : CT d x s) (b : BI s) {r r2 n2 : Nat} (hr : RWs S r 16) (hr2 : RWs S r2 n2) (hn2 : n2 ≤ 16) {B T : List Nat} (hB : cl B) (hT : cl T) (hl2 : T.length ≤ n2) (h1 : RWd d r B) (h2 : RWd d r2 T) (n1 : r ≠ x + 11) (n2' : r2 ≠ x + 11) (n12 : r2 ≠ r) : ∃ e, f_Dr_narrow S d (x + 9) (some r) (some r2) = some ((), e) ∧ Ch (PNr x r) d e ∧ RWd e r (mg s B T) := by
  have hs := cs_row h
  have hBl := cl_len hB
  obtain ⟨d1, f1, c1, w1⟩ := c_copyFrom hr (Nat.le_refl _) hs hB hBl h1 n1
  obtain ⟨d2, f2, c2, w2⟩ := c_clear (d := d1) hr
  have s1 := rw_sep hs hr (Ne.symm n1)
  have s2 := rw_sep hr2 hs n2'
  have s3 := rw_sep hr2 hr n12
  have t2 := ct_ch (ct_ch t c1 (rw_x1 h hs)) c2 (rw_x1 h hr)
  have wS2 := rwd_ch w1 c2 s1.1 (fun i _ => s1.2 i)
  have wT2 := rwd_ch (rwd_ch h2 c1 s2.1 (fun i _ => s2.2 i)) c2 s3.1 (fun i _ => s3.2 i)
  have cl0 : cl ([] : List Nat) := ⟨trivial, fun y hy => absurd hy List.not_mem_nil⟩
  obtain ⟨d3, f3, c3, w3⟩ := c_addBelow h t2 b hs (Nat.le_refl _) hr2 hn2 hr hB hT cl0 hBl hl2 wS2 wT2 w2 (Ne.symm n1) n12
  have t3 := ct_ch t2 c3 (rw_x1 h hr)
  have wS3 := rwd_ch wS2 c3 s1.1 (fun i _ => s1.2 i)
  have wT3 := rwd_ch wT2 c3 s3.1 (fun i _ => s3.2 i)
  rw [abL_fl hB _ (Nat.le_refl _)] at w3
  obtain ⟨d4, f4, c4, w4⟩ := c_addBelow h t3 b hr2 hn2 hs (Nat.le_refl _) hr hT hB (cl_flK hB _ (Nat.le_refl _)).1 hl2 hBl wT3 wS3 w3 n12 (Ne.symm n1)
  rw [abL_mg] at w4
  refine ⟨d4, ?_, ?_, w4⟩
  · simp (maxSteps := 1000000) (disch := omega) only [f_Dr_narrow, kd_t (cs_K0 h), cs_P0_0 h, kd_t (cs_K1 h), cs_P1_0 h, kd_t (cs_K2 h), cs_N2 h, cs_P0_1 h, kd_t (cs_K3 h), cs_N3 h, cs_P0_3 h, kd_t (cs_K4 h), cs_N4 h, cs_P0_5 h, kd_t (cs_K5 h), cs_N5 h, cs_P0_6 h, kd_t (cs_K6 h), cs_N6 h, cs_P0_8 h, kd_t (cs_K7 h), cs_N7 h, cs_P0_9 h, kd_t (cs_K8 h), cs_N8 h, cs_P0_11 h, kd_t (cs_K9 h), cs_P9_0 h, cs_P9_1 h, kd_t (cs_K10 h), cs_N10 h, cs_P9_3 h, kd_t (cs_K11 h), cs_P11_0 h, kd_t (cs_K12 h), cs_N12 h, cs_P0_12 h, kd_t (cs_K13 h), cs_P13_0 h, kd_t (cs_K14 h), cs_N14 h, cs_P13_2 h, kd_t (cs_K15 h), cs_N15 h, cs_P13_4 h, kd_t (cs_K16 h), cs_N16 h, cs_P0_16 h, kd_t (cs_K17 h), cs_N17 h, cs_P0_17 h, kd_t (cs_K18 h), cs_N18 h, cs_P7_0 h, cs_P7_1 h, cs_P7_2 h, lt_t, nn_t, bd_t, bdD_t, bdP_t, nI_clamp, gi_n, nI_add, nI_1, pk_mul, b2_eq0, b2_01, nb_t, if_true, if_false, ni_le, ni_eq, ni_lt, kd_t hr.k, kd_t hs.k, f1, f2, f3, f4]
  · exact ch_t (ch_t (ch_t (ch_m c1 fun a j p => .inl p) (ch_m c2 fun a j p => .inr p)) (ch_m c3 fun a j p => .inr p)) (ch_m c4 fun a j p => .inr p)
theorem c_dropBelow (h : CS S x) (t : CT d x s) (b : BI s) {r : Nat} (hr : RWs S r 16) {acc : List Nat} (hc : cl acc) (hd : RWd d r acc) (u : Nat) : ∃ e, f_Ty_dropBelow S d (x + 1) (some r) (nI u) = some ((), e) ∧ Ch (PRw r) d e ∧ RWd e r (dpK s acc u acc.length) := by
  have hl := cl_len hc
  unfold f_Ty_dropBelow
  refine itr_q (B := f_Ty_dropBelow_B5 S (x + 1) (f_Ty_dropBelow_J51 S (x + 1))) (fun (y : gD × Nat) K => K y.1 (some r) (nI u) (nI (dpK s acc u y.2).length) (nI y.2)) (fun t => ∃ e, t = some ((), e) ∧ Ch (PRw r) d e ∧ RWd e r (dpK s acc u acc.length)) (fun k y => y.2 = k ∧ Ch (fun a _ => a = r + 1) d y.1 ∧ Row y.1 (r + 1) 0 (dpK s acc u k) ∧ ∀ i, k ≤ i → i < acc.length → dI y.1 (r + 1) i = nI (acc.getD i 0)) acc.length (by omega) ?_ ?_ (x := (d, 0)) ⟨rfl, ch_r, row_n, fun i _ hi => by have := hd.2 i hi; rwa [Nat.zero_add] at this⟩
  · rintro k hkk ⟨e, k'⟩ ⟨rfl, hce, hre, hrest⟩ K hK
    simp only at hkk hce hre hrest hK ⊢
    have te := ct_ch t hce (fun q => by have := cs_K1 h; rw [q, hr.ak] at this; cases this)
    have q1 : dI e r 1 = nI acc.length := (hce.2 _ _ (by omega)).trans hd.1
    have hbk := hrest k' (Nat.le_refl _) hkk
    have hdl := (cl_dpK (s := s) (t := u) hc k' (by omega)).2
    simp (maxSteps := 1000000) (disch := omega) only [f_Ty_dropBelow_B5, f_Ty_dropBelow_J45, kd_t (cs_K0 h), cs_P0_0 h, kd_t (cs_K1 h), cs_P1_0 h, kd_t (cs_K2 h), cs_N2 h, cs_P0_1 h, kd_t (cs_K3 h), cs_N3 h, cs_P0_3 h, kd_t (cs_K4 h), cs_N4 h, cs_P0_5 h, kd_t (cs_K5 h), cs_N5 h, cs_P0_6 h, kd_t (cs_K6 h), cs_N6 h, cs_P0_8 h, kd_t (cs_K7 h), cs_N7 h, cs_P0_9 h, kd_t (cs_K8 h), cs_N8 h, cs_P0_11 h, kd_t (cs_K9 h), cs_P9_0 h, cs_P9_1 h, kd_t (cs_K10 h), cs_N10 h, cs_P9_3 h, kd_t (cs_K11 h), cs_P11_0 h, kd_t (cs_K12 h), cs_N12 h, cs_P0_12 h, kd_t (cs_K13 h), cs_P13_0 h, kd_t (cs_K14 h), cs_N14 h, cs_P13_2 h, kd_t (cs_K15 h), cs_N15 h, cs_P13_4 h, kd_t (cs_K16 h), cs_N16 h, cs_P0_16 h, kd_t (cs_K17 h), cs_N17 h, cs_P0_17 h, kd_t (cs_K18 h), cs_N18 h, cs_P7_0 h, cs_P7_1 h, cs_P7_2 h, l0_e, l0_le, l0_ge, l0_lt, l0_gt, l1_m, l1_a, l1_b, l1_s, l1_e, l1_le, l1_ge, l1_lt, l1_gt, lt_t, nn_t, bd_t, bdD_t, bdP_t, nI_clamp, gi_n, nI_add, nI_1, pk_mul, b2_eq0, b2_01, nb_t, if_true, if_false, ni_le, ni_eq, ni_lt, kd_t hr.k, kd_t hr.ak, hr.p, hr.an, q1, hbk, c_isBelow h te b]
    rw [if_neg (by omega)]
    have hst : dpK s acc u (k' + 1) = if bN s (acc.getD k' 0) u then dpK s acc u k' else dpK s acc u k' ++ [acc.getD k' 0] := rfl
    have fin := fun e' h1 h2 h3 => hK (e', k' + 1) ⟨rfl, h1, h2, h3⟩
    simp only at fin
    rw [hst] at fin
    cases q : bN s (acc.getD k' 0) u with
    | true =>
      rw [q, if_pos rfl] at fin
      unfold bN at q
      rw [if_neg (by rw [q]; decide)]
      exact fin e hce hre (fun i h1 h2 => hrest i (by omega) h2)
    | false =>
      rw [q, if_neg (by decide), List.length_append, List.length_singleton] at fin
      unfold bN at q
      rw [if_pos q]
      refine fin _ (ch_s hce rfl) (row_w0 hre (by omega) rfl) (fun i h1 h2 => ?_)
      rw [dI_wI, if_neg (by omega)]
      exact hrest i (by omega) h2
  · rintro ⟨e, k'⟩ ⟨rfl, hce, hre, hrest⟩ K
    simp only at hce hre hrest ⊢
    have q1 : dI e r 1 = nI acc.length := (hce.2 _ _ (by omega)).trans hd.1
    simp (maxSteps := 1000000) (disch := omega) only [f_Ty_dropBelow_B5, f_Ty_dropBelow_J51, kd_t (cs_K0 h), cs_P0_0 h, kd_t (cs_K1 h), cs_P1_0 h, kd_t (cs_K2 h), cs_N2 h, cs_P0_1 h, kd_t (cs_K3 h), cs_N3 h, cs_P0_3 h, kd_t (cs_K4 h), cs_N4 h, cs_P0_5 h, kd_t (cs_K5 h), cs_N5 h, cs_P0_6 h, kd_t (cs_K6 h), cs_N6 h, cs_P0_8 h, kd_t (cs_K7 h), cs_N7 h, cs_P0_9 h, kd_t (cs_K8 h), cs_N8 h, cs_P0_11 h, kd_t (cs_K9 h), cs_P9_0 h, cs_P9_1 h, kd_t (cs_K10 h), cs_N10 h, cs_P9_3 h, kd_t (cs_K11 h), cs_P11_0 h, kd_t (cs_K12 h), cs_N12 h, cs_P0_12 h, kd_t (cs_K13 h), cs_P13_0 h, kd_t (cs_K14 h), cs_N14 h, cs_P13_2 h, kd_t (cs_K15 h), cs_N15 h, cs_P13_4 h, kd_t (cs_K16 h), cs_N16 h, cs_P0_16 h, kd_t (cs_K17 h), cs_N17 h, cs_P0_17 h, kd_t (cs_K18 h), cs_N18 h, cs_P7_0 h, cs_P7_1 h, cs_P7_2 h, l0_e, l0_le, l0_ge, l0_lt, l0_gt, l1_m, l1_a, l1_b, l1_s, l1_e, l1_le, l1_ge, l1_lt, l1_gt, lt_t, nn_t, bd_t, bdD_t, bdP_t, nI_clamp, gi_n, nI_add, nI_1, pk_mul, b2_eq0, b2_01, nb_t, if_true, if_false, ni_le, ni_eq, ni_lt, kd_t hr.k, q1]
    rw [if_pos (by omega)]
    refine ⟨_, rfl, ch_s (ch_m hce fun a j p => .inr p) (.inl ⟨rfl, rfl⟩), by rw [dI_wI, if_pos ⟨rfl, rfl⟩], row_ch hre (ch_w (P := fun a j => a = r ∧ j = 1) ⟨rfl, rfl⟩) (fun i _ => by omega)⟩
theorem bo_mem {t : Nat} {l : List Nat} (h : t ∈ l) : bo s t l = true := by
  obtain ⟨i, hi, e⟩ := mem_getD h
  exact (anyb_iff _ _).mpr ⟨i, hi, by show bN s t (l.getD i 0) = true; rw [e]; exact bw_eq⟩
theorem c_fillCaught (h : CS S x) (t : CT d x s) (b : BI s) {v : Nat} (hv : SMs S v) {B : List Nat} (hB : cl B) (hd : RWd d (v + 1) B) : ∃ e, f_Dr_fillCaught S d (x + 9) (some v) = some ((), e) ∧ Ch (PRw (v + 3)) d e ∧ RWd e (v + 3) (ct s B) := by
  have hr1 := hv.r1
  have hr2 := hv.r2
  have hBl := cl_len hB
  obtain ⟨d1, f1, c1, w1⟩ := c_clear (d := d) hr2
  have sp := rw_sep hr1 hr2 (by omega)
  have x1 := rw_x1 h hr2
  have g1 := rwd_ch hd c1 sp.1 (fun i _ => sp.2 i)
  have hhas := c_has hr1 (Nat.le_refl _) g1 hBl (fun t ht => by have := hB.2 t ht; omega) (t := 8) (by omega)
  rw [show nI 8 = 8 from rfl] at hhas
  by_cases q : 8 ∈ B
  · refine ⟨d1, ?_, c1, ?_⟩
    · simp (maxSteps := 1000000) (disch := omega) only [f_Dr_fillCaught, kd_t (cs_K0 h), cs_P0_0 h, kd_t (cs_K1 h), cs_P1_0 h, kd_t (cs_K2 h), cs_N2 h, cs_P0_1 h, kd_t (cs_K3 h), cs_N3 h, cs_P0_3 h, kd_t (cs_K4 h), cs_N4 h, cs_P0_5 h, kd_t (cs_K5 h), cs_N5 h, cs_P0_6 h, kd_t (cs_K6 h), cs_N6 h, cs_P0_8 h, kd_t (cs_K7 h), cs_N7 h, cs_P0_9 h, kd_t (cs_K8 h), cs_N8 h, cs_P0_11 h, kd_t (cs_K9 h), cs_P9_0 h, cs_P9_1 h, kd_t (cs_K10 h), cs_N10 h, cs_P9_3 h, kd_t (cs_K11 h), cs_P11_0 h, kd_t (cs_K12 h), cs_N12 h, cs_P0_12 h, kd_t (cs_K13 h), cs_P13_0 h, kd_t (cs_K14 h), cs_N14 h, cs_P13_2 h, kd_t (cs_K15 h), cs_N15 h, cs_P13_4 h, kd_t (cs_K16 h), cs_N16 h, cs_P0_16 h, kd_t (cs_K17 h), cs_N17 h, cs_P0_17 h, kd_t (cs_K18 h), cs_N18 h, cs_P7_0 h, cs_P7_1 h, cs_P7_2 h, l0_e, l0_le, l0_ge, l0_lt, l0_gt, l8_m, l8_a, l8_b, l8_s, l8_e, l8_le, l8_ge, l8_lt, l8_gt, l9_m, l9_a, l9_b, l9_s, l9_e, l9_le, l9_ge, l9_lt, l9_gt, l10_m, l10_a, l10_b, l10_s, l10_e, l10_le, l10_ge, l10_lt, l10_gt, lt_t, nn_t, bd_t, bdD_t, bdP_t, nI_clamp, gi_n, nI_add, nI_1, pk_mul, b2_eq0, b2_01, nb_t, if_true, if_false, ni_le, ni_eq, ni_lt, kd_t hv.k, hv.p1, hv.p2, kd_t hr1.k, kd_t hr2.k, f1, hhas]
      rw [decide_eq_true q, if_neg (by decide)]
    · unfold ct; rw [if_pos q]; exact w1
  · obtain ⟨d2, f2, c2, w2⟩ := c_add hr2 (Nat.le_refl _) w1 (Nat.zero_le _) (fun t ht => absurd ht List.not_mem_nil) (t := 9) (by omega) (fun _ => by show 0 < 16; omega)
    have hx9 : ∀ t, t ∈ adL [] 9 → t < 2 ^ 31 := by
      intro t ht
      have h9 : t = 9 := by simpa [adL] using ht
      omega
    obtain ⟨d3, f3, c3, w3⟩ := c_add hr2 (Nat.le_refl _) w2 (by show (adL [] 9).length ≤ 16; decide) hx9 (t := 10) (by omega) (fun _ => by show (adL [] 9).length < 16; decide)
    rw [show adL (adL [] 9) 10 = [9, 10] from by decide] at w3
    rw [show nI 9 = 9 from rfl] at f2
    rw [show nI 10 = 10 from rfl] at f3
    have c03 := ch_t (ch_t c1 c2) c3
    have ect : ct s B = ctK s B B.length := by unfold ct; rw [if_neg q]
    rw [ect]
    simp only [f_Dr_fillCaught, nn_t, lt_t, kd_t hv.k, hv.p1, hv.p2, kd_t hr1.k, kd_t hr2.k, f1, bdD_t, hhas, bd_t, b2_eq0, f2, f3]
    rw [decide_eq_false q, if_pos rfl]
    refine itr_q (B := f_Dr_fillCaught_B36 S (x + 9)) (fun (y : gD × Nat) K => K y.1 (some v) (some (v + 3)) (nI y.2)) (fun t => ∃ e, t = some ((), e) ∧ Ch (PRw (v + 3)) d e ∧ RWd e (v + 3) (ctK s B B.length)) (fun k y => y.2 = k ∧ Ch (PRw (v + 3)) d y.1 ∧ RWd y.1 (v + 3) (ctK s B k)) B.length (by omega) ?_ ?_ (x := (d3, 0)) ⟨rfl, c03, w3⟩
    · rintro k hk ⟨e, k'⟩ ⟨rfl, hc, hw⟩ K hK
      simp only at hk hc hw hK ⊢
      have ge := rwd_ch hd hc sp.1 (fun i _ => sp.2 i)
      have te := ct_ch t hc x1
      have hcl := cl_ctK (s := s) hB k' (by omega)
      have hm := hB.2 _ (getD_mem hk)
      have hat := c_at hr1 (Nat.le_refl _) ge hBl (i := k') (by omega)
      obtain ⟨e2, fd, cd, wd⟩ := c_dropBelow h te b hr2 hcl hw (B.getD k' 0)
      have hcd := (cl_dpK (s := s) (t := B.getD k' 0) hcl _ (Nat.le_refl _)).1
      have hnm : bo s (B.getD k' 0) (ctK s B k') = false → B.getD k' 0 ∉ dpK s (ctK s B k') (B.getD k' 0) (ctK s B k').length := by
        intro hb hmm
        obtain ⟨i, hi, e0⟩ := dpK_mem _ hmm
        rw [bo_mem (e0 ▸ getD_mem hi)] at hb
        exact absurd hb (by decide)
      have hst : ctK s B (k' + 1) = ct1 s (ctK s B k') (B.getD k' 0) := rfl
      have e8 : (8 : Int32) = nI 8 := rfl
      simp (maxSteps := 1000000) (disch := omega) only [f_Dr_fillCaught_B36, f_Dr_fillCaught_J100, kd_t (cs_K0 h), cs_P0_0 h, kd_t (cs_K1 h), cs_P1_0 h, kd_t (cs_K2 h), cs_N2 h, cs_P0_1 h, kd_t (cs_K3 h), cs_N3 h, cs_P0_3 h, kd_t (cs_K4 h), cs_N4 h, cs_P0_5 h, kd_t (cs_K5 h), cs_N5 h, cs_P0_6 h, kd_t (cs_K6 h), cs_N6 h, cs_P0_8 h, kd_t (cs_K7 h), cs_N7 h, cs_P0_9 h, kd_t (cs_K8 h), cs_N8 h, cs_P0_11 h, kd_t (cs_K9 h), cs_P9_0 h, cs_P9_1 h, kd_t (cs_K10 h), cs_N10 h, cs_P9_3 h, kd_t (cs_K11 h), cs_P11_0 h, kd_t (cs_K12 h), cs_N12 h, cs_P0_12 h, kd_t (cs_K13 h), cs_P13_0 h, kd_t (cs_K14 h), cs_N14 h, cs_P13_2 h, kd_t (cs_K15 h), cs_N15 h, cs_P13_4 h, kd_t (cs_K16 h), cs_N16 h, cs_P0_16 h, kd_t (cs_K17 h), cs_N17 h, cs_P0_17 h, kd_t (cs_K18 h), cs_N18 h, cs_P7_0 h, cs_P7_1 h, cs_P7_2 h, l0_e, l0_le, l0_ge, l0_lt, l0_gt, l1_m, l1_a, l1_b, l1_s, l1_e, l1_le, l1_ge, l1_lt, l1_gt, l8_m, l8_a, l8_b, l8_s, l8_e, l8_le, l8_ge, l8_lt, l8_gt, lt_t, nn_t, bd_t, bdD_t, bdP_t, nI_clamp, gi_n, nI_add, nI_1, pk_mul, b2_eq0, b2_01, nb_t, if_true, if_false, ni_le, ni_eq, ni_lt, kd_t hv.k, hv.p1, kd_t hr1.k, kd_t hr2.k, ge.1, hat, c_isBelow h te b, c_isBelowOneOf h te b hr2 (Nat.le_refl _) hw (cl_len hcl), fd]
      rw [if_neg (by omega)]
      cases q1 : bw s (nI (B.getD k' 0)) 8 with
      | false =>
        rw [if_pos rfl]
        refine hK (e, k' + 1) ⟨rfl, hc, ?_⟩
        rw [hst]; unfold ct1; rw [show bN s (B.getD k' 0) 8 = false from q1, if_pos (by simp)]; exact hw
      | true =>
        rw [if_neg (by decide)]
        cases q2 : bo s (B.getD k' 0) (ctK s B k') with
        | true =>
          rw [if_neg (by decide)]
          refine hK (e, k' + 1) ⟨rfl, hc, ?_⟩
          rw [hst]; unfold ct1; rw [q2, if_pos (by simp)]; exact hw
        | false =>
          rw [if_pos rfl]
          have hn := hnm q2
          obtain ⟨e3, fa, ca, wa⟩ := c_add hr2 (Nat.le_refl _) wd (cl_len hcd) (fun t ht => by have := hcd.2 t ht; omega) (t := B.getD k' 0) (by omega) (fun n => cl_lt hcd n hm.1 hm.2)
          rw [fa, bdD_t]
          refine hK (e3, k' + 1) ⟨rfl, ch_t (ch_t hc cd) ca, ?_⟩
          rw [hst]; unfold ct1
          rw [q2, show bN s (B.getD k' 0) 8 = true from q1, if_neg (by decide)]
          unfold adL at wa
          rw [if_neg hn] at wa
          exact wa
    · rintro ⟨e, k'⟩ ⟨rfl, hc, hw⟩ K
      simp only at hc hw ⊢
      have ge := rwd_ch hd hc sp.1 (fun i _ => sp.2 i)
      simp (maxSteps := 1000000) (disch := omega) only [f_Dr_fillCaught_B36, kd_t (cs_K0 h), cs_P0_0 h, kd_t (cs_K1 h), cs_P1_0 h, kd_t (cs_K2 h), cs_N2 h, cs_P0_1 h, kd_t (cs_K3 h), cs_N3 h, cs_P0_3 h, kd_t (cs_K4 h), cs_N4 h, cs_P0_5 h, kd_t (cs_K5 h), cs_N5 h, cs_P0_6 h, kd_t (cs_K6 h), cs_N6 h, cs_P0_8 h, kd_t (cs_K7 h), cs_N7 h, cs_P0_9 h, kd_t (cs_K8 h), cs_N8 h, cs_P0_11 h, kd_t (cs_K9 h), cs_P9_0 h, cs_P9_1 h, kd_t (cs_K10 h), cs_N10 h, cs_P9_3 h, kd_t (cs_K11 h), cs_P11_0 h, kd_t (cs_K12 h), cs_N12 h, cs_P0_12 h, kd_t (cs_K13 h), cs_P13_0 h, kd_t (cs_K14 h), cs_N14 h, cs_P13_2 h, kd_t (cs_K15 h), cs_N15 h, cs_P13_4 h, kd_t (cs_K16 h), cs_N16 h, cs_P0_16 h, kd_t (cs_K17 h), cs_N17 h, cs_P0_17 h, kd_t (cs_K18 h), cs_N18 h, cs_P7_0 h, cs_P7_1 h, cs_P7_2 h, l0_e, l0_le, l0_ge, l0_lt, l0_gt, l8_m, l8_a, l8_b, l8_s, l8_e, l8_le, l8_ge, l8_lt, l8_gt, lt_t, nn_t, bd_t, bdD_t, bdP_t, nI_clamp, gi_n, nI_add, nI_1, pk_mul, b2_eq0, b2_01, nb_t, if_true, if_false, ni_le, ni_eq, ni_lt, kd_t hv.k, hv.p1, kd_t hr1.k, ge.1]
      rw [if_pos (by omega)]
      exact ⟨e, rfl, hc, hw⟩
end cls
