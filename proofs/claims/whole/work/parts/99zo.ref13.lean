section ref
variable {S : gS} {d e : gD} {m : Nat} {s s' : Nat → Nat → Nat} {q : (Nat → Int64) × Int64 × (Nat → Int64) × (Nat → Int32)}
def hdOk (s : Nat → Nat → Nat) (v1 v2 : Int32) (t c : Nat) : Prop := v1 = nI c ∧ c < s 21 0 ∧ ((v2 = -1 ∧ t = 0) ∨ ∃ j, j < s 18 0 ∧ v2 = nI j ∧ (t = 0 ∨ bw s (nI (s 19 j)) 8 = true))
def upf {α : Type} (f : Nat → α) (c : Nat) (v : α) : Nat → α := fun i => if i = c then v else f i
theorem m1_lt {j : Nat} (hj : j < 2 ^ 31) : ¬ nI j < -1 ∧ ¬ nI j = -1 := by
  constructor
  · intro c; exact nI_pos hj (Int32.lt_of_lt_of_le c (by decide))
  · intro c
    have : (nI j) < 0 := by rw [c]; decide
    exact nI_pos hj this
theorem r_handler_y (h : RP S d m s q) (b : BI s) {v1 v2 : Int32} {t c : Nat} (ht : t ≤ 1) (ok : hdOk s v1 v2 t c) : ∃ e, f_R_handler S d m v1 v2 (nI t) = some (1, e) ∧ RP S e m (up2 s 27 c t) (q.1, q.2.1, q.2.2.1, upf q.2.2.2 c v2) ∧ Rf m d e := by
  obtain ⟨rfl, hc, ok⟩ := ok
  have hS := b.stands
  have hO := b.objects
  have h2 := rp_w0 (v := 0) h
  have h3 := rx_26 (p := c) (v := v2) h2.ri
  have h4 := rw_27 h3 c t
  refine ⟨wI (wI (wI d m 0 0) (m + 21) c v2) (m + 22) c (nI t), ?_, ⟨h4, h2.ov, h2.oc, h2.sn, fun i hi => ?_⟩, ?_⟩
  · have j54 : f_R_handler_J54 S m (wI d m 0 0) (nI c) v2 (nI t) = some (1, wI (wI (wI d m 0 0) (m + 21) c v2) (m + 22) c (nI t)) := by
      simp (maxSteps := 1000000) (disch := omega) only [f_R_handler_J54, kd_t h2.ri.rs.1, rs_P26 h2.ri.rs, kd_t (rs_K26 h2.ri.rs), rs_N26 h2.ri.rs, rs_P27 h2.ri.rs, kd_t (rs_K27 h2.ri.rs), rs_N27 h2.ri.rs, ri_27 h2.ri, lt_t, nn_t, bd_t, bdD_t, bdP_t, nI_clamp, gi_n, nI_add, nI_1, pk_mul, b2_eq0, b2_01, nb_t, if_true, if_false, ni_le, ni_eq, ni_lt, nar_b ht]
    rcases ok with ⟨rfl, rfl⟩ | ⟨j, hj, rfl, ok⟩
    · simp (maxSteps := 1000000) (disch := omega) only [f_R_handler, kd_t h2.ri.rs.1, rs_P19 h2.ri.rs, kd_t (rs_K19 h2.ri.rs), rs_N19 h2.ri.rs, ri_19 h2.ri, ri_18 h2.ri, lt_t, nn_t, bd_t, bdD_t, bdP_t, nI_clamp, gi_n, nI_add, nI_1, pk_mul, b2_eq0, b2_01, nb_t, if_true, if_false, ni_le, ni_eq, ni_lt, r_isStand h2.ri, c0_of b hc]
      rw [if_neg (by decide), if_neg (by decide)]
      have : (-1 : Int32) < nI (s 18 0) := Int32.lt_of_lt_of_le (show (-1 : Int32) < 0 by decide) (Int32.not_lt.mp (nI_pos (by omega)))
      rw [if_pos this, if_pos (show nI 0 = (0 : Int32) from rfl)]; exact j54
    · have mj := m1_lt (show j < 2 ^ 31 by omega)
      simp (maxSteps := 1000000) (disch := omega) only [f_R_handler, kd_t h2.ri.rs.1, rs_P19 h2.ri.rs, kd_t (rs_K19 h2.ri.rs), rs_N19 h2.ri.rs, ri_19 h2.ri, ri_18 h2.ri, lt_t, nn_t, bd_t, bdD_t, bdP_t, nI_clamp, gi_n, nI_add, nI_1, pk_mul, b2_eq0, b2_01, nb_t, if_true, if_false, ni_le, ni_eq, ni_lt, r_isStand h2.ri, c0_of b hc, mj.1, mj.2, r_isBelow h2.ri b, ni_lt]
      rw [if_neg (by decide), if_pos hj]
      rcases ok with rfl | ok
      · rw [if_pos (show nI 0 = (0 : Int32) from rfl)]; exact j54
      · rw [ok]
        by_cases q0 : nI t = 0
        · rw [if_pos q0]; exact j54
        · rw [if_neg q0, if_neg (by decide)]; exact j54
  · show dI _ (m + 21) i = upf q.2.2.2 c v2 i
    unfold upf
    rw [dI_wI, if_neg (by omega), dI_wI]
    by_cases c1 : i = c
    · rw [if_pos ⟨rfl, c1⟩, if_pos c1]
    · rw [if_neg (fun w => c1 w.2), if_neg c1]; exact h2.hd i hi
  · exact rf_t (rf_t (rf_w (by omega)) (rf_w (by omega))) (rf_w (by omega))
theorem r_handler_n (h : RP S d m s q) (b : BI s) {v1 v2 : Int32} {t : Nat} (ht : t ≤ 1) (no : ∀ c, ¬ hdOk s v1 v2 t c) : f_R_handler S d m v1 v2 (nI t) = some (0, wI d m 0 0) := by
  have hS := b.stands
  have hO := b.objects
  have h2 := rp_w0 (v := 0) h
  simp only [f_R_handler, kd_t h.ri.rs.1, lt_t, r_isStand h2.ri, bd_t, b2_eq0, ri_18 h2.ri]
  cases c1 : cIn 0 (nI (s 21 0)) v1 with
  | false => rw [if_pos rfl]
  | true =>
    rw [if_neg (by decide)]
    obtain ⟨c, -, hc, rfl⟩ := cIn_of (lo := 0) c1 (by omega) (by omega)
    have no := no c
    by_cases q1 : v2 < -1
    · rw [if_pos q1]
    · rw [if_neg q1]
      by_cases q2 : v2 < nI (s 18 0)
      · rw [if_pos q2]
        by_cases q3 : v2 = -1
        · rw [if_neg, if_pos q3]
          rw [show (0 : Int32) = nI 0 from rfl, nI_eq (by omega) (by omega)]
          exact fun e => no ⟨rfl, hc, .inl ⟨q3, e⟩⟩
        · have h0 : ¬ v2 < 0 := by
            intro c0
            rcases Int32.lt_or_eq_of_le (Int32.not_lt.mp q1) with w | w
            · have h5 : (-1 : Int32).toInt < v2.toInt := Int32.lt_iff_toInt_lt.mp w
              have h6 : v2.toInt < (0 : Int32).toInt := Int32.lt_iff_toInt_lt.mp c0
              have h7 : (-1 : Int32).toInt = -1 := by decide
              have h8 : (0 : Int32).toInt = 0 := by decide
              omega
            · exact q3 w.symm
          rcases pk_ix v2 (n := s 18 0) (by omega) with w | w | ⟨j, hj, rfl⟩
          · exact absurd w h0
          · exact absurd q2 (Int32.not_lt.mpr w)
          · have hn0 : ¬ t = 0 := fun e => no ⟨rfl, hc, .inr ⟨j, hj, rfl, .inl e⟩⟩
            have hb : bw s (nI (s 19 j)) 8 = false := by
              cases r : bw s (nI (s 19 j)) 8 with
              | false => rfl
              | true => exact absurd ⟨rfl, hc, .inr ⟨j, hj, rfl, .inr r⟩⟩ no
            rw [if_neg (by rw [show (0 : Int32) = nI 0 from rfl, nI_eq (by omega) (by omega)]; exact hn0), if_neg q3]
            simp (maxSteps := 1000000) (disch := omega) only [f_R_handler, kd_t h2.ri.rs.1, rs_P19 h2.ri.rs, kd_t (rs_K19 h2.ri.rs), rs_N19 h2.ri.rs, ri_19 h2.ri, ri_18 h2.ri, lt_t, nn_t, bd_t, bdD_t, bdP_t, nI_clamp, gi_n, nI_add, nI_1, pk_mul, b2_eq0, b2_01, nb_t, if_true, if_false, ni_le, ni_eq, ni_lt, r_isBelow h2.ri b, hb]
      · rw [if_neg q2]
theorem rp_w34 {k : Nat} {v : Int32} (h : RP S d m s q) : RP S (wI d (m + 34) k v) m s q := rp_ch h (ch_w (P := fun a _ => a = m + 34) rfl) (rx_45 h.ri) (fun c => by omega)
theorem rp_wL35 {k : Nat} {v : Int64} (h : RP S d m s q) : RP S (wL d (m + 35) k v) m s q :=
  ⟨rx_L h.ri, fun i hi => by rw [dL_wL, if_neg (by omega)]; exact h.ov i hi, by rw [dL_wL, if_neg (by omega)]; exact h.oc, fun j hj => by rw [dL_wL, if_neg (by omega)]; exact h.sn j hj, h.hd⟩
def wi (s : Nat → Nat → Nat) (v : Int64) : Bool := !decide (lg_cmp v 0 < 0) && !decide (0 ≤ lg_cmp v (Int32.toInt64 (nI (s 18 0))))
theorem wi_ix (b : BI s) {v : Int64} (h : wi s v = true) : ∃ j, j < s 18 0 ∧ v.toInt32 = nI j := by
  have hO := b.objects
  unfold wi at h
  rw [Bool.and_eq_true, Bool.not_eq_true', Bool.not_eq_true', decide_eq_false_iff_not, decide_eq_false_iff_not] at h
  exact lg_ix (by omega) h.1 h.2
noncomputable def tkO (s : Nat → Nat → Nat) (t : Nat) (v : Int64) : Bool := pln t || (decide (lg_cmp v (-1) = 0) || (wi s v && bw s (nI (s 19 v.toInt32.toNatClampNeg)) (nI t)))
def aT (s : Nat → Nat → Nat) (t : Nat) (v : Int64) : Int32 := if pln t then nI (40 + t) else if lg_cmp v (-1) = 0 then -1 else nI (s 19 v.toInt32.toNatClampNeg)
def aV (o : Nat → Int64) (t : Nat) (v : Int64) : Int64 := if pln t then fitV (nI t) v else if lg_cmp v (-1) = 0 then 0 else o v.toInt32.toNatClampNeg
def Ta (m k : Nat) (d e : gD) : Prop := (∀ a j, ¬ (a = m + 34 ∧ j = k) → dI e a j = dI d a j) ∧ ∀ a j, ¬ (a = m + 35 ∧ j = k) → dL e a j = dL d a j
theorem r_takesAs (h : RP S d m s q) (b : BI s) {k t : Nat} (hk : k < 3) (ht : t < 47) (v : Int64) : ∃ e, f_R_takesAs S d m (nI k) (nI t) v = some (b2 (tkO s t v), e) ∧ RP S e m s q ∧ Ta m k d e ∧ (tkO s t v = true → dI e (m + 34) k = aT s t v ∧ dL e (m + 35) k = aV q.1 t v) := by
  have hO := b.objects
  have h1 := rp_wL35 (k := k) (v := 0) (rp_w34 (k := k) (v := -1) h)
  have t1 : Ta m k d (wL (wI d (m + 34) k (-1)) (m + 35) k 0) := ⟨fun a j n => by rw [dI_wL, dI_wI, if_neg n], fun a j n => by rw [dL_wL, if_neg n, dL_wI]⟩
  have t2 : ∀ x y, Ta m k d (wL (wI (wL (wI d (m + 34) k (-1)) (m + 35) k 0) (m + 34) k x) (m + 35) k y) := fun x y => ⟨fun a j n => by rw [dI_wL, dI_wI, if_neg n, dI_wL, dI_wI, if_neg n], fun a j n => by rw [dL_wL, if_neg n, dL_wI, dL_wL, if_neg n, dL_wI]⟩
  unfold tkO aT aV
  cases hp : pln t with
  | true =>
    refine ⟨wL (wI (wL (wI d (m + 34) k (-1)) (m + 35) k 0) (m + 34) k (nI (40 + t))) (m + 35) k (fitV (nI t) v), ?_, rp_wL35 (rp_w34 h1), t2 _ _, fun _ => ⟨?_, ?_⟩⟩
    · simp (maxSteps := 1000000) (disch := omega) only [f_R_takesAs, kd_t h.ri.rs.1, rs_P19 h.ri.rs, kd_t (rs_K19 h.ri.rs), rs_N19 h.ri.rs, ri_19 h.ri, rs_P20 h.ri.rs, kd_t (rs_K20 h.ri.rs), rs_N20 h.ri.rs, rs_P45 h.ri.rs, kd_t (rs_K45 h.ri.rs), rs_N45 h.ri.rs, rs_P46 h.ri.rs, kd_t (rs_K46 h.ri.rs), rs_N46 h.ri.rs, ri_18 h.ri, lt_t, nn_t, bd_t, bdD_t, bdP_t, nI_clamp, gi_n, nI_add, nI_1, pk_mul, b2_eq0, b2_01, nb_t, if_true, if_false, ni_le, ni_eq, ni_lt, r_plain (show t < 2 ^ 31 by omega), hp, r_fitted, l40_b]
      rw [if_neg (by decide)]; rfl
    · rw [dI_wL, dI_wI, if_pos ⟨rfl, rfl⟩, if_pos rfl]
    · rw [dL_wL, if_pos ⟨rfl, rfl⟩, if_pos rfl]
  | false =>
    rw [Bool.false_or]
    by_cases q1 : lg_cmp v (-1) = 0
    · refine ⟨_, ?_, h1, t1, fun _ => ⟨?_, ?_⟩⟩
      · simp (maxSteps := 1000000) (disch := omega) only [f_R_takesAs, kd_t h.ri.rs.1, rs_P19 h.ri.rs, kd_t (rs_K19 h.ri.rs), rs_N19 h.ri.rs, ri_19 h.ri, rs_P20 h.ri.rs, kd_t (rs_K20 h.ri.rs), rs_N20 h.ri.rs, rs_P45 h.ri.rs, kd_t (rs_K45 h.ri.rs), rs_N45 h.ri.rs, rs_P46 h.ri.rs, kd_t (rs_K46 h.ri.rs), rs_N46 h.ri.rs, ri_18 h.ri, lt_t, nn_t, bd_t, bdD_t, bdP_t, nI_clamp, gi_n, nI_add, nI_1, pk_mul, b2_eq0, b2_01, nb_t, if_true, if_false, ni_le, ni_eq, ni_lt, r_plain (show t < 2 ^ 31 by omega), hp]
        rw [if_pos q1, decide_eq_true q1]; rfl
      · rw [dI_wL, dI_wI, if_pos ⟨rfl, rfl⟩, if_neg (by decide), if_pos q1]
      · rw [dL_wL, if_pos ⟨rfl, rfl⟩, if_neg (by decide), if_pos q1]
    · rw [decide_eq_false q1, Bool.false_or]
      cases hw : wi s v with
      | false =>
        refine ⟨_, ?_, h1, t1, fun c => absurd c (by simp)⟩
        have hw' : lg_cmp v 0 < 0 ∨ 0 ≤ lg_cmp v (Int32.toInt64 (nI (s 18 0))) := by
          unfold wi at hw
          rw [Bool.and_eq_false_iff, Bool.not_eq_false', Bool.not_eq_false', decide_eq_true_iff, decide_eq_true_iff] at hw
          exact hw
        simp (disch := omega) only [f_R_takesAs, kd_t h.ri.rs.1, lt_t, rs_P45 h.ri.rs, rs_P46 h.ri.rs, nn_t, kd_t (rs_K45 h.ri.rs), kd_t (rs_K46 h.ri.rs), rs_N45 h.ri.rs, rs_N46 h.ri.rs, gi_n, nI_clamp, r_plain (show t < 2 ^ 31 by omega), bd_t, b2_eq0, hp, if_true, ri_18 h1.ri]
        rw [if_neg q1, Bool.false_and]
        by_cases q2 : lg_cmp v 0 < 0
        · rw [if_pos q2]; rfl
        · rw [if_neg q2, if_pos (hw'.resolve_left q2)]; rfl
      | true =>
        obtain ⟨j, hj, ej⟩ := wi_ix b hw
        have hw' : ¬ lg_cmp v 0 < 0 ∧ ¬ 0 ≤ lg_cmp v (Int32.toInt64 (nI (s 18 0))) := by
          unfold wi at hw
          rw [Bool.and_eq_true, Bool.not_eq_true', Bool.not_eq_true', decide_eq_false_iff_not, decide_eq_false_iff_not] at hw
          exact hw
        rw [ej, nI_clamp (show j < 2 ^ 31 by omega), Bool.true_and]
        have hov : dL (wI (wL (wI d (m + 34) k (-1)) (m + 35) k 0) (m + 34) k (nI (s 19 j))) (m + 16) j = q.1 j := by
          rw [dL_wI, dL_wL, if_neg (by omega), dL_wI]; exact h.ov j (by omega)
        cases hb : bw s (nI (s 19 j)) (nI t) with
        | false =>
          refine ⟨_, ?_, h1, t1, fun c => absurd c (by decide)⟩
          simp (maxSteps := 1000000) (disch := omega) only [f_R_takesAs, kd_t h1.ri.rs.1, rs_P19 h1.ri.rs, kd_t (rs_K19 h1.ri.rs), rs_N19 h1.ri.rs, ri_19 h1.ri, rs_P20 h1.ri.rs, kd_t (rs_K20 h1.ri.rs), rs_N20 h1.ri.rs, rs_P45 h1.ri.rs, kd_t (rs_K45 h1.ri.rs), rs_N45 h1.ri.rs, rs_P46 h1.ri.rs, kd_t (rs_K46 h1.ri.rs), rs_N46 h1.ri.rs, ri_18 h1.ri, lt_t, nn_t, bd_t, bdD_t, bdP_t, nI_clamp, gi_n, nI_add, nI_1, pk_mul, b2_eq0, b2_01, nb_t, if_true, if_false, ni_le, ni_eq, ni_lt, r_plain (show t < 2 ^ 31 by omega), hp, ej, r_isBelow h1.ri b, hb]
          rw [if_neg q1, if_neg hw'.1, if_neg hw'.2]; rfl
        | true =>
          refine ⟨wL (wI (wL (wI d (m + 34) k (-1)) (m + 35) k 0) (m + 34) k (nI (s 19 j))) (m + 35) k (q.1 j), ?_, rp_wL35 (rp_w34 h1), t2 _ _, fun _ => ⟨?_, ?_⟩⟩
          · simp (maxSteps := 1000000) (disch := omega) only [f_R_takesAs, kd_t h1.ri.rs.1, rs_P19 h1.ri.rs, kd_t (rs_K19 h1.ri.rs), rs_N19 h1.ri.rs, ri_19 h1.ri, rs_P20 h1.ri.rs, kd_t (rs_K20 h1.ri.rs), rs_N20 h1.ri.rs, rs_P45 h1.ri.rs, kd_t (rs_K45 h1.ri.rs), rs_N45 h1.ri.rs, rs_P46 h1.ri.rs, kd_t (rs_K46 h1.ri.rs), rs_N46 h1.ri.rs, ri_18 h1.ri, lt_t, nn_t, bd_t, bdD_t, bdP_t, nI_clamp, gi_n, nI_add, nI_1, pk_mul, b2_eq0, b2_01, nb_t, if_true, if_false, ni_le, ni_eq, ni_lt, r_plain (show t < 2 ^ 31 by omega), hp, ej, r_isBelow h1.ri b, hb, hov]
            rw [if_neg q1, if_neg hw'.1, if_neg hw'.2, if_neg (by decide)]; rfl
          · rw [dI_wL, dI_wI, if_pos ⟨rfl, rfl⟩, if_neg (by decide), if_neg q1]
          · rw [dL_wL, if_pos ⟨rfl, rfl⟩, if_neg (by decide), if_neg q1]
noncomputable def fitC (s : Nat → Nat → Nat) (q : (Nat → Int64) × Int64 × (Nat → Int64) × (Nat → Int32)) (c : Nat) (p : Nat × List Nat) : Int32 :=
  if s 27 c = 0 then (if s 14 p.1 = 0 then 0 else if pln (s 14 p.1) then (if q.2.2.2 c = -1 then 2 else if s 19 (q.2.2.2 c).toNatClampNeg = 40 + s 14 p.1 then 1 else 3) else if q.2.2.2 c < 0 then 1 else if bw s (nI (s 19 (q.2.2.2 c).toNatClampNeg)) (nI (s 14 p.1)) then 1 else 3) else if (ct s p.2).length = 0 ∨ bo s (s 19 (q.2.2.2 c).toNatClampNeg) (ct s p.2) = true then 4 else 5
noncomputable def fitO (s : Nat → Nat → Nat) (q : (Nat → Int64) × Int64 × (Nat → Int64) × (Nat → Int32)) (c : Nat) (p : Nat × List Nat) : Int64 :=
  if s 27 c = 0 then (if s 14 p.1 = 0 then -1 else if pln (s 14 p.1) then (if q.2.2.2 c = -1 then -1 else if s 19 (q.2.2.2 c).toNatClampNeg = 40 + s 14 p.1 then q.1 (q.2.2.2 c).toNatClampNeg else -1) else if q.2.2.2 c < 0 then Int32.toInt64 (q.2.2.2 c) else if bw s (nI (s 19 (q.2.2.2 c).toNatClampNeg)) (nI (s 14 p.1)) then Int32.toInt64 (q.2.2.2 c) else -1) else Int32.toInt64 (q.2.2.2 c)
theorem rp_wL43 {v : Int64} (h : RP S d m s q) : RP S (wL d m 43 v) m s (q.1, v, q.2.2) :=
  ⟨rx_L h.ri, fun i hi => by rw [dL_wL, if_neg (by omega)]; exact h.ov i hi, by rw [dL_wL, if_pos ⟨rfl, rfl⟩], fun j hj => by rw [dL_wL, if_neg (by omega)]; exact h.sn j hj, h.hd⟩
theorem rf_wL {a k : Nat} {v : Int64} (h : m ≤ a ∧ a ≤ m + 35) : Rf m d (wL d a k v) := fun b j n => ⟨rfl, by rw [dL_wL, if_neg (by omega)]⟩
theorem rf_43 {v : Int64} : Rf m d (wL d m 43 v) := rf_wL (by omega)
theorem r_fit_64 (h : RP S d m s q) (b : BI s) {jo : Nat} (hj : jo < s 18 0) {l : List Nat} (hc : cl l) (hr : CR d m l) {u : Bool} {z : gD → Int32 → Int32 → Int32 → Option (Int32 × gD)} : itr (f_R_fit_B64 S m (f_R_fit_J102 S m)) z fu d (nI jo) (b2 u) 0 = some (if (u || bo s (s 19 jo) l) = true then 4 else 5, d) := by
  have hl := cl_len hc
  have hO := b.objects
  have e0 : b2 u = b2 (u || anyb (fun i => bN s (s 19 jo) (l.getD i 0)) 0) := by rw [anyb_0, Bool.or_false]
  have key : (fun (k : Nat) (K : gD → Int32 → Int32 → Int32 → Option (Int32 × gD)) => K d (nI jo) (b2 (u || anyb (fun i => bN s (s 19 jo) (l.getD i 0)) k)) (nI k)) 0 (itr (f_R_fit_B64 S m (f_R_fit_J102 S m)) z fu) = some (if (u || bo s (s 19 jo) l) = true then 4 else 5, d) := by
    refine itr_0 (B := f_R_fit_B64 S m (f_R_fit_J102 S m)) (fun k K => K d (nI jo) (b2 (u || anyb (fun i => bN s (s 19 jo) (l.getD i 0)) k)) (nI k)) _ l.length (by omega) ?_ ?_
    · intro k hk K hK
      have hb := hr.2 k hk
      rw [Nat.zero_add] at hb
      simp (maxSteps := 1000000) (disch := omega) only [f_R_fit_B64, f_R_fit_J96, kd_t h.ri.rs.1, rs_P19 h.ri.rs, kd_t (rs_K19 h.ri.rs), rs_N19 h.ri.rs, ri_19 h.ri, rs_P38 h.ri.rs, kd_t (rs_K38 h.ri.rs), rs_N38 h.ri.rs, lt_t, nn_t, bd_t, bdD_t, bdP_t, nI_clamp, gi_n, nI_add, nI_1, pk_mul, b2_eq0, b2_01, nb_t, if_true, if_false, ni_le, ni_eq, ni_lt, hr.1, hb, r_isBelow h.ri b]
      rw [if_neg (by omega)]
      rw [anyb_s] at hK
      cases w : bN s (s 19 jo) (l.getD k 0) with
      | false =>
        rw [w, Bool.or_false] at hK
        unfold bN at w
        rw [if_pos w]; exact hK
      | true =>
        rw [w, Bool.or_true, Bool.or_true] at hK
        unfold bN at w
        rw [if_neg (by rw [w]; decide)]; exact hK
    · intro K
      simp (maxSteps := 1000000) (disch := omega) only [f_R_fit_B64, f_R_fit_J102, kd_t h.ri.rs.1, rs_P19 h.ri.rs, kd_t (rs_K19 h.ri.rs), rs_N19 h.ri.rs, ri_19 h.ri, rs_P38 h.ri.rs, kd_t (rs_K38 h.ri.rs), rs_N38 h.ri.rs, lt_t, nn_t, bd_t, bdD_t, bdP_t, nI_clamp, gi_n, nI_add, nI_1, pk_mul, b2_eq0, b2_01, nb_t, if_true, if_false, ni_le, ni_eq, ni_lt, hr.1]
      rw [if_pos (Nat.le_refl _)]
      show (if (u || bo s (s 19 jo) l) = false then _ else _) = _
      cases (u || bo s (s 19 jo) l) <;> rfl
  rw [e0]
  exact key
theorem r_fit (h : RP S d m s q) (b : BI s) {fl : List (Nat × List Nat)} (hf : FR d m fl) (hg : gf fl) (hl : fl.length ≤ 80) {j c : Nat} (hj : j < fl.length) (hc : c < s 21 0) (hh : q.2.2.2 c = -1 ∧ s 27 c = 0 ∨ ∃ jo, jo < s 18 0 ∧ q.2.2.2 c = nI jo) : ∃ e, f_R_fit S d m (nI c) (nI j) = some (fitC s q c (fl.getD j df), e) ∧ RP S e m s (q.1, fitO s q c (fl.getD j df), q.2.2) ∧ Rf m d e ∧ dI e m 0 = dI d m 0 := by
  have hS := b.stands
  have hO := b.objects
  have hgj := hg j hj
  have hfj := (hf.2 j hj).1
  have hd0 := h.hd c (by omega)
  have h2 := rp_wL43 (v := -1) h
  have h5 : ∀ v, RP S (wL (wL d m 43 (-1)) m 43 v) m s (q.1, v, q.2.2) := fun v => rp_wL43 (q := (q.1, -1, q.2.2)) h2
  have hr := b.resT (fl.getD j df).1
  have h27 : s 27 c < 2 ^ 31 := b.lt 27 c
  unfold fitC fitO
  by_cases q27 : s 27 c = 0
  · rw [if_pos q27, if_pos q27]
    have ev0 : ∀ R, (if s 14 (fl.getD j df).1 = 0 then some ((0 : Int32), wL d m 43 (-1)) else bd (f_R_isPlain S (wL d m 43 (-1)) (nI (s 14 (fl.getD j df).1))) fun x23 => if x23 = 0 then (if q.2.2.2 c < 0 then f_R_fit_J184 S m (wL d m 43 (-1)) (q.2.2.2 c) else lt_ (sP S m 19) fun x25 => nn x25 fun a26 => kd S a26 50 <| gi (q.2.2.2 c) (sN S a26) <| lt_ (dI (wL d m 43 (-1)) a26 (q.2.2.2 c).toNatClampNeg) fun x29 => bd (f_R_isBelow S (wL d m 43 (-1)) m x29 (nI (s 14 (fl.getD j df).1))) fun x30 => if x30 = 0 then some (3, wL d m 43 (-1)) else f_R_fit_J184 S m (wL d m 43 (-1)) (q.2.2.2 c)) else if q.2.2.2 c = (-1) then some (2, wL d m 43 (-1)) else lt_ (sP S m 19) fun x34 => nn x34 fun a35 => kd S a35 50 <| gi (q.2.2.2 c) (sN S a35) <| lt_ (dI (wL d m 43 (-1)) a35 (q.2.2.2 c).toNatClampNeg) fun x38 => if x38 = (40 + nI (s 14 (fl.getD j df).1)) then lt_ (sP S m 20) fun x39 => nn x39 fun a40 => kd S a40 51 <| gi (q.2.2.2 c) (sN S a40) <| lt_ (dL (wL d m 43 (-1)) a40 (q.2.2.2 c).toNatClampNeg) fun x43 => lt_ (wL (wL d m 43 (-1)) m 43 x43) fun d44 => some (1, d44) else some (3, wL d m 43 (-1))) = R → f_R_fit S d m (nI c) (nI j) = R := by
      intro R hR
      rw [← hR]
      simp (maxSteps := 1000000) (disch := omega) only [f_R_fit, kd_t h.ri.rs.1, lt_t, rs_P26 h.ri.rs, nn_t, kd_t (rs_K26 h.ri.rs), rs_N26 h.ri.rs, gi_n, nI_clamp, hd0, rs_P14 h.ri.rs, rs_P32 h.ri.rs, kd_t (rs_K32 h.ri.rs), rs_N32 h.ri.rs, hfj, kd_t (rs_K14 h.ri.rs), rs_N14 h.ri.rs, ri_14 h.ri, rs_P27 h.ri.rs, kd_t (rs_K27 h.ri.rs), rs_N27 h.ri.rs, ri_27 h2.ri, l0_e]
      rw [if_pos q27]
    by_cases r0 : s 14 (fl.getD j df).1 = 0
    · rw [if_pos r0, if_pos r0]
      exact ⟨_, ev0 _ (by rw [if_pos r0]), h2, rf_43, rfl⟩
    · rw [if_neg r0, if_neg r0]
      cases hp : pln (s 14 (fl.getD j df).1) with
      | true =>
        rw [if_pos rfl, if_pos rfl]
        rcases hh with ⟨e1, -⟩ | ⟨jo, h1, e1⟩
        · rw [e1, if_pos rfl, if_pos rfl]
          refine ⟨_, ev0 _ ?_, h2, rf_43, rfl⟩
          rw [if_neg r0, r_plain (by omega), bd_t, hp, if_neg (by decide), e1, if_pos rfl]
        · have mj := m1_lt (show jo < 2 ^ 31 by omega)
          have hot := b.lt 19 jo
          rw [e1, if_neg mj.2, if_neg mj.2, nI_clamp (show jo < 2 ^ 31 by omega)]
          have hov : dL (wL d m 43 (-1)) (m + 16) jo = q.1 jo := by rw [dL_wL, if_neg (by omega)]; exact h.ov jo (by omega)
          by_cases r1 : s 19 jo = 40 + s 14 (fl.getD j df).1
          · rw [if_pos r1, if_pos r1]
            refine ⟨_, ev0 _ ?_, h5 _, rf_t rf_43 rf_43, rfl⟩
            rw [if_neg r0, r_plain (by omega), bd_t, hp, if_neg (by decide), e1, if_neg mj.2]
            simp (disch := omega) only [lt_t, rs_P19 h.ri.rs, nn_t, kd_t (rs_K19 h.ri.rs), rs_N19 h.ri.rs, gi_n, nI_clamp, ri_19 h2.ri, l40_b, ni_eq, rs_P20 h.ri.rs, kd_t (rs_K20 h.ri.rs), rs_N20 h.ri.rs, hov]
            rw [if_pos r1]
          · rw [if_neg r1, if_neg r1]
            refine ⟨_, ev0 _ ?_, h2, rf_43, rfl⟩
            rw [if_neg r0, r_plain (by omega), bd_t, hp, if_neg (by decide), e1, if_neg mj.2]
            simp (disch := omega) only [lt_t, rs_P19 h.ri.rs, nn_t, kd_t (rs_K19 h.ri.rs), rs_N19 h.ri.rs, gi_n, nI_clamp, ri_19 h2.ri, l40_b, ni_eq]
            rw [if_neg r1]
      | false =>
        rw [if_neg Bool.false_ne_true, if_neg Bool.false_ne_true]
        have j184 : ∀ v, f_R_fit_J184 S m (wL d m 43 (-1)) v = some (1, wL (wL d m 43 (-1)) m 43 (Int32.toInt64 v)) := by
          intro v
          simp only [f_R_fit_J184, kd_t h.ri.rs.1, lt_t]
        rcases hh with ⟨e1, -⟩ | ⟨jo, h1, e1⟩
        · rw [e1, if_pos (show (-1 : Int32) < 0 by decide), if_pos (show (-1 : Int32) < 0 by decide)]
          refine ⟨_, ev0 _ ?_, h5 _, rf_t rf_43 rf_43, rfl⟩
          rw [if_neg r0, r_plain (by omega), bd_t, hp, if_pos (show b2 false = 0 from rfl), e1, if_pos (show (-1 : Int32) < 0 by decide), j184]
        · have mj := nI_pos (show jo < 2 ^ 31 by omega)
          rw [e1, if_neg mj, if_neg mj, nI_clamp (show jo < 2 ^ 31 by omega)]
          have ev1 : f_R_fit S d m (nI c) (nI j) = if b2 (bw s (nI (s 19 jo)) (nI (s 14 (fl.getD j df).1))) = 0 then some (3, wL d m 43 (-1)) else some (1, wL (wL d m 43 (-1)) m 43 (Int32.toInt64 (nI jo))) := by
            apply ev0
            rw [if_neg r0, r_plain (by omega), bd_t, hp, if_pos (show b2 false = 0 from rfl), e1, if_neg mj, j184]
            simp (disch := omega) only [lt_t, rs_P19 h.ri.rs, nn_t, kd_t (rs_K19 h.ri.rs), rs_N19 h.ri.rs, gi_n, nI_clamp, ri_19 h2.ri, r_isBelow h2.ri b, bd_t]
          cases hb : bw s (nI (s 19 jo)) (nI (s 14 (fl.getD j df).1)) with
          | true =>
            rw [hb, if_neg (by decide)] at ev1
            rw [if_pos rfl, if_pos rfl]
            exact ⟨_, ev1, h5 _, rf_t rf_43 rf_43, rfl⟩
          | false =>
            rw [hb, if_pos (show b2 false = 0 from rfl)] at ev1
            rw [if_neg Bool.false_ne_true, if_neg Bool.false_ne_true]
            exact ⟨_, ev1, h2, rf_43, rfl⟩
  · rw [if_neg q27, if_neg q27]
    rcases hh with ⟨-, e1⟩ | ⟨jo, h1, e1⟩
    · exact absurd e1 q27
    · rw [e1, nI_clamp (show jo < 2 ^ 31 by omega)]
      have h3 := h5 (Int32.toInt64 (nI jo))
      have hf3 : FR (wL (wL d m 43 (-1)) m 43 (Int32.toInt64 (nI jo))) m fl := hf
      obtain ⟨e, fe, ce, we⟩ := r_catchFor h3.ri b hf3 hg hl hj
      have he := rp_ch h3 ce (ri_PC h3.ri ce) pc_21
      have lc := cl_len (cl_ct (s := s) hgj.2)
      have cc := cl_ct (s := s) hgj.2
      refine ⟨e, ?_, he, rf_t (rf_t rf_43 rf_43) (rf_PC ce), (ce.2 _ _ (by unfold PC; omega))⟩
      simp (maxSteps := 1000000) (disch := omega) only [f_R_fit, kd_t h.ri.rs.1, lt_t, rs_P26 h.ri.rs, nn_t, kd_t (rs_K26 h.ri.rs), rs_N26 h.ri.rs, gi_n, nI_clamp, hd0, rs_P14 h.ri.rs, rs_P32 h.ri.rs, kd_t (rs_K32 h.ri.rs), rs_N32 h.ri.rs, hfj, kd_t (rs_K14 h.ri.rs), rs_N14 h.ri.rs, ri_14 h.ri, rs_P27 h.ri.rs, kd_t (rs_K27 h.ri.rs), rs_N27 h.ri.rs, ri_27 h2.ri, l0_e, e1, fe, bdD_t, we.1, f_R_fit_J59]
      rw [if_neg q27]
      by_cases r0 : (ct s (fl.getD j df).2).length = 0
      · have w := r_fit_64 (u := true) (z := fun _ _ _ _ => none) he b h1 cc we
        rw [show b2 true = 1 from rfl] at w
        rw [if_pos r0, w, if_pos (by rfl), if_pos (.inl r0)]
      · have w := r_fit_64 (u := false) (z := fun _ _ _ _ => none) he b h1 cc we
        rw [show b2 false = 0 from rfl, Bool.false_or] at w
        rw [if_neg r0, w]
        cases hb : bo s (s 19 jo) (ct s (fl.getD j df).2) with
        | true => rw [if_pos rfl, if_pos (.inr rfl)]
        | false => rw [if_neg Bool.false_ne_true, if_neg (fun w => w.elim r0 (fun c => absurd c Bool.false_ne_true))]
end ref
