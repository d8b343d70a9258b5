theorem bd_asc {α β γ : Type} (a : Option (α × gD)) (f : α → gD → Option (β × gD)) (g : β → gD → Option γ) : bdD (bdD a f) g = bdD a (fun u e => bdD (f u e) g) := by
  cases a with
  | none => rfl
  | some q => rfl
section em
variable {S : gS} {d : gD} {x : Nat} {I : gD → Prop} {s : Nat → Nat → Nat} {A : Nat → Nat → Nat}
theorem em_res (hI : cI x I) (h : CS S x) {r : Nat} (hr : r < 47) : Em x I (fun d => f_Uw_putResultCode S d (x + 13) (nI r)) (rsT r) := by
  have hpl : ∀ e', f_M_isPlain S e' (nI r) = some (b2 (pln r)) := fun e' => c_pl (by omega)
  unfold rsT
  by_cases q : r = 0
  · rw [if_pos q]
    refine em_eq (g := fun d => bdD (f_Uw_put S d (x + 13) 12) fun _ e => bdD (f_Uw_put S e (x + 13) 16) fun _ e => some ((), e)) (fun d _ => ?_) (em_bd hI (em_put h (v := 12) rfl) (em_cg ?_ (em_bd hI (em_put h (v := 16) rfl) em_nil)))
    · simp only [f_Uw_putResultCode, l0_e r (by omega), if_pos q, kd_t (cs_K13 h)]
    · rfl
  · rw [if_neg q]
    cases hp : pln r with
    | true =>
      refine em_eq (g := fun d => bdD (f_Uw_put S d (x + 13) 13) fun _ e => bdD (f_Uw_putType S e (x + 13) (nI (40 + r))) fun _ e => bdD (f_Uw_put S e (x + 13) 14) fun _ e => bdD (f_Uw_put S e (x + 13) (nI r)) fun _ e => bdD (f_Uw_put S e (x + 13) 15) fun _ e => some ((), e)) (fun d _ => ?_) (em_cg ?_ (em_bd hI (em_put h (v := 13) rfl) (em_bd hI (em_type h (t := 40 + r) (by unfold pln at hp; simp at hp; omega) rfl) (em_bd hI (em_put h (v := 14) rfl) (em_bd hI (em_put h (v := r) rfl) (em_bd hI (em_put h (v := 15) rfl) em_nil))))))
      · simp only [f_Uw_putResultCode, f_Uw_putResultCode_J39, f_Uw_putResultCode_J60, l0_e r (show r < 2 ^ 31 by omega), if_neg q, kd_t (cs_K13 h), hpl, bd_t, b2_eq0, hp, Bool.true_eq_false, if_false, nn_t, l40_a, Nat.add_comm r 40]
      · rfl
    | false =>
      refine em_eq (g := fun d => bdD (f_Uw_put S d (x + 13) 13) fun _ e => bdD (f_Uw_putType S e (x + 13) (nI r)) fun _ e => bdD (f_Uw_put S e (x + 13) 15) fun _ e => some ((), e)) (fun d _ => ?_) (em_cg ?_ (em_bd hI (em_put h (v := 13) rfl) (em_bd hI (em_type h (t := r) hr rfl) (em_bd hI (em_put h (v := 15) rfl) em_nil))))
      · simp only [f_Uw_putResultCode, f_Uw_putResultCode_J39, f_Uw_putResultCode_J60, l0_e r (show r < 2 ^ 31 by omega), if_neg q, kd_t (cs_K13 h), hpl, bd_t, b2_eq0, hp, if_true, nn_t]
      · rfl
theorem em_code (hI : cI x I) (h : CS S x) (b : BI s) {y : Nat} (hy : vx s y) (ho : ∀ d, I d → OM S d x s (A 1 y) y) (c : List Nat) : Em x I (fun d => f_Uw_putCode S d (x + 13) (some (A 1 y)) (b2 (decide (0 < c.length)))) (cdT s y c) := by
  have hr := b.resT y
  have tail : Em x I (fun d => f_Uw_putCode_J53 S (x + 13) d (some (A 1 y)) (b2 (decide (0 < c.length)))) ([(0, 11, 0)] ++ (rsT (s 14 y) ++ (if c.length ≤ 0 then [] else [(0, 17, 0), (0, 18, 0)]))) := by
    refine em_eq (g := fun d => bdD (f_Uw_put S d (x + 13) 11) fun _ e => nn (some (A 1 y)) fun a5 => kd S a5 5 <| lt_ (dI e a5 4) fun x7 => bdD (f_Uw_putResultCode S e (x + 13) x7) fun _ d10 => if b2 (decide (0 < c.length)) = 0 then some ((), d10) else bdD (f_Uw_put S d10 (x + 13) 17) fun _ d13 => bdD (f_Uw_put S d13 (x + 13) 18) fun _ d16 => some ((), d16)) (fun d _ => ?_) (em_bd hI (em_put h (v := 11) rfl) (em_eq (g := fun e => bdD (f_Uw_putResultCode S e (x + 13) (nI (s 14 y))) fun _ d10 => if b2 (decide (0 < c.length)) = 0 then some ((), d10) else bdD (f_Uw_put S d10 (x + 13) 17) fun _ d13 => bdD (f_Uw_put S d13 (x + 13) 18) fun _ d16 => some ((), d16)) (fun e i => ?_) (em_bd hI (em_res hI h hr) ?_)))
    · simp only [f_Uw_putCode_J53, kd_t (cs_K13 h)]
    · simp only [nn_t, kd_t (ho e i).k, lt_t, (ho e i).g4]
    · by_cases q : 0 < c.length
      · rw [if_neg (by omega)]
        refine em_eq (g := fun d10 => bdD (f_Uw_put S d10 (x + 13) 17) fun _ d13 => bdD (f_Uw_put S d13 (x + 13) 18) fun _ d16 => some ((), d16)) (fun e _ => ?_) (em_cg ?_ (em_bd hI (em_put h (v := 17) rfl) (em_bd hI (em_put h (v := 18) rfl) em_nil)))
        · rw [decide_eq_true q, if_neg (by decide)]
        · rfl
      · rw [if_pos (by omega)]
        refine em_eq (g := fun d10 => some ((), d10)) (fun e _ => ?_) em_nil
        rw [decide_eq_false q, if_pos (show b2 false = 0 from rfl)]
  have head : ∀ (G : gD → Option (Unit × gD)) (L : List (Nat × Nat × Nat)), Em x I G L → Em x I (fun d => bdD (f_Uw_put S d (x + 13) 1) fun _ e => bdD (f_Uw_put S e (x + 13) 2) fun _ e => bdD (f_Uw_put S e (x + 13) 3) fun _ e => bdD (f_Uw_putMethodEntry S e (x + 13) (some (A 1 y))) fun _ e => G e) ([(0, 1, 0)] ++ ([(0, 2, 0)] ++ ([(0, 3, 0)] ++ ([(2, ow y, nu y)] ++ L)))) := by
    intro G L hG
    exact em_bd hI (em_put h (v := 1) rfl) (em_bd hI (em_put h (v := 2) rfl) (em_bd hI (em_put h (v := 3) rfl) (em_bd hI (em_mentry h b hy ho) hG)))
  have hpc : ∀ e, I e → f_Om_parameterCount S e (A 1 y) = some (nI (tc s y)) := by
    intro e i
    have o := ho e i
    simp only [f_Om_parameterCount, kd_t o.k, lt_t, o.g3, c_lengthOf, bd_t, pkp_ln b hy]
  have mid : Em x I (fun d13 => nn (some (A 1 y)) fun a14 => kd S a14 5 <| lt_ (dI d13 a14 3) fun x16 => if x16 = 0 then (bdD (f_Uw_put S d13 (x + 13) 4) fun _ d30 => f_Uw_putCode_J53 S (x + 13) d30 (some a14) (b2 (decide (0 < c.length)))) else (bdD (f_Uw_put S d13 (x + 13) 5) fun _ d19 => bd (f_Om_parameterCount S d19 a14) fun x20 => bdD (f_Uw_put S d19 (x + 13) x20) fun _ d24 => bdD (f_Uw_putParameterCode S d24 (x + 13) (some a14)) fun _ d27 => f_Uw_putCode_J53 S (x + 13) d27 (some a14) (b2 (decide (0 < c.length))))) ((if tc s y = 0 then [(0, 4, 0)] else [(0, 5, 0), (0, tc s y, 0)]) ++ (prm s y (tc s y) ++ ([(0, 11, 0)] ++ (rsT (s 14 y) ++ (if c.length ≤ 0 then [] else [(0, 17, 0), (0, 18, 0)]))))) := by
    by_cases q : tc s y = 0
    · rw [if_pos q]
      refine em_eq (g := fun d13 => bdD (f_Uw_put S d13 (x + 13) 4) fun _ d30 => f_Uw_putCode_J53 S (x + 13) d30 (some (A 1 y)) (b2 (decide (0 < c.length)))) (fun e i => ?_) (em_bd hI (em_put h (v := 4) rfl) (em_cg ?_ tail))
      · simp only [nn_t, kd_t (ho e i).k, lt_t, (ho e i).g3, pkp_0 b hy, if_pos q]
      · rw [q]; rfl
    · rw [if_neg q]
      refine em_eq (g := fun d13 => bdD (f_Uw_put S d13 (x + 13) 5) fun _ d19 => bd (f_Om_parameterCount S d19 (A 1 y)) fun x20 => bdD (f_Uw_put S d19 (x + 13) x20) fun _ d24 => bdD (f_Uw_putParameterCode S d24 (x + 13) (some (A 1 y))) fun _ d27 => f_Uw_putCode_J53 S (x + 13) d27 (some (A 1 y)) (b2 (decide (0 < c.length)))) (fun e i => ?_) (em_cg ?_ (em_bd hI (em_put h (v := 5) rfl) (em_eq (g := fun d19 => bdD (f_Uw_put S d19 (x + 13) (nI (tc s y))) fun _ d24 => bdD (f_Uw_putParameterCode S d24 (x + 13) (some (A 1 y))) fun _ d27 => f_Uw_putCode_J53 S (x + 13) d27 (some (A 1 y)) (b2 (decide (0 < c.length)))) (fun e i => ?_) (em_bd hI (em_put h (v := tc s y) rfl) (em_bd hI (em_prm hI h b hy ho) tail)))))
      · simp only [nn_t, kd_t (ho e i).k, lt_t, (ho e i).g3, pkp_0 b hy, if_neg q]
      · rfl
      · simp only [hpc e i, bd_t]
  refine em_eq (fun d _ => ?_) (em_cg ?_ (head _ _ mid))
  · simp only [f_Uw_putCode, kd_t (cs_K13 h)]
  · unfold cdT cod hdT
    simp only [List.append_assoc, List.cons_append, List.nil_append]
theorem brow_set {a u v : Nat} {b r : List Nat} {y : Int32} (h : BRow d a (b ++ v :: r)) (hy : y = by8 u) : BRow (wI d a b.length y) a (b ++ u :: r) := by
  intro i hi
  rw [dI_wI, hy]
  have hlen : (b ++ u :: r).length = (b ++ v :: r).length := by rw [List.length_append, List.length_append]; rfl
  by_cases q : i = b.length
  · rw [if_pos ⟨rfl, q⟩, q, List.getD_eq_getElem?_getD, List.getElem?_append_right (Nat.le_refl _), Nat.sub_self]; rfl
  · rw [if_neg (fun c => q c.2), h i (by rw [← hlen]; exact hi)]
    rw [List.getD_eq_getElem?_getD, List.getD_eq_getElem?_getD]
    by_cases c : i < b.length
    · rw [List.getElem?_append_left c, List.getElem?_append_left c]
    · rw [List.getElem?_append_right (by omega), List.getElem?_append_right (by omega)]
      obtain ⟨j, hj⟩ : ∃ j, i - b.length = j + 1 := ⟨i - b.length - 1, by omega⟩
      rw [hj, List.getElem?_cons_succ, List.getElem?_cons_succ]
theorem em_meth (hI : cI x I) (h : CS S x) (b : BI s) {y v : Nat} (hy : vx s y) (sv : SMs S v) (ev : sP S v 0 = some (A 1 y)) {B c : List Nat} (hB : cl B) (hc : cl c) (ho : ∀ d, I d → OM S d x s (A 1 y) y ∧ RWd d (v + 1) B ∧ RWd d (v + 3) c) : Em x I (fun d => f_Uw_putMethod S d (x + 13) (some v)) (mT s y B c) := by
  have hn := b.nameT y
  have hr := b.resT y
  have lB := cl_len hB
  have lc := cl_len hc
  have hx13 := cs_K13 h
  have ho1 := fun d i => (ho d i).1
  have part : Em x I (fun d23 => lt_ (dI d23 (x + 13) 5) fun x24 => bdD (f_Uw_put S d23 (x + 13) 0) fun _ d27 => lt_ (sP S v 2) fun x28 => nn x28 fun a29 => kd S a29 2 <| lt_ (dI d27 a29 1) fun x31 => if x31 ≤ 0 then f_Uw_putMethod_J74 S (x + 13) d27 (some v) x24 (some (x + 13)) (some (A 1 y)) 0 else f_Uw_putMethod_J74 S (x + 13) d27 (some v) x24 (some (x + 13)) (some (A 1 y)) 1) ([(0, (cdT s y c).length, 0)] ++ (cdT s y c ++ ([(0, c.length, 0)] ++ rwT c c.length))) := by
    intro d w i u p hl
    simp only [List.length_append, List.length_singleton, rwT_len] at hl
    have hcl := cdT_len s y c
    obtain ⟨d1, f1, c1, u1, p1⟩ := em_put (I := I) h (v := 0) (y := 0) rfl d w i u p (by show w.2.length + 1 ≤ 3200; omega)
    have i1 := hI _ _ i c1
    obtain ⟨d2, f2, c2, u2, p2⟩ := em_code hI h b hy ho1 c d1 _ i1 u1 p1 (by show (w.2 ++ [0]).length + _ ≤ 3200; rw [List.length_append, List.length_singleton]; omega)
    have i2 := hI _ _ i1 c2
    have hsp := run_split (cdT s y c) w.1 (w.2 ++ [0])
    have hsp2 := run_split (cdT s y c) w.1 (w.2 ++ [(cdT s y c).length])
    have hrl := run_len (cdT s y c) (w.1, [])
    have e1 : run w [(0, 0, 0)] = (w.1, w.2 ++ [0]) := rfl
    have e2 : run w [(0, (cdT s y c).length, 0)] = (w.1, w.2 ++ [(cdT s y c).length]) := rfl
    rw [e1, hsp] at u2 p2
    generalize hR : (run (w.1, []) (cdT s y c)).2 = R at hsp hsp2 hrl u2 p2
    generalize hP : (run (w.1, []) (cdT s y c)).1 = P at hsp hsp2 u2 p2
    have hRl : R.length = (cdT s y c).length := by rw [hrl]; show 0 + _ = _; omega
    have u2' : U4 d2 x P (fB P) (w.2 ++ 0 :: R) := by
      have : (w.2 ++ [0]) ++ R = w.2 ++ 0 :: R := by rw [List.append_assoc]; rfl
      rw [← this]; exact u2
    have n5 : dI d2 (x + 13) 5 = nI (w.2.length + 1 + R.length) := by
      rw [u2'.n5, List.length_append, List.length_cons]
      congr 1; omega
    have ey : (nI (w.2.length + 1 + R.length) - nI w.2.length) - 1 = nI R.length := by
      rw [pk_sub (show w.2.length ≤ w.2.length + 1 + R.length by omega), l1_s _ (by omega)]
      congr 1; omega
    have c3 : Ch (PUw x) d2 (wI d2 (x + 16) w.2.length (by8 R.length)) := ch_w (.inr (.inr (.inr rfl)))
    have u3 : UWR (wI d2 (x + 16) w.2.length (by8 R.length)) x (run (run w [(0, (cdT s y c).length, 0)]) (cdT s y c)) := by
      rw [e2, hsp2]
      have cc : Ch (fun a _ => a = x + 16) d2 (wI d2 (x + 16) w.2.length (by8 R.length)) := ch_w rfl
      have el : (w.2 ++ [(cdT s y c).length]) ++ R = w.2 ++ R.length :: R := by rw [List.append_assoc, hRl]; rfl
      show U4 _ x P (fB P) ((w.2 ++ [(cdT s y c).length]) ++ R)
      rw [el]
      refine ⟨(cc.2 _ _ (by omega)).trans u2'.n1, (cc.2 _ _ (by omega)).trans u2'.n3, ?_, fun k hk => (cc.2 _ _ (by omega)).trans (u2'.e k hk), brow_ch u2'.pb cc (fun i _ => by omega), brow_set u2'.bd rfl⟩
      rw [cc.2 _ _ (by omega), u2'.n5, List.length_append, List.length_append]; rfl
    have p3 : GP (run (run w [(0, (cdT s y c).length, 0)]) (cdT s y c)).1 := by rw [e2, hsp2]; exact p2
    have i3 := hI _ _ i2 c3
    obtain ⟨d4, f4, c4, u4, p4⟩ := em_row hI h sv.r2 (Nat.le_refl _) (fun t ht => by have := hc.2 t ht; omega) lc (fun d i => (ho d i).2.2) _ _ i3 u3 p3 (by rw [run_len, run_len]; show w.2.length + 1 + (cdT s y c).length + _ ≤ 3200; rw [List.length_append, rwT_len]; show w.2.length + 1 + (cdT s y c).length + (1 + c.length) ≤ 3200; omega)
    rw [← run_app, ← run_app] at u4 p4
    have f2' : f_Uw_putCode S d1 (x + 13) (some (A 1 y)) (b2 (decide (0 < c.length))) = some ((), d2) := f2
    have f4' : f_Uw_putRow S (wI d2 (x + 16) w.2.length (by8 R.length)) (x + 13) (some (v + 3)) = some ((), d4) := f4
    refine ⟨d4, ?_, ch_t (ch_t (ch_t c1 c2) c3) c4, u4, p4⟩
    have j74 : f_Uw_putMethod_J74 S (x + 13) d1 (some v) (nI w.2.length) (some (x + 13)) (some (A 1 y)) (b2 (decide (0 < c.length))) = some ((), d4) := by
      have hw : w.2.length < 3200 := by omega
      simp (maxSteps := 1000000) (disch := omega) only [f_Uw_putMethod_J74, kd_t (cs_K0 h), cs_P0_0 h, kd_t (cs_K1 h), cs_P1_0 h, kd_t (cs_K2 h), cs_N2 h, cs_P0_1 h, kd_t (cs_K3 h), cs_N3 h, cs_P0_3 h, kd_t (cs_K4 h), cs_N4 h, cs_P0_5 h, kd_t (cs_K5 h), cs_N5 h, cs_P0_6 h, kd_t (cs_K6 h), cs_N6 h, cs_P0_8 h, kd_t (cs_K7 h), cs_N7 h, cs_P0_9 h, kd_t (cs_K8 h), cs_N8 h, cs_P0_11 h, kd_t (cs_K9 h), cs_P9_0 h, cs_P9_1 h, kd_t (cs_K10 h), cs_N10 h, cs_P9_3 h, kd_t (cs_K11 h), cs_P11_0 h, kd_t (cs_K12 h), cs_N12 h, cs_P0_12 h, kd_t (cs_K13 h), cs_P13_0 h, kd_t (cs_K14 h), cs_N14 h, cs_P13_2 h, kd_t (cs_K15 h), cs_N15 h, cs_P13_4 h, kd_t (cs_K16 h), cs_N16 h, cs_P0_16 h, kd_t (cs_K17 h), cs_N17 h, cs_P0_17 h, kd_t (cs_K18 h), cs_N18 h, cs_P7_0 h, cs_P7_1 h, cs_P7_2 h, lt_t, nn_t, bd_t, bdD_t, bdP_t, nI_clamp, gi_n, nI_add, nI_1, pk_mul, b2_eq0, b2_01, nb_t, if_true, if_false, ni_le, ni_eq, ni_lt, f2', n5, ey, kd_t sv.k, sv.p2]
      rw [show vp_nar .byte ((Int32.toInt8 (nI R.length)).toInt32) = by8 R.length from rfl, f4', bdD_t]
    have f1' : f_Uw_put S d (x + 13) 0 = some ((), d1) := f1
    simp only [lt_t, u.n5, f1', bdD_t, sv.p2, nn_t, kd_t sv.r2.k, (ho d1 i1).2.2.1, l0_le _ (show c.length < 2 ^ 31 by omega)]
    by_cases q : 0 < c.length
    · rw [if_neg (by omega)]
      rw [decide_eq_true q] at j74; exact j74
    · rw [if_pos (by omega)]
      rw [decide_eq_false q] at j74; exact j74
  have eN : 263 + nI (s 13 y) = nI (ek (3, s 13 y, 0)) := nI_add 263 _
  refine em_eq (g := fun d => bdD (bdD (f_Uw_putEntry S d (x + 13) (nI (ek (3, s 13 y, 0))) 3 (nI (s 13 y))) (fun _ e => some ((), e))) fun _ d11 => lt_ (dI d11 (A 1 y) 3) fun x12 => bdD (f_Uw_putTypes S d11 (x + 13) x12) fun _ d15 => lt_ (dI d15 (A 1 y) 4) fun x16 => bdD (f_Uw_putType S d15 (x + 13) x16) fun _ d19 => lt_ (sP S v 1) fun x20 => bdD (f_Uw_putRow S d19 (x + 13) x20) fun _ d23 => lt_ (dI d23 (x + 13) 5) fun x24 => bdD (f_Uw_put S d23 (x + 13) 0) fun _ d27 => lt_ (sP S v 2) fun x28 => nn x28 fun a29 => kd S a29 2 <| lt_ (dI d27 a29 1) fun x31 => if x31 ≤ 0 then f_Uw_putMethod_J74 S (x + 13) d27 (some v) x24 (some (x + 13)) (some (A 1 y)) 0 else f_Uw_putMethod_J74 S (x + 13) d27 (some v) x24 (some (x + 13)) (some (A 1 y)) 1) (fun d i => ?_) ?_
  · simp only [f_Uw_putMethod, nn_t, kd_t sv.k, lt_t, ev, kd_t (ho1 d i).k, (ho1 d i).g2, kd_t hx13, eN, bd_asc, bdD_t]
  · refine em_cg ?_ (em_bd hI (em_entry h (k := (3, s 13 y, 0)) (.inr (.inr ⟨rfl, hn, rfl⟩)) (by show (3 : Nat) ≠ 2; omega) rfl rfl rfl) (em_eq (g := fun d11 => bdD (f_Uw_putTypes S d11 (x + 13) (pkp s y)) fun _ d15 => lt_ (dI d15 (A 1 y) 4) fun x16 => bdD (f_Uw_putType S d15 (x + 13) x16) fun _ d19 => lt_ (sP S v 1) fun x20 => bdD (f_Uw_putRow S d19 (x + 13) x20) fun _ d23 => lt_ (dI d23 (x + 13) 5) fun x24 => bdD (f_Uw_put S d23 (x + 13) 0) fun _ d27 => lt_ (sP S v 2) fun x28 => nn x28 fun a29 => kd S a29 2 <| lt_ (dI d27 a29 1) fun x31 => if x31 ≤ 0 then f_Uw_putMethod_J74 S (x + 13) d27 (some v) x24 (some (x + 13)) (some (A 1 y)) 0 else f_Uw_putMethod_J74 S (x + 13) d27 (some v) x24 (some (x + 13)) (some (A 1 y)) 1) (fun e i => ?_) (em_bd hI (em_types hI h (v := pkp s y) (fun k hk => ?_)) (em_eq (g := fun d15 => bdD (f_Uw_putType S d15 (x + 13) (nI (s 14 y))) fun _ d19 => lt_ (sP S v 1) fun x20 => bdD (f_Uw_putRow S d19 (x + 13) x20) fun _ d23 => lt_ (dI d23 (x + 13) 5) fun x24 => bdD (f_Uw_put S d23 (x + 13) 0) fun _ d27 => lt_ (sP S v 2) fun x28 => nn x28 fun a29 => kd S a29 2 <| lt_ (dI d27 a29 1) fun x31 => if x31 ≤ 0 then f_Uw_putMethod_J74 S (x + 13) d27 (some v) x24 (some (x + 13)) (some (A 1 y)) 0 else f_Uw_putMethod_J74 S (x + 13) d27 (some v) x24 (some (x + 13)) (some (A 1 y)) 1) (fun e i => ?_) (em_bd hI (em_type h hr rfl) (em_eq (g := fun d19 => bdD (f_Uw_putRow S d19 (x + 13) (some (v + 1))) fun _ d23 => lt_ (dI d23 (x + 13) 5) fun x24 => bdD (f_Uw_put S d23 (x + 13) 0) fun _ d27 => lt_ (sP S v 2) fun x28 => nn x28 fun a29 => kd S a29 2 <| lt_ (dI d27 a29 1) fun x31 => if x31 ≤ 0 then f_Uw_putMethod_J74 S (x + 13) d27 (some v) x24 (some (x + 13)) (some (A 1 y)) 0 else f_Uw_putMethod_J74 S (x + 13) d27 (some v) x24 (some (x + 13)) (some (A 1 y)) 1) (fun e i => ?_) (em_bd hI (em_row hI h sv.r1 (Nat.le_refl _) (fun t ht => ?_) lB (fun d i => (ho d i).2.1)) part)))))))
    · have tl : ∀ k, k ≤ 3 → lsT (pkp s y) k = tkT s y k := by
        intro k
        induction k with
        | zero => intro _; rfl
        | succ k ih => intro hk; unfold lsT tkT; rw [ih (by omega), pkp_ub b hy k (by omega)]
      unfold mT
      rw [pkp_ln b hy, tl _ (tc_le s y)]
      simp only [List.append_assoc, List.cons_append, List.nil_append]
    · simp only [lt_t, (ho1 e i).g3]
    · have ht := tc_le s y
      rw [pkp_ln b hy] at hk
      rw [pkp_ub b hy k (by omega)]
      exact b.takeT y k hy (by omega)
    · simp only [lt_t, (ho1 e i).g4]
    · simp only [lt_t, sv.p1]
    · have := hB.2 t ht; omega
end em
