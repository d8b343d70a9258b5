section st
variable {S S1 : gS} {d d1 : gD} {x : Nat} {s s' : Nat → Nat → Nat} {A A' : Nat → Nat → Nat} {hd : Nat → Int32} {q : (Nat → Int64) × Int64 × (Nat → Int64) × (Nat → Int32)}
theorem c_fitAnswer (h : CS S x) (g : G2 d x s q) (b : BI s) {c : Nat} {p : Nat × List Nat} (h27 : s 27 c = 0) (hh : q.2.2.2 c = -1 ∨ ∃ jo, jo < s 18 0 ∧ q.2.2.2 c = nI jo) : f_M_fitAnswer S d x (nI (s 14 p.1)) (q.2.2.2 c) = some (fitC s q c p, wL (wL d x 15 (-1)) x 15 (fitO s q c p)) := by
  have hO := b.objects
  have hr := b.resT p.1
  have wLL : ∀ v, wL (wL d x 15 (-1)) x 15 v = wL d x 15 v := by
    intro v
    show (d.1, up2 (up2 d.2 x 15 (-1)) x 15 v) = (d.1, up2 d.2 x 15 v)
    congr 1
    funext a j
    unfold up2
    by_cases c : a = x ∧ j = 15
    · rw [if_pos c, if_pos c]
    · rw [if_neg c, if_neg c, if_neg c]
  have g' : ∀ a j, dI (wL d x 15 (-1)) a j = dI d a j := fun _ _ => dI_wL
  have t' : CT (wL d x 15 (-1)) x s := ⟨g.t.1, fun a c' ha hc => by rw [dL_wL, if_neg (by omega)]; exact g.t.2 a c' ha hc⟩
  unfold fitC fitO
  rw [if_pos h27, if_pos h27]
  simp only [f_M_fitAnswer, kd_t (cs_K0 h), lt_t, l0_e _ (show s 14 p.1 < 2 ^ 31 by omega), c_pl (show s 14 p.1 < 2 ^ 31 by omega), bd_t, b2_eq0]
  by_cases r0 : s 14 p.1 = 0
  · rw [if_pos r0, if_pos r0, if_pos r0, wLL]
  · rw [if_neg r0, if_neg r0, if_neg r0]
    rcases hh with e1 | ⟨jo, hj, e1⟩
    · rw [e1, if_pos rfl]
      cases hp : pln (s 14 p.1) with
      | true => rw [if_neg (by decide), if_pos rfl, if_pos rfl, if_pos rfl, if_pos rfl, wLL]
      | false => rw [if_pos rfl, if_neg Bool.false_ne_true, if_neg Bool.false_ne_true, if_pos (show (-1 : Int32) < 0 by decide), if_pos (show (-1 : Int32) < 0 by decide), show Int32.toInt64 (-1) = -1 from by decide, wLL]
    · have mj := m1_lt (show jo < 2 ^ 31 by omega)
      have np := nI_pos (show jo < 2 ^ 31 by omega)
      have hot := b.lt 19 jo
      have o2 : dI (wL d x 15 (-1)) (x + 5) jo = nI (s 19 jo) := g.o2 jo hj
      have o3 : dL (wL d x 15 (-1)) (x + 6) jo = q.1 jo := by rw [dL_wL, if_neg (by omega)]; exact g.o3 jo hj
      rw [e1, if_neg mj.2, nI_clamp (show jo < 2 ^ 31 by omega)]
      cases hp : pln (s 14 p.1) with
      | true =>
        rw [if_neg (by decide), if_pos rfl, if_pos rfl, if_neg mj.2, if_neg mj.2]
        simp (maxSteps := 1000000) (disch := omega) only [f_M_fitAnswer_J46, f_M_fitAnswer_J85, kd_t (cs_K0 h), cs_P0_0 h, kd_t (cs_K1 h), cs_P1_0 h, kd_t (cs_K2 h), cs_N2 h, cs_P0_1 h, kd_t (cs_K3 h), cs_N3 h, cs_P0_3 h, kd_t (cs_K4 h), cs_N4 h, cs_P0_5 h, kd_t (cs_K5 h), cs_N5 h, cs_P0_6 h, kd_t (cs_K6 h), cs_N6 h, cs_P0_8 h, kd_t (cs_K7 h), cs_N7 h, cs_P0_9 h, kd_t (cs_K8 h), cs_N8 h, cs_P0_11 h, kd_t (cs_K9 h), cs_P9_0 h, cs_P9_1 h, kd_t (cs_K10 h), cs_N10 h, cs_P9_3 h, kd_t (cs_K11 h), cs_P11_0 h, kd_t (cs_K12 h), cs_N12 h, cs_P0_12 h, kd_t (cs_K13 h), cs_P13_0 h, kd_t (cs_K14 h), cs_N14 h, cs_P13_2 h, kd_t (cs_K15 h), cs_N15 h, cs_P13_4 h, kd_t (cs_K16 h), cs_N16 h, cs_P0_16 h, kd_t (cs_K17 h), cs_N17 h, cs_P0_17 h, kd_t (cs_K18 h), cs_N18 h, cs_P7_0 h, cs_P7_1 h, cs_P7_2 h, lt_t, nn_t, bd_t, bdD_t, bdP_t, nI_clamp, gi_n, nI_add, nI_1, pk_mul, b2_eq0, b2_01, nb_t, if_true, if_false, ni_le, ni_eq, ni_lt, o2, l40_a, c_isBelow h t' b, bw_box b hot hp, c_pl (show s 14 p.1 < 2 ^ 31 by omega), hp, o3]
        by_cases r1 : s 19 jo = 40 + s 14 p.1
        · rw [decide_eq_true r1, if_neg (by decide), if_neg (by decide), if_pos r1, if_pos r1]
        · rw [decide_eq_false r1, if_pos rfl, if_neg r1, if_neg r1, wLL]
      | false =>
        rw [if_pos rfl, if_neg Bool.false_ne_true, if_neg Bool.false_ne_true, if_neg np, if_neg np]
        simp (maxSteps := 1000000) (disch := omega) only [f_M_fitAnswer_J46, f_M_fitAnswer_J85, kd_t (cs_K0 h), cs_P0_0 h, kd_t (cs_K1 h), cs_P1_0 h, kd_t (cs_K2 h), cs_N2 h, cs_P0_1 h, kd_t (cs_K3 h), cs_N3 h, cs_P0_3 h, kd_t (cs_K4 h), cs_N4 h, cs_P0_5 h, kd_t (cs_K5 h), cs_N5 h, cs_P0_6 h, kd_t (cs_K6 h), cs_N6 h, cs_P0_8 h, kd_t (cs_K7 h), cs_N7 h, cs_P0_9 h, kd_t (cs_K8 h), cs_N8 h, cs_P0_11 h, kd_t (cs_K9 h), cs_P9_0 h, cs_P9_1 h, kd_t (cs_K10 h), cs_N10 h, cs_P9_3 h, kd_t (cs_K11 h), cs_P11_0 h, kd_t (cs_K12 h), cs_N12 h, cs_P0_12 h, kd_t (cs_K13 h), cs_P13_0 h, kd_t (cs_K14 h), cs_N14 h, cs_P13_2 h, kd_t (cs_K15 h), cs_N15 h, cs_P13_4 h, kd_t (cs_K16 h), cs_N16 h, cs_P0_16 h, kd_t (cs_K17 h), cs_N17 h, cs_P0_17 h, kd_t (cs_K18 h), cs_N18 h, cs_P7_0 h, cs_P7_1 h, cs_P7_2 h, lt_t, nn_t, bd_t, bdD_t, bdP_t, nI_clamp, gi_n, nI_add, nI_1, pk_mul, b2_eq0, b2_01, nb_t, if_true, if_false, ni_le, ni_eq, ni_lt, o2, c_isBelow h t' b, c_pl (show s 14 p.1 < 2 ^ 31 by omega), hp]
        cases hb : bw s (nI (s 19 jo)) (nI (s 14 p.1)) with
        | true => rw [if_neg (by decide), if_pos rfl, if_pos rfl]
        | false => rw [if_pos rfl, if_neg Bool.false_ne_true, if_neg Bool.false_ne_true, wLL]
theorem c_fitThrown (h : CS S x) (g : G2 d x s q) (b : BI s) {c u : Nat} {p : Nat × List Nat} (hu : SMs S u) (hc : RWd d (u + 3) (ct s p.2)) (hp : cl p.2) (h27 : ¬ s 27 c = 0) {jo : Nat} (hj : jo < s 18 0) (e1 : q.2.2.2 c = nI jo) : f_M_fitThrown S d x (some u) (q.2.2.2 c) = some (fitC s q c p, wL d x 15 (fitO s q c p)) := by
  have hO := b.objects
  have lc := cl_len (cl_ct (s := s) hp)
  have t' : CT (wL d x 15 (Int32.toInt64 (nI jo))) x s := ⟨g.t.1, fun a c' ha hc => by rw [dL_wL, if_neg (by omega)]; exact g.t.2 a c' ha hc⟩
  have o2 : dI (wL d x 15 (Int32.toInt64 (nI jo))) (x + 5) jo = nI (s 19 jo) := g.o2 jo hj
  have hc' : RWd (wL d x 15 (Int32.toInt64 (nI jo))) (u + 3) (ct s p.2) := hc
  have hs : dI (wL d x 15 (Int32.toInt64 (nI jo))) (u + 3) 1 = nI (ct s p.2).length := hc.1
  unfold fitC fitO
  rw [if_neg h27, if_neg h27, e1, nI_clamp (show jo < 2 ^ 31 by omega)]
  simp (maxSteps := 1000000) (disch := omega) only [f_M_fitThrown, kd_t (cs_K0 h), cs_P0_0 h, kd_t (cs_K1 h), cs_P1_0 h, kd_t (cs_K2 h), cs_N2 h, cs_P0_1 h, kd_t (cs_K3 h), cs_N3 h, cs_P0_3 h, kd_t (cs_K4 h), cs_N4 h, cs_P0_5 h, kd_t (cs_K5 h), cs_N5 h, cs_P0_6 h, kd_t (cs_K6 h), cs_N6 h, cs_P0_8 h, kd_t (cs_K7 h), cs_N7 h, cs_P0_9 h, kd_t (cs_K8 h), cs_N8 h, cs_P0_11 h, kd_t (cs_K9 h), cs_P9_0 h, cs_P9_1 h, kd_t (cs_K10 h), cs_N10 h, cs_P9_3 h, kd_t (cs_K11 h), cs_P11_0 h, kd_t (cs_K12 h), cs_N12 h, cs_P0_12 h, kd_t (cs_K13 h), cs_P13_0 h, kd_t (cs_K14 h), cs_N14 h, cs_P13_2 h, kd_t (cs_K15 h), cs_N15 h, cs_P13_4 h, kd_t (cs_K16 h), cs_N16 h, cs_P0_16 h, kd_t (cs_K17 h), cs_N17 h, cs_P0_17 h, kd_t (cs_K18 h), cs_N18 h, cs_P7_0 h, cs_P7_1 h, cs_P7_2 h, lt_t, nn_t, bd_t, bdD_t, bdP_t, nI_clamp, gi_n, nI_add, nI_1, pk_mul, b2_eq0, b2_01, nb_t, if_true, if_false, ni_le, ni_eq, ni_lt, kd_t hu.k, hu.p2, kd_t hu.r2.k, hs, l0_e, o2, c_isBelowOneOf h t' b hu.r2 (Nat.le_refl _) hc' lc]
  by_cases r0 : (ct s p.2).length = 0
  · rw [if_pos r0, if_pos (.inl r0)]
  · rw [if_neg r0]
    cases hb : bo s (s 19 jo) (ct s p.2) with
    | true => rw [if_neg (by decide), if_pos (.inr rfl)]
    | false => rw [if_pos rfl, if_neg (fun w => w.elim r0 (fun c => absurd c Bool.false_ne_true))]
theorem st_call (h : IV S d x s A q) (v1 v2 : Int32) (w : Nat → Int64) : ∃ k S1 d1 n m r e q', f_L_call S d (some x) v1 v2 (w 0) (w 1) (w 2) (some (x + 64)) = some ((k, S1, d1), n, m) ∧ n ≤ 1000 ∧ m ≤ 10000 ∧ f_R_call S1 d1 (x + 28) v1 v2 (w 0) (w 1) (w 2) = some (r, e) ∧ IV S1 e x s A q' ∧ dI e (x + 28) 0 = k ∧ (k = 0 → dL e (x + 64) 0 = Int32.toInt64 r) := by
  have hcs := h.g1.ce.cs
  have hx := h.g1.ce.hx
  have hS := h.b.stands
  have throw1 : ∀ (hn : cIn 0 (nI (s 21 0)) v1 = false ∨ ∃ c, c < s 21 0 ∧ v1 = nI c ∧ cIn 0 (nI (dsc s (nI (s 23 c))).length) v2 = false) (hm : f_M_hasMethod S d x v1 v2 = some 0), ∃ k S1 d1 n m r e q', f_L_call S d (some x) v1 v2 (w 0) (w 1) (w 2) (some (x + 64)) = some ((k, S1, d1), n, m) ∧ n ≤ 1000 ∧ m ≤ 10000 ∧ f_R_call S1 d1 (x + 28) v1 v2 (w 0) (w 1) (w 2) = some (r, e) ∧ IV S1 e x s A q' ∧ dI e (x + 28) 0 = k ∧ (k = 0 → dL e (x + 64) 0 = Int32.toInt64 r) := by
    intro hn hm
    have h1 := iv_sw (P := fun _ _ => False) h (fm_nZ (S := S) (d := d)) (fun _ _ f => f.elim)
    obtain ⟨e, fe, re, rf, z⟩ := r_call_1 (a1 := w 0) (a2 := w 1) (a3 := w 2) h1.rp h1.b (fun c hc => (h1.sv.ok c hc).1) hn
    refine ⟨1, nZ S, d, 1, 6, 0, e, q, ?_, by omega, by omega, fe, iv_rf h1 re rf, z, fun c => absurd c (by decide)⟩
    simp only [f_L_call, nn_t, kd_t (cs_K0 hcs), f_M_call, hm, bd_t]
    rfl
  cases c1 : cIn 0 (nI (s 21 0)) v1 with
  | false => exact throw1 (.inl c1) (c_hasMethod_n h.g1 c1)
  | true =>
    obtain ⟨c, -, hc, rfl⟩ := cIn_of (lo := 0) c1 (by omega) (by omega)
    have si := h.g1.st2 c hc
    have sv := h.sv.ok c hc
    cases c2 : cIn 0 (nI (dsc s (nI (s 23 c))).length) v2 with
    | false => exact throw1 (.inr ⟨c, hc, rfl, c2⟩) (by rw [c_hasMethod h.g1 h.b hc, c2]; rfl)
    | true =>
      obtain ⟨k, -, hk, rfl⟩ := cIn_of (lo := 0) c2 (by omega) (by omega)
      have g := GF_dscK h.b sv.1 _ (Nat.le_refl _)
      rw [show dscK s (nI (s 23 c)) (ln (nI (s 23 c))) = dsc s (nI (s 23 c)) from rfl] at g
      have pv := perm_vx h.b g (i := k) (by rw [perm_len]; exact hk)
      have fm17 : Fm (fun a _ => a = x + 17) S d S (wL (wL (wL d (x + 17) 0 (w 0)) (x + 17) 1 (w 1)) (x + 17) 2 (w 2)) := fm_t (fm_t (fm_wL rfl) (fm_wL rfl)) (fm_wL rfl)
      have h17 := iv_sw h fm17 (fun a j p => .inl p)
      have hw17 : ∀ j, j < 3 → dL (wL (wL (wL d (x + 17) 0 (w 0)) (x + 17) 1 (w 1)) (x + 17) 2 (w 2)) (x + 17) j = w j := by
        intro j hj
        rcases (show j = 0 ∨ j = 1 ∨ j = 2 by omega) with rfl | rfl | rfl
        · rw [dL_wL, if_neg (by omega), dL_wL, if_neg (by omega), dL_wL, if_pos ⟨rfl, rfl⟩]
        · rw [dL_wL, if_neg (by omega), dL_wL, if_pos ⟨rfl, rfl⟩]
        · rw [dL_wL, if_pos ⟨rfl, rfl⟩]
      have D17e : wL (wL (wL d (x + 17) (0 : Int32).toNatClampNeg (w 0)) (x + 17) (1 : Int32).toNatClampNeg (w 1)) (x + 17) (2 : Int32).toNatClampNeg (w 2) = wL (wL (wL d (x + 17) 0 (w 0)) (x + 17) 1 (w 1)) (x + 17) 2 (w 2) := rfl
      generalize hD : wL (wL (wL d (x + 17) 0 (w 0)) (x + 17) 1 (w 1)) (x + 17) 2 (w 2) = D at h17 hw17 D17e
      have si7 := h17.g1.st2 c hc
      obtain ⟨m1, m2, m3, m4, m5, m6, m7⟩ := si7.me k hk
      have rc := r_call (S := S) (m := x + 28) h17.rp h.b hc sv.1 hk (h.sv.hh c hc) w
      generalize hpp : (perm s (dsc s (nI (s 23 c)))).getD k df = p at pv m5 m6 m7 rc
      have o := h17.g1.ce.M.1 _ pv.1
      have tg := c_takesGiven hcs h17.g2 h.b pv.1 o hw17
      have evM : f_M_call S d x (nI c) (nI k) (w 0) (w 1) (w 2) = bd (f_M_takesGiven S D x (some (A 1 p.1))) fun x34 => if x34 = 0 then ac 1 6 (some ((.inr 2, nZ S, D), 0, 0)) else bdD (f_M_showHandler S D x (some (A 1 p.1))) fun _ d39 => lt_ (dI d39 (A 2 c) 7) fun x40 => if x40 = 0 then (nn (some (A 1 p.1)) fun a42 => kd S a42 5 <| lt_ (dI d39 a42 4) fun x44 => lt_ (dI d39 (A 2 c) 6) fun x45 => bdD (f_M_fitAnswer S d39 x x44 x45) fun x46 d48 => some ((.inl x46, S, d48), 0, 0)) else (lt_ (dI d39 (A 2 c) 6) fun x49 => bdD (f_M_fitThrown S d39 x (some (A 3 (40 * c + k))) x49) fun x50 d52 => some ((.inl x50, S, d52), 0, 0)) := by
        simp (maxSteps := 1000000) (disch := omega) only [f_M_call, kd_t (cs_K0 hcs), c_hasMethod h.g1 h.b hc, c2, bd_t, b2_eq0, lt_t, cs_P0_9 hcs, nn_t, kd_t (cs_K8 hcs), cs_N8 hcs, gi_n, nI_clamp, si.p, kd_t si.k, si.p4, kd_t si.k1, si.n1, m1, cs_P0_16 hcs, kd_t (cs_K17 hcs), cs_N17 hcs, gi0 3, gi1 3, gi2 3, D17e, kd_t m2.k, m5]
        rw [if_neg (by decide)]
      cases cc : caO s p.1 w (tc s p.1) with
      | false =>
        rw [cc] at tg
        obtain ⟨e, fe, re, rf, z⟩ := rc.1 cc
        have hz := iv_sw (P := fun _ _ => False) h17 (fm_nZ (S := S) (d := D)) (fun _ _ f => f.elim)
        have rcz := r_call (S := nZ S) (d := D) (m := x + 28) hz.rp h.b hc sv.1 hk (h.sv.hh c hc) w
        rw [hpp] at rcz
        obtain ⟨e, fe, re, rf, z⟩ := rcz.1 cc
        refine ⟨2, nZ S, D, 1, 6, 0, e, q, ?_, by omega, by omega, fe, iv_rf hz re rf, z, fun c => absurd c (by decide)⟩
        simp only [f_L_call, nn_t, kd_t (cs_K0 hcs), evM, tg, bd_t]
        rfl
      | true =>
        rw [cc] at tg
        obtain ⟨e1, f1, s1, v1'⟩ := c_showHandler hcs h17.g2 h.b pv.1 o hw17 cc
        have g2e := g2_sn s1 h17.g2 (fun j => snV s q.1 p.1 w j) v1'
        have oe : dI e1 (A 1 p.1) 4 = nI (s 14 p.1) := (s1.1 _ _).trans o.g4
        have he6 : dI e1 (A 2 c) 6 = q.2.2.2 c := (s1.1 _ _).trans si7.g6
        have he7 : dI e1 (A 2 c) 7 = nI (s 27 c) := (s1.1 _ _).trans si7.g7
        have m7e : RWd e1 (A 3 (40 * c + k) + 3) (ct s p.2) := ⟨(s1.1 _ _).trans m7.1, fun j hj => (s1.1 _ _).trans (m7.2 j hj)⟩
        have hh := h.sv.hh c hc
        have h271 := h.sv.h1 c
        -- the class's end memory
        have fin : ∃ d9, f_M_call S d x (nI c) (nI k) (w 0) (w 1) (w 2) = some ((.inl (fitC s q c p), S, d9), 0, 0) ∧ (∀ a j, dI d9 a j = dI D a j) ∧ (∀ a j, a ≠ x + 18 → ¬ (a = x ∧ j = 15) → dL d9 a j = dL D a j) ∧ (∀ j, j < 9 → dL d9 (x + 18) j = snV s q.1 p.1 w j) ∧ dL d9 x 15 = fitO s q c p := by
          have ev1 : f_M_call S d x (nI c) (nI k) (w 0) (w 1) (w 2) = if s 27 c = 0 then bdD (f_M_fitAnswer S e1 x (nI (s 14 p.1)) (q.2.2.2 c)) (fun x46 d48 => some ((.inl x46, S, d48), 0, 0)) else bdD (f_M_fitThrown S e1 x (some (A 3 (40 * c + k))) (q.2.2.2 c)) (fun x50 d52 => some ((.inl x50, S, d52), 0, 0)) := by
            rw [evM, tg]
            simp (disch := omega) only [bd_t, b2_eq0, f1, bdD_t, lt_t, he7, l0_e, nn_t, kd_t o.k, oe, he6]
            rw [if_neg (by decide)]
          by_cases r27 : s 27 c = 0
          · have fa := c_fitAnswer (c := c) (p := p) hcs g2e h.b r27 (by
              rcases hh with u | ⟨jo, u1, u2⟩
              · exact .inl u.1
              · exact .inr ⟨jo, u1, u2⟩)
            rw [show (q.1, q.2.1, (fun j => snV s q.1 p.1 w j), q.2.2.2).2.2.2 c = q.2.2.2 c from rfl] at fa
            rw [ev1, if_pos r27, fa, bdD_t]
            refine ⟨_, rfl, fun a j => by rw [dI_wL, dI_wL]; exact s1.1 a j, fun a j h1 h2 => by rw [dL_wL, if_neg h2, dL_wL, if_neg h2]; exact s1.2 a j h1, fun j hj => by rw [dL_wL, if_neg (by omega), dL_wL, if_neg (by omega)]; exact v1' j hj, by rw [dL_wL, if_pos ⟨rfl, rfl⟩]; rfl⟩
          · rcases hh with u | ⟨jo, u1, u2⟩
            · exact absurd u.2 r27
            · have ft := c_fitThrown (c := c) (p := p) hcs g2e h.b m2 m7e pv.2 r27 u1 u2
              rw [show (q.1, q.2.1, (fun j => snV s q.1 p.1 w j), q.2.2.2).2.2.2 c = q.2.2.2 c from rfl] at ft
              rw [ev1, if_neg r27, ft, bdD_t]
              exact ⟨_, rfl, fun a j => by rw [dI_wL]; exact s1.1 a j, fun a j h1 h2 => by rw [dL_wL, if_neg h2]; exact s1.2 a j h1, fun j hj => by rw [dL_wL, if_neg (by omega)]; exact v1' j hj, by rw [dL_wL, if_pos ⟨rfl, rfl⟩]; rfl⟩
        obtain ⟨d9, f9, i9, l9, s9, o9⟩ := fin
        have fm9 : Fm (fun a j => a = x + 18 ∨ (a = x ∧ j = 15) ∨ a = x + 64) S D S (wL d9 (x + 64) 0 (Int32.toInt64 (fitC s q c p))) := by
          refine ⟨Nat.le_refl _, fun a _ => ⟨rfl, rfl, fun j n => ⟨rfl, by rw [dI_wL]; exact i9 a j, ?_⟩⟩⟩
          rw [dL_wL, if_neg (by omega)]
          exact l9 a j (by omega) (by omega)
        have rp9 := rp_cf fm9 h17.rp hx (fun a j p => by omega)
        have rc9 := r_call (S := S) (m := x + 28) rp9 h.b hc sv.1 hk (h.sv.hh c hc) w
        rw [hpp] at rc9
        obtain ⟨e, sn, fe, re, sne, rf, z⟩ := rc9.2 cc
        have G1' := g1_sw fm9 h17.g1 (fun a j p => by unfold SW; omega)
        have G2' : G2 (wL d9 (x + 64) 0 (Int32.toInt64 (fitC s q c p))) x s (q.1, fitO s q c p, sn, q.2.2.2) := by
          have g := h17.g2
          have I : ∀ a j, dI (wL d9 (x + 64) 0 (Int32.toInt64 (fitC s q c p))) a j = dI D a j := fun a j => by rw [dI_wL]; exact i9 a j
          have L : ∀ a j, a ≠ x + 18 → ¬ (a = x ∧ j = 15) → a ≠ x + 64 → dL (wL d9 (x + 64) 0 (Int32.toInt64 (fitC s q c p))) a j = dL D a j := fun a j h1 h2 h3 => by rw [dL_wL, if_neg (by omega)]; exact l9 a j h1 h2
          refine ⟨⟨(I _ _).trans g.cl.1, (I _ _).trans g.cl.2.1, fun i h0 hi => (I _ _).trans (g.cl.2.2 i h0 hi)⟩, ⟨(I _ _).trans g.t.1, fun a c' ha hc' => by rw [L _ _ (by omega) (by omega) (by omega)]; exact g.t.2 a c' ha hc'⟩, (I _ _).trans g.o1, fun i hi => (I _ _).trans (g.o2 i hi), fun i hi => (L _ _ (by omega) (by omega) (by omega)).trans (g.o3 i hi), (I _ _).trans g.fa, ?_, fun j hj => ?_⟩
          · rw [dL_wL, if_neg (by omega)]; exact o9
          · rw [dL_wL, if_neg (by omega), s9 j hj]; exact (sne j hj).symm
        have svn : SV s (q.1, fitO s q c p, sn, q.2.2.2) := ⟨h.sv.rt, h.sv.ok, h.sv.hn, h.sv.hh, h.sv.h1, h.sv.pk⟩
        refine ⟨0, S, wL d9 (x + 64) 0 (Int32.toInt64 (fitC s q c p)), 0, 0, fitC s q c p, e, (q.1, fitO s q c p, sn, q.2.2.2), ?_, by omega, by omega, fe, iv_fin (q' := (q.1, fitO s q c p, sn, q.2.2.2)) G1' G2' re rf h.b svn h.ok, z, fun _ => ?_⟩
        · simp only [f_L_call, nn_t, kd_t (cs_K0 hcs), f9]
          show ac 0 0 (kd S (x + 64) 51 _) = _
          rw [kd_t h.ok.1, h.ok.2, gi0 1 (by omega) (by omega), ac_0]; rfl
        · rw [(rf (x + 64) 0 (by omega)).2, dL_wL, if_pos ⟨rfl, rfl⟩]
end st
