def by8 (v : Nat) : Int32 := vp_nar .byte ((Int32.toInt8 (nI v)).toInt32)
theorem by8_0 : ∀ v, v < 64 → by8 v &&& 255 = nI v ∧ fits .byte (.int (by8 v)) = true := by decide
theorem by8_1 : ∀ v, v < 64 → by8 (64 + v) &&& 255 = nI (64 + v) ∧ fits .byte (.int (by8 (64 + v))) = true := by decide
theorem by8_2 : ∀ v, v < 64 → by8 (128 + v) &&& 255 = nI (128 + v) ∧ fits .byte (.int (by8 (128 + v))) = true := by decide
theorem by8_3 : ∀ v, v < 64 → by8 (192 + v) &&& 255 = nI (192 + v) ∧ fits .byte (.int (by8 (192 + v))) = true := by decide
theorem by8_ok (v : Nat) (h : v < 256) : by8 v &&& 255 = nI v ∧ fits .byte (.int (by8 v)) = true := by
  by_cases h0 : v < 64
  · exact by8_0 v h0
  · by_cases h1 : v < 128
    · have := by8_1 (v - 64) (by omega)
      rwa [show 64 + (v - 64) = v by omega] at this
    · by_cases h2 : v < 192
      · have := by8_2 (v - 128) (by omega)
        rwa [show 128 + (v - 128) = v by omega] at this
      · have := by8_3 (v - 192) (by omega)
        rwa [show 192 + (v - 192) = v by omega] at this
def BRow (d : gD) (a : Nat) (l : List Nat) : Prop := ∀ i, i < l.length → dI d a i = by8 (l.getD i 0)
theorem brow_n {d : gD} {a : Nat} : BRow d a [] := fun i h => absurd h (Nat.not_lt_zero _)
theorem brow_w {d : gD} {a v p : Nat} {l : List Nat} {y : Int32} (h : BRow d a l) (hp : p = l.length) (hy : y = by8 v) : BRow (wI d a p y) a (l ++ [v]) := by
  intro i hi
  rw [List.length_append, List.length_singleton] at hi
  rw [dI_wI, getD_app, hp, hy]
  by_cases q : i = l.length
  · rw [if_pos ⟨rfl, q⟩, if_pos q]
  · rw [if_neg (fun c => q c.2), if_neg q]; exact h i (by omega)
theorem brow_ch {P : Nat → Nat → Prop} {d e : gD} {a : Nat} {l : List Nat} (h : BRow d a l) (g : Ch P d e) (n : ∀ i, i < l.length → ¬ P a i) : BRow e a l := fun i hi => (g.2 _ _ (n i hi)).trans (h i hi)
def ek (k : Nat × Nat × Nat) : Nat := if k.1 = 1 then k.2.1 else if k.1 = 2 then 47 + 6 * k.2.1 + k.2.2 else 263 + k.2.1
theorem ek_lt {k : Nat × Nat × Nat} (h : ve k) : ek k < 292 := by
  unfold ve at h
  unfold ek
  split
  · omega
  · split <;> omega
theorem ek_inj {k l : Nat × Nat × Nat} (h : ve k) (g : ve l) (e : ek k = ek l) : k = l := by
  obtain ⟨a, b, c⟩ := k
  obtain ⟨a', b', c'⟩ := l
  unfold ve at h g
  unfold ek at e
  simp only at h g e
  rcases h with h | h | h
  · rw [if_pos h.1] at e
    rcases g with g | g | g
    · rw [if_pos g.1] at e
      rw [h.1, g.1, h.2.2, g.2.2, e]
    · rw [if_neg (by omega), if_pos g.1] at e; omega
    · rw [if_neg (by omega), if_neg (by omega)] at e; omega
  · rw [if_neg (by omega), if_pos h.1] at e
    rcases g with g | g | g
    · rw [if_pos g.1] at e; omega
    · rw [if_neg (by omega), if_pos g.1] at e
      rw [h.1, g.1, show b = b' by omega, show c = c' by omega]
    · rw [if_neg (by omega), if_neg (by omega)] at e; omega
  · rw [if_neg (by omega), if_neg (by omega)] at e
    rcases g with g | g | g
    · rw [if_pos g.1] at e; omega
    · rw [if_neg (by omega), if_pos g.1] at e; omega
    · rw [if_neg (by omega), if_neg (by omega)] at e
      rw [h.1, g.1, h.2.2, g.2.2, show b = b' by omega]
def eOf (p : List (Nat × Nat × Nat)) (k : Nat × Nat × Nat) : Int32 := if eIx p k < p.length then nI (eIx p k) else -1
theorem eIx_hit {p : List (Nat × Nat × Nat)} {k : Nat × Nat × Nat} : eIx p k < p.length ↔ k ∈ p := by
  unfold eIx
  constructor
  · intro h
    have y := fst_yes _ _ h
    unfold eHit at y
    rw [decide_eq_true_iff] at y
    have m := getT_mem (l := p) h
    unfold eHit at m h
    rw [y] at m
    exact m
  · intro h
    obtain ⟨i, hi, e⟩ := mem_getT h
    have := fst_hit (eHit p k) p.length i hi (decide_eq_true e)
    omega
theorem eOf_app {p : List (Nat × Nat × Nat)} {k l : Nat × Nat × Nat} (hn : ¬ eIx p k < p.length) : eOf (p ++ [k]) l = if l = k then nI p.length else eOf p l := by
  have hlen : (p ++ [k]).length = p.length + 1 := by rw [List.length_append]; rfl
  have hat : ∀ i, (p ++ [k]).getD i te = if i = p.length then k else p.getD i te := fun i => getT_app
  by_cases q : l = k
  · rw [if_pos q, q]
    have : eIx (p ++ [k]) k = p.length := by
      unfold eIx
      apply fst_eq
      · omega
      · intro j hj
        unfold eHit
        rw [hat, if_neg (by omega), decide_eq_false_iff_not]
        intro e
        exact hn (eIx_hit.mpr (e ▸ getT_mem hj))
      · intro _
        unfold eHit
        rw [hat, if_pos rfl, decide_eq_true rfl]
    unfold eOf
    rw [this, if_pos (by omega)]
  · rw [if_neg q]
    by_cases r : eIx p l < p.length
    · have : eIx (p ++ [k]) l = eIx p l := by
        unfold eIx
        apply fst_eq
        · have := fst_le (eHit p l) p.length; omega
        · intro j hj
          have hle := fst_le (eHit p l) p.length
          have := fst_no _ _ j hj
          unfold eHit at this ⊢
          rw [hat, if_neg (by unfold eHit at hj hle; omega)]; exact this
        · intro _
          have y := fst_yes _ _ (show fst (eHit p l) p.length < p.length from r)
          unfold eHit at y ⊢
          rw [hat, if_neg (by unfold eIx eHit at r; omega)]; exact y
      unfold eOf
      rw [this, if_pos r, if_pos (by omega)]
    · have : ¬ eIx (p ++ [k]) l < (p ++ [k]).length := by
        rw [eIx_hit, List.mem_append, List.mem_singleton]
        rintro (c | c)
        · exact r (eIx_hit.mpr c)
        · exact q c
      unfold eOf
      rw [if_neg this, if_neg r]
def U4 (d : gD) (x : Nat) (p : List (Nat × Nat × Nat)) (pb : List Nat) (bd : List Nat) : Prop := (dI d (x + 13) 1 = nI p.length) ∧ (dI d (x + 13) 3 = nI pb.length) ∧ (dI d (x + 13) 5 = nI bd.length) ∧ (∀ k, ve k → dI d (x + 14) (ek k) = eOf p k) ∧ (BRow d (x + 15) pb) ∧ (BRow d (x + 16) bd)
theorem U4.n1 {d : gD} {x : Nat} {p : List (Nat × Nat × Nat)} {pb : List Nat} {bd : List Nat} (h : U4 d x p pb bd) : dI d (x + 13) 1 = nI p.length := h.1
theorem U4.n3 {d : gD} {x : Nat} {p : List (Nat × Nat × Nat)} {pb : List Nat} {bd : List Nat} (h : U4 d x p pb bd) : dI d (x + 13) 3 = nI pb.length := h.2.1
theorem U4.n5 {d : gD} {x : Nat} {p : List (Nat × Nat × Nat)} {pb : List Nat} {bd : List Nat} (h : U4 d x p pb bd) : dI d (x + 13) 5 = nI bd.length := h.2.2.1
theorem U4.e {d : gD} {x : Nat} {p : List (Nat × Nat × Nat)} {pb : List Nat} {bd : List Nat} (h : U4 d x p pb bd) : ∀ k, ve k → dI d (x + 14) (ek k) = eOf p k := h.2.2.2.1
theorem U4.pb {d : gD} {x : Nat} {p : List (Nat × Nat × Nat)} {pb : List Nat} {bd : List Nat} (h : U4 d x p pb bd) : BRow d (x + 15) pb := h.2.2.2.2.1
theorem U4.bd {d : gD} {x : Nat} {p : List (Nat × Nat × Nat)} {pb : List Nat} {bd : List Nat} (h : U4 d x p pb bd) : BRow d (x + 16) bd := h.2.2.2.2.2
def PUw (x : Nat) (a j : Nat) : Prop := (a = x + 13 ∧ (j = 1 ∨ j = 3 ∨ j = 5)) ∨ a = x + 14 ∨ a = x + 15 ∨ a = x + 16
section cls
variable {S : gS} {d : gD} {x : Nat} {p : List (Nat × Nat × Nat)} {pb bd : List Nat}
theorem u_put (h : CS S x) (u : U4 d x p pb bd) (hl : bd.length < 3200) {v : Nat} {y : Int32} (hy : y = nI v) : ∃ e, f_Uw_put S d (x + 13) y = some ((), e) ∧ Ch (PUw x) d e ∧ U4 e x p pb (bd ++ [v]) := by
  have e32 : Int32.ofNat 3200 = nI 3200 := rfl
  have e1 : dI (wI d (x + 16) bd.length (by8 v)) (x + 13) 5 = nI bd.length := by rw [dI_wI, if_neg (by omega)]; exact u.n5
  have ey : vp_nar .byte ((Int32.toInt8 y).toInt32) = by8 v := by rw [hy]; rfl
  have c1 : Ch (PUw x) d (wI (wI d (x + 16) bd.length (by8 v)) (x + 13) 5 (nI (bd.length + 1))) := ch_s (ch_w (.inr (.inr (.inr rfl)))) (.inl ⟨rfl, .inr (.inr rfl)⟩)
  have cc : Ch (fun a j => a = x + 16 ∨ (a = x + 13 ∧ j = 5)) d (wI (wI d (x + 16) bd.length (by8 v)) (x + 13) 5 (nI (bd.length + 1))) := ch_s (ch_w (.inl rfl)) (.inr ⟨rfl, rfl⟩)
  refine ⟨wI (wI d (x + 16) bd.length (by8 v)) (x + 13) 5 (nI (bd.length + 1)), ?_, c1, ?_⟩
  · simp (maxSteps := 1000000) (disch := omega) only [f_Uw_put, kd_t (cs_K0 h), cs_P0_0 h, kd_t (cs_K1 h), cs_P1_0 h, kd_t (cs_K2 h), cs_N2 h, cs_P0_1 h, kd_t (cs_K3 h), cs_N3 h, cs_P0_3 h, kd_t (cs_K4 h), cs_N4 h, cs_P0_5 h, kd_t (cs_K5 h), cs_N5 h, cs_P0_6 h, kd_t (cs_K6 h), cs_N6 h, cs_P0_8 h, kd_t (cs_K7 h), cs_N7 h, cs_P0_9 h, kd_t (cs_K8 h), cs_N8 h, cs_P0_11 h, kd_t (cs_K9 h), cs_P9_0 h, cs_P9_1 h, kd_t (cs_K10 h), cs_N10 h, cs_P9_3 h, kd_t (cs_K11 h), cs_P11_0 h, kd_t (cs_K12 h), cs_N12 h, cs_P0_12 h, kd_t (cs_K13 h), cs_P13_0 h, kd_t (cs_K14 h), cs_N14 h, cs_P13_2 h, kd_t (cs_K15 h), cs_N15 h, cs_P13_4 h, kd_t (cs_K16 h), cs_N16 h, cs_P0_16 h, kd_t (cs_K17 h), cs_N17 h, cs_P0_17 h, kd_t (cs_K18 h), cs_N18 h, cs_P7_0 h, cs_P7_1 h, cs_P7_2 h, l1_m, l1_a, l1_b, l1_s, l1_e, l1_le, l1_ge, l1_lt, l1_gt, lt_t, nn_t, bd_t, bdD_t, bdP_t, nI_clamp, gi_n, nI_add, nI_1, pk_mul, b2_eq0, b2_01, nb_t, if_true, if_false, ni_le, ni_eq, ni_lt, u.n5, e32, ey, e1]
    rw [if_neg (by omega)]
  · refine ⟨(cc.2 _ _ (by omega)).trans u.n1, (cc.2 _ _ (by omega)).trans u.n3, ?_, fun k hk => (cc.2 _ _ (by omega)).trans (u.e k hk), brow_ch u.pb cc (fun i _ => by omega), ?_⟩
    · rw [dI_wI, if_pos ⟨rfl, rfl⟩, List.length_append]; rfl
    · exact brow_ch (brow_w u.bd rfl rfl) (ch_w (P := fun a _ => a = x + 13) rfl) (fun i _ => by omega)
theorem u_pool (h : CS S x) (u : U4 d x p pb bd) (hl : pb.length < 512) {v : Nat} {y : Int32} (hy : y = nI v) : ∃ e, f_Uw_putInPool S d (x + 13) y = some ((), e) ∧ Ch (PUw x) d e ∧ U4 e x p (pb ++ [v]) bd := by
  have e32 : Int32.ofNat 512 = nI 512 := rfl
  have e1 : dI (wI d (x + 15) pb.length (by8 v)) (x + 13) 3 = nI pb.length := by rw [dI_wI, if_neg (by omega)]; exact u.n3
  have ey : vp_nar .byte ((Int32.toInt8 y).toInt32) = by8 v := by rw [hy]; rfl
  have c1 : Ch (PUw x) d (wI (wI d (x + 15) pb.length (by8 v)) (x + 13) 3 (nI (pb.length + 1))) := ch_s (ch_w (.inr (.inr (.inl rfl)))) (.inl ⟨rfl, .inr (.inl rfl)⟩)
  have cc : Ch (fun a j => a = x + 15 ∨ (a = x + 13 ∧ j = 3)) d (wI (wI d (x + 15) pb.length (by8 v)) (x + 13) 3 (nI (pb.length + 1))) := ch_s (ch_w (.inl rfl)) (.inr ⟨rfl, rfl⟩)
  refine ⟨wI (wI d (x + 15) pb.length (by8 v)) (x + 13) 3 (nI (pb.length + 1)), ?_, c1, ?_⟩
  · simp (maxSteps := 1000000) (disch := omega) only [f_Uw_putInPool, kd_t (cs_K0 h), cs_P0_0 h, kd_t (cs_K1 h), cs_P1_0 h, kd_t (cs_K2 h), cs_N2 h, cs_P0_1 h, kd_t (cs_K3 h), cs_N3 h, cs_P0_3 h, kd_t (cs_K4 h), cs_N4 h, cs_P0_5 h, kd_t (cs_K5 h), cs_N5 h, cs_P0_6 h, kd_t (cs_K6 h), cs_N6 h, cs_P0_8 h, kd_t (cs_K7 h), cs_N7 h, cs_P0_9 h, kd_t (cs_K8 h), cs_N8 h, cs_P0_11 h, kd_t (cs_K9 h), cs_P9_0 h, cs_P9_1 h, kd_t (cs_K10 h), cs_N10 h, cs_P9_3 h, kd_t (cs_K11 h), cs_P11_0 h, kd_t (cs_K12 h), cs_N12 h, cs_P0_12 h, kd_t (cs_K13 h), cs_P13_0 h, kd_t (cs_K14 h), cs_N14 h, cs_P13_2 h, kd_t (cs_K15 h), cs_N15 h, cs_P13_4 h, kd_t (cs_K16 h), cs_N16 h, cs_P0_16 h, kd_t (cs_K17 h), cs_N17 h, cs_P0_17 h, kd_t (cs_K18 h), cs_N18 h, cs_P7_0 h, cs_P7_1 h, cs_P7_2 h, l1_m, l1_a, l1_b, l1_s, l1_e, l1_le, l1_ge, l1_lt, l1_gt, lt_t, nn_t, bd_t, bdD_t, bdP_t, nI_clamp, gi_n, nI_add, nI_1, pk_mul, b2_eq0, b2_01, nb_t, if_true, if_false, ni_le, ni_eq, ni_lt, u.n3, e32, ey, e1]
    rw [if_neg (by omega)]
  · refine ⟨(cc.2 _ _ (by omega)).trans u.n1, ?_, (cc.2 _ _ (by omega)).trans u.n5, fun k hk => (cc.2 _ _ (by omega)).trans (u.e k hk), ?_, brow_ch u.bd cc (fun i _ => by omega)⟩
    · rw [dI_wI, if_pos ⟨rfl, rfl⟩, List.length_append]; rfl
    · exact brow_ch (brow_w u.pb rfl rfl) (ch_w (P := fun a _ => a = x + 13) rfl) (fun i _ => by omega)
theorem u_entry (h : CS S x) (u : U4 d x p pb bd) (hl : bd.length < 3200) (hp : pb.length + 2 ≤ 512) (hp2 : p.length < 2 ^ 31) {k : Nat × Nat × Nat} (hk : ve k) {v1 v2 v3 : Int32} (e1 : v1 = nI (ek k)) (e2 : v2 = nI k.1) (e3 : v3 = nI k.2.1) : ∃ e, f_Uw_putEntry S d (x + 13) v1 v2 v3 = some (b2 (decide (¬ eIx p k < p.length)), e) ∧ Ch (PUw x) d e ∧ U4 e x (ePl p k) (if eIx p k < p.length then pb else pb ++ [k.1] ++ [k.2.1]) (bd ++ [eIx p k]) := by
  subst e1; subst e2; subst e3
  have hek := ek_lt hk
  have hix : eIx p k ≤ p.length := fst_le _ _
  by_cases q : eIx p k < p.length
  · have r0 : dI d (x + 14) (ek k) = nI (eIx p k) := by rw [u.e k hk]; unfold eOf; rw [if_pos q]
    obtain ⟨e, f1, c1, w1⟩ := u_put h u hl (v := eIx p k) rfl
    have hne : ¬ nI (eIx p k) = -1 := by
      intro c
      have : (nI (eIx p k)) < 0 := by rw [c]; decide
      exact nI_pos (by omega) this
    refine ⟨e, ?_, c1, ?_⟩
    · simp (maxSteps := 1000000) (disch := omega) only [f_Uw_putEntry, f_Uw_putEntry_J15, f_Uw_putEntry_J52, kd_t (cs_K0 h), cs_P0_0 h, kd_t (cs_K1 h), cs_P1_0 h, kd_t (cs_K2 h), cs_N2 h, cs_P0_1 h, kd_t (cs_K3 h), cs_N3 h, cs_P0_3 h, kd_t (cs_K4 h), cs_N4 h, cs_P0_5 h, kd_t (cs_K5 h), cs_N5 h, cs_P0_6 h, kd_t (cs_K6 h), cs_N6 h, cs_P0_8 h, kd_t (cs_K7 h), cs_N7 h, cs_P0_9 h, kd_t (cs_K8 h), cs_N8 h, cs_P0_11 h, kd_t (cs_K9 h), cs_P9_0 h, cs_P9_1 h, kd_t (cs_K10 h), cs_N10 h, cs_P9_3 h, kd_t (cs_K11 h), cs_P11_0 h, kd_t (cs_K12 h), cs_N12 h, cs_P0_12 h, kd_t (cs_K13 h), cs_P13_0 h, kd_t (cs_K14 h), cs_N14 h, cs_P13_2 h, kd_t (cs_K15 h), cs_N15 h, cs_P13_4 h, kd_t (cs_K16 h), cs_N16 h, cs_P0_16 h, kd_t (cs_K17 h), cs_N17 h, cs_P0_17 h, kd_t (cs_K18 h), cs_N18 h, cs_P7_0 h, cs_P7_1 h, cs_P7_2 h, l0_e, l0_le, l0_ge, l0_lt, l0_gt, l1_m, l1_a, l1_b, l1_s, l1_e, l1_le, l1_ge, l1_lt, l1_gt, lt_t, nn_t, bd_t, bdD_t, bdP_t, nI_clamp, gi_n, nI_add, nI_1, pk_mul, b2_eq0, b2_01, nb_t, if_true, if_false, ni_le, ni_eq, ni_lt, r0, hne, f1, nb_t (Or.inl rfl : (0 : Int32) = 0 ∨ (0 : Int32) = 1)]
      rw [decide_eq_false (fun c => c q)]; rfl
    · unfold ePl; rw [if_pos q, if_pos q]; exact w1
  · have r0 : dI d (x + 14) (ek k) = -1 := by rw [u.e k hk]; unfold eOf; rw [if_neg q]
    have eix : eIx p k = p.length := by omega
    have n1 : dI (wI d (x + 14) (ek k) (nI p.length)) (x + 13) 1 = nI p.length := by rw [dI_wI, if_neg (by omega)]; exact u.n1
    have u1 : U4 (wI (wI d (x + 14) (ek k) (nI p.length)) (x + 13) 1 (nI (p.length + 1))) x (p ++ [k]) pb bd := by
      have cc : Ch (fun a j => a = x + 14 ∨ (a = x + 13 ∧ j = 1)) d (wI (wI d (x + 14) (ek k) (nI p.length)) (x + 13) 1 (nI (p.length + 1))) := ch_s (ch_w (.inl rfl)) (.inr ⟨rfl, rfl⟩)
      refine ⟨?_, (cc.2 _ _ (by omega)).trans u.n3, (cc.2 _ _ (by omega)).trans u.n5, fun l hl' => ?_, brow_ch u.pb cc (fun i _ => by omega), brow_ch u.bd cc (fun i _ => by omega)⟩
      · rw [dI_wI, if_pos ⟨rfl, rfl⟩, List.length_append]; rfl
      · rw [eOf_app q, dI_wI, if_neg (by omega), dI_wI]
        by_cases c : l = k
        · rw [if_pos c, if_pos ⟨rfl, by rw [c]⟩]
        · rw [if_neg c, if_neg (fun z => c (ek_inj hl' hk z.2))]; exact u.e l hl'
    obtain ⟨d2, f2, c2, w2⟩ := u_pool h u1 (by omega) (v := k.1) rfl
    obtain ⟨d3, f3, c3, w3⟩ := u_pool h w2 (by rw [List.length_append]; show _ + 1 < 512; omega) (v := k.2.1) rfl
    have r3 : dI d3 (x + 14) (ek k) = nI p.length := by rw [w3.e k hk, eOf_app q, if_pos rfl]
    obtain ⟨d4, f4, c4, w4⟩ := u_put h w3 hl (v := p.length) rfl
    refine ⟨d4, ?_, ch_t (ch_t (ch_t (ch_s (ch_w (.inr (.inl rfl))) (.inl ⟨rfl, .inl rfl⟩)) c2) c3) c4, ?_⟩
    · simp (maxSteps := 1000000) (disch := omega) only [f_Uw_putEntry, f_Uw_putEntry_J15, f_Uw_putEntry_J52, kd_t (cs_K0 h), cs_P0_0 h, kd_t (cs_K1 h), cs_P1_0 h, kd_t (cs_K2 h), cs_N2 h, cs_P0_1 h, kd_t (cs_K3 h), cs_N3 h, cs_P0_3 h, kd_t (cs_K4 h), cs_N4 h, cs_P0_5 h, kd_t (cs_K5 h), cs_N5 h, cs_P0_6 h, kd_t (cs_K6 h), cs_N6 h, cs_P0_8 h, kd_t (cs_K7 h), cs_N7 h, cs_P0_9 h, kd_t (cs_K8 h), cs_N8 h, cs_P0_11 h, kd_t (cs_K9 h), cs_P9_0 h, cs_P9_1 h, kd_t (cs_K10 h), cs_N10 h, cs_P9_3 h, kd_t (cs_K11 h), cs_P11_0 h, kd_t (cs_K12 h), cs_N12 h, cs_P0_12 h, kd_t (cs_K13 h), cs_P13_0 h, kd_t (cs_K14 h), cs_N14 h, cs_P13_2 h, kd_t (cs_K15 h), cs_N15 h, cs_P13_4 h, kd_t (cs_K16 h), cs_N16 h, cs_P0_16 h, kd_t (cs_K17 h), cs_N17 h, cs_P0_17 h, kd_t (cs_K18 h), cs_N18 h, cs_P7_0 h, cs_P7_1 h, cs_P7_2 h, l0_e, l0_le, l0_ge, l0_lt, l0_gt, l1_m, l1_a, l1_b, l1_s, l1_e, l1_le, l1_ge, l1_lt, l1_gt, lt_t, nn_t, bd_t, bdD_t, bdP_t, nI_clamp, gi_n, nI_add, nI_1, pk_mul, b2_eq0, b2_01, nb_t, if_true, if_false, ni_le, ni_eq, ni_lt, r0, u.n1, n1, f2, f3, r3, f4, nb_t (Or.inr rfl : (1 : Int32) = 0 ∨ (1 : Int32) = 1)]
      rw [if_neg (by decide), decide_eq_true q]; rfl
    · unfold ePl; rw [if_neg q, if_neg q, eix]; exact w4
def UWR (d : gD) (x : Nat) (w : List (Nat × Nat × Nat) × List Nat) : Prop := U4 d x w.1 (fB w.1) w.2
theorem fB_app (p q : List (Nat × Nat × Nat)) : fB (p ++ q) = fB p ++ fB q := by
  induction p with
  | nil => rfl
  | cons k p ih => show eB k ++ fB (p ++ q) = eB k ++ fB p ++ fB q; rw [ih, List.append_assoc]
theorem fB_500 {p : List (Nat × Nat × Nat)} (h : GP p) : (fB p).length ≤ 453 := by
  have := GP_len h
  have := pbK_le p p.length
  rw [fB_len]; omega
end cls
def Em (x : Nat) (I : gD → Prop) (f : gD → Option (Unit × gD)) (l : List (Nat × Nat × Nat)) : Prop := ∀ d w, I d → UWR d x w → GP w.1 → w.2.length + l.length ≤ 3200 → ∃ e, f d = some ((), e) ∧ Ch (PUw x) d e ∧ UWR e x (run w l) ∧ GP (run w l).1
section em
variable {S : gS} {x : Nat} {I : gD → Prop} {f g : gD → Option (Unit × gD)} {l l1 l2 : List (Nat × Nat × Nat)}
def cI (x : Nat) (I : gD → Prop) : Prop := ∀ d e, I d → Ch (PUw x) d e → I e
theorem em_bd (hI : cI x I) (h1 : Em x I f l1) (h2 : Em x I g l2) : Em x I (fun d => bdD (f d) (fun _ e => g e)) (l1 ++ l2) := by
  intro d w i u p hl
  rw [List.length_append] at hl
  obtain ⟨e, f1, c1, u1, p1⟩ := h1 d w i u p (by omega)
  obtain ⟨e2, f2, c2, u2, p2⟩ := h2 e _ (hI _ _ i c1) u1 p1 (by rw [run_len]; omega)
  refine ⟨e2, ?_, ch_t c1 c2, by rw [run_app]; exact u2, by rw [run_app]; exact p2⟩
  show bdD (f d) _ = _
  rw [f1, bdD_t]; exact f2
theorem em_eq (h : ∀ d, I d → f d = g d) (hg : Em x I g l) : Em x I f l := by
  intro d w i u p hl
  rw [h d i]; exact hg d w i u p hl
theorem em_nil : Em x I (fun d => some ((), d)) [] := fun d w _ u p _ => ⟨d, rfl, ch_r, u, p⟩
theorem em_put (h : CS S x) {v : Nat} {y : Int32} (hy : y = nI v) : Em x I (fun d => f_Uw_put S d (x + 13) y) [(0, v, 0)] := by
  intro d w _ u p hl
  obtain ⟨e, f1, c1, w1⟩ := u_put h u (by have : w.2.length + 1 ≤ 3200 := hl; omega) hy
  exact ⟨e, f1, c1, w1, p⟩
theorem run1_e {w : List (Nat × Nat × Nat) × List Nat} {k : Nat × Nat × Nat} (h : k.1 ≠ 0) : run1 w k = (ePl w.1 k, w.2 ++ [eIx w.1 k]) := by unfold run1; rw [if_neg h]
theorem em_entry (h : CS S x) {k : Nat × Nat × Nat} (hk : ve k) (h2 : k.1 ≠ 2) {v1 v2 v3 : Int32} (e1 : v1 = nI (ek k)) (e2 : v2 = nI k.1) (e3 : v3 = nI k.2.1) : Em x I (fun d => bdD (f_Uw_putEntry S d (x + 13) v1 v2 v3) (fun _ e => some ((), e))) [k] := by
  intro d w _ u p hl
  have hb := fB_500 p
  have hp := GP_len p
  have h0 : k.1 ≠ 0 := by unfold ve at hk; omega
  obtain ⟨e, f1, c1, w1⟩ := u_entry h u (by have : w.2.length + 1 ≤ 3200 := hl; omega) (by omega) (by omega) hk e1 e2 e3
  refine ⟨e, ?_, c1, ?_, ?_⟩
  · show bdD (f_Uw_putEntry S d (x + 13) v1 v2 v3) _ = _
    rw [f1, bdD_t]
  · show UWR e x (run1 w k)
    rw [run1_e h0]
    unfold UWR
    have : fB (ePl w.1 k) = if eIx w.1 k < w.1.length then fB w.1 else fB w.1 ++ [k.1] ++ [k.2.1] := by
      unfold ePl
      split
      · rfl
      · rw [fB_app, List.append_assoc]
        show fB w.1 ++ (eB k ++ []) = _
        unfold eB
        rw [if_neg h2, List.append_nil]; rfl
    rw [this]; exact w1
  · show GP (run1 w k).1
    rw [run1_e h0]; exact GP_ePl p hk
theorem em_type (h : CS S x) {t : Nat} (ht : t < 47) {y : Int32} (hy : y = nI t) : Em x I (fun d => f_Uw_putType S d (x + 13) y) [(1, t, 0)] := by
  refine em_eq (g := fun d => bdD (f_Uw_putEntry S d (x + 13) y 1 y) (fun _ e => some ((), e))) (fun d _ => ?_) (em_entry h (.inl ⟨rfl, ht, rfl⟩) (by show (1 : Nat) ≠ 2; omega) hy rfl hy)
  simp only [f_Uw_putType, kd_t (cs_K13 h)]
end em
