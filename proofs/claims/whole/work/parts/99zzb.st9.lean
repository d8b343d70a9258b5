section st
variable {S S1 : gS} {d d1 : gD} {x : Nat} {s s' : Nat → Nat → Nat} {A A' : Nat → Nat → Nat} {hd : Nat → Int32} {q : (Nat → Int64) × Int64 × (Nat → Int64) × (Nat → Int32)}
theorem sMe_o {f nm r : Nat} {v : Int32} {k i : Nat} (h : k ≠ 12 ∧ k ≠ 13 ∧ k ≠ 14 ∧ k ≠ 15 ∧ k ≠ 16) : sMe s f nm r v k i = s k i := by
  unfold sMe; rw [up2_ne h.1, up2_ne h.2.2.2.2]; exact sG_o ⟨h.2.1, h.2.2.1, h.2.2.2.1⟩ 3
theorem sMe_12 {f nm r : Nat} {v : Int32} {i : Nat} : sMe s f nm r v 12 i = if i = f then s 12 f + 1 else s 12 i := by
  unfold sMe
  by_cases c : i = f
  · rw [if_pos c, c, up2_eq]
  · rw [if_neg c, up2_nk c, up2_ne (by decide)]; exact sG_o (by decide) 3
theorem sMe_16 {f nm r : Nat} {v : Int32} {i : Nat} : sMe s f nm r v 16 i = if i = 6 * f + s 12 f then 0 else s 16 i := by
  unfold sMe
  rw [up2_ne (by decide)]
  by_cases c : i = 6 * f + s 12 f
  · rw [if_pos c, c, up2_eq]
  · rw [if_neg c, up2_nk c]; exact sG_o (by decide) 3
theorem sMe_13 {f nm r : Nat} {v : Int32} {i : Nat} : sMe s f nm r v 13 i = if i = 6 * f + s 12 f then nm else s 13 i := by
  unfold sMe; rw [up2_ne (by decide), up2_ne (by decide)]; exact sG_13 3
theorem sMe_14 {f nm r : Nat} {v : Int32} {i : Nat} : sMe s f nm r v 14 i = if i = 6 * f + s 12 f then r else s 14 i := by
  unfold sMe; rw [up2_ne (by decide), up2_ne (by decide)]; exact sG_14 3
theorem sMe_15 {f nm r : Nat} {v : Int32} {i : Nat} : sMe s f nm r v 15 i = if 3 * (6 * f + s 12 f) ≤ i ∧ i < 3 * (6 * f + s 12 f) + 3 then tkv v (i - 3 * (6 * f + s 12 f)) else s 15 i := by
  unfold sMe; rw [up2_ne (by decide), up2_ne (by decide)]; exact sG_15 3
theorem vx_me (b : BI s) {f nm r : Nat} {v : Int32} (hf : f < s 5 0) (h6 : s 12 f < 6) {y : Nat} : vx (sMe s f nm r v) y ↔ vx s y ∨ y = 6 * f + s 12 f := by
  have hF := b.faces
  unfold vx
  rw [sMe_o (by decide), sMe_12]
  constructor
  · rintro (⟨h1, h2⟩ | h1)
    · by_cases c : y / 6 = f
      · rw [if_pos c] at h2
        by_cases c2 : y % 6 = s 12 f
        · right; omega
        · left; left; exact ⟨h1, by rw [c]; omega⟩
      · rw [if_neg c] at h2; exact .inl (.inl ⟨h1, h2⟩)
    · exact .inl (.inr h1)
  · rintro ((⟨h1, h2⟩ | h1) | h1)
    · left
      refine ⟨h1, ?_⟩
      split
      · rename_i c; rw [c] at h2; omega
      · exact h2
    · exact .inr h1
    · left
      rw [h1]
      exact ⟨by omega, by rw [if_pos (by omega)]; omega⟩
theorem vx_ne {f y : Nat} (b : BI s) (hf : f < s 5 0) (h6 : s 12 f < 6) (h : vx s y) : y ≠ 6 * f + s 12 f := by
  have hF := b.faces
  intro e
  rcases h with ⟨h1, h2⟩ | h1
  · rw [e, show (6 * f + s 12 f) / 6 = f by omega, show (6 * f + s 12 f) % 6 = s 12 f by omega] at h2
    omega
  · omega
theorem bi_sMe (b : BI s) {f nm r : Nat} {v : Int32} (hf : f < s 5 0) (h6 : s 12 f < 6) (hn : nm < 29) (hr : r < 47) (hpr : prOk s v) : BI (sMe s f nm r v) := by
  have hF := b.faces
  have e : ∀ k i, k ≠ 12 → k ≠ 13 → k ≠ 14 → k ≠ 15 → k ≠ 16 → sMe s f nm r v k i = s k i := fun k i h1 h2 h3 h4 h5 => sMe_o ⟨h1, h2, h3, h4, h5⟩
  have tk47 : ∀ k, tkv v k < 47 := by
    intro k
    unfold tkv
    split
    · rename_i c
      obtain ⟨a, ha, ea⟩ := thI_of b (hpr k c)
      have := ub_lt v (k + 1)
      rw [nI_eq (by omega) (by omega)] at ea
      omega
    · omega
  have tk0 : ∀ k, tkv v k = 0 → tkv v (k + 1) = 0 := by
    intro k h0
    unfold tkv at h0 ⊢
    by_cases c : k < n3 v
    · rw [if_pos c] at h0; exact absurd h0 (n3_no c)
    · rw [if_neg (by omega)]
  have vxy : ∀ y, ((y / 6 < sMe s f nm r v 5 0 ∧ y % 6 < sMe s f nm r v 12 (y / 6)) ∨ (72 ≤ y ∧ y < 75)) → (vx s y ∧ y ≠ 6 * f + s 12 f) ∨ y = 6 * f + s 12 f := by
    intro y hy
    rcases (vx_me b hf h6).mp hy with w | w
    · exact .inl ⟨w, vx_ne b hf h6 w⟩
    · exact .inr w
  have tkT1 : ∀ y k, ((y / 6 < sMe s f nm r v 5 0 ∧ y % 6 < sMe s f nm r v 12 (y / 6)) ∨ (72 ≤ y ∧ y < 75)) → k < 3 → sMe s f nm r v 15 (3 * y + k) < 47 := by
    intro y k hy hk
    rw [sMe_15]
    rcases vxy y hy with ⟨w, hne⟩ | w
    · rw [if_neg (by omega)]; exact b.takeT y k w hk
    · rw [if_pos (by omega)]; exact tk47 _
  have tkZ1 : ∀ y k, ((y / 6 < sMe s f nm r v 5 0 ∧ y % 6 < sMe s f nm r v 12 (y / 6)) ∨ (72 ≤ y ∧ y < 75)) → k < 2 → sMe s f nm r v 15 (3 * y + k) = 0 → sMe s f nm r v 15 (3 * y + k + 1) = 0 := by
    intro y k hy hk
    rw [sMe_15, sMe_15]
    rcases vxy y hy with ⟨w, hne⟩ | w
    · rw [if_neg (by omega), if_neg (by omega)]; exact b.takeZ y k w hk
    · rw [if_pos (by omega), if_pos (by omega)]
      intro h0
      have := tk0 _ h0
      rw [show 3 * y + k - 3 * (6 * f + s 12 f) + 1 = 3 * y + k + 1 - 3 * (6 * f + s 12 f) by omega] at this
      exact this
  exact ⟨(fun k i => by
      by_cases c12 : k = 12
      · rw [c12, sMe_12]; split
        · omega
        · exact b.lt _ _
      · by_cases c13 : k = 13
        · rw [c13, sMe_13]; split
          · omega
          · exact b.lt _ _
        · by_cases c14 : k = 14
          · rw [c14, sMe_14]; split
            · omega
            · exact b.lt _ _
          · by_cases c15 : k = 15
            · rw [c15, sMe_15]; split
              · have := tkv_lt v (i - 3 * (6 * f + s 12 f)); omega
              · exact b.lt _ _
            · by_cases c16 : k = 16
              · rw [c16, sMe_16]; split
                · omega
                · exact b.lt _ _
              · rw [e k i c12 c13 c14 c15 c16]; exact b.lt _ _), (by simp (disch := decide) only [e]; exact b.loaders), (by simp (disch := decide) only [e]; exact b.parentL), (by simp (disch := decide) only [e]; exact b.classes), (by simp (disch := decide) only [e]; exact b.parentC), (by simp (disch := decide) only [e]; exact b.faces), (by simp (disch := decide) only [e]; exact b.faceL), (by simp (disch := decide) only [e]; exact b.facePack), (by simp (disch := decide) only [e]; exact b.faceOpen), (by simp (disch := decide) only [e]; exact b.parentN), (by simp (disch := decide) only [e]; exact b.parentN0), (by simp (disch := decide) only [e]; exact b.parentF), (fun i => by
      rw [sMe_12]; split
      · omega
      · exact b.ownN i), (fun i hi => by
      rw [e 5 0 (by decide) (by decide) (by decide) (by decide) (by decide)] at hi
      rw [sMe_12, if_neg (by omega)]; exact b.ownN0 i hi), (fun i => by
      rw [sMe_16]; split
      · omega
      · exact b.throwN i), (fun y i hi => by
      rw [sMe_16] at hi
      rw [e 17 _ (by decide) (by decide) (by decide) (by decide) (by decide), e 3 0 (by decide) (by decide) (by decide) (by decide) (by decide)]
      split at hi
      · omega
      · exact b.throwT y i hi), (fun y i j h1 h2 => by
      rw [sMe_16] at h2
      rw [e 17 _ (by decide) (by decide) (by decide) (by decide) (by decide), e 17 _ (by decide) (by decide) (by decide) (by decide) (by decide)]
      split at h2
      · omega
      · exact b.throwD y i j h1 h2), (tkT1), (tkZ1), (fun y => by
      rw [sMe_14]; split
      · exact hr
      · exact b.resT y), (fun y => by
      rw [sMe_13]; split
      · exact hn
      · exact b.nameT y), (by simp (disch := decide) only [e]; exact b.objects), (by simp (disch := decide) only [e]; exact b.stands)⟩
theorem st_method (h : IV S d x s A q) (v1 v2 v : Int32) : ∃ r S1 d1 n m e s' A', f_M_method S d x v1 v2 v = some ((r, S1, d1), n, m) ∧ n ≤ 1000 ∧ m ≤ 10000 ∧ f_R_method S1 d1 (x + 28) v1 v2 v = some (r, e) ∧ IV S1 e x s' A' q := by
  have hcs := h.g1.ce.cs
  have hx := h.g1.ce.hx
  have hF := h.b.faces
  have hS := h.b.stands
  have F := h.g1.ce.F
  have M := h.g1.ce.M
  have hu0 := ub_lt v 0
  have hv0 : v &&& 255 = nI (ub v 0) := by
    have := ub_s v (k := 0) (by omega)
    rw [← this]
    congr 1
    apply b_ext
    intro i hi
    rw [b_sshr (8 * 0) (by omega) v (by omega)]
    congr 1; omega
  have hcut : ∀ (S : gS) (d : gD), f_M_cutAtZero S d ((Int32.toUInt32 v >>> (Int32.toUInt32 8 &&& Int32.toUInt32 31)).toInt32) = some (cutp v) := fun S d => c_cutAtZero (shw v)
  have hpr : (∀ k, k < ln (cutp v) → thI s (nI (ub (cutp v) k)) = true) ↔ prOk s v := by
    have e1 : ln (cutp v) = n3 v := by unfold cutp; rw [ln_cln, ln_shw]
    have hn := n3_le v
    rw [e1]
    unfold prOk
    constructor
    · intro hh k hk
      have := hh k hk
      rw [ub_cutp v (by omega), if_pos (by omega)] at this
      unfold tkv at this
      rwa [if_pos hk] at this
    · intro hh k hk
      rw [ub_cutp v (by omega), if_pos (by omega)]
      unfold tkv
      rw [if_pos hk]; exact hh k hk
  have hown : ∀ f nm, f < s 5 0 → (hasO s f nm (cutp v) = true ↔ ∃ j, j < s 12 f ∧ (s 13 (6 * f + j) = nm ∧ s 15 (3 * (6 * f + j)) = tkv v 0 ∧ s 15 (3 * (6 * f + j) + 1) = tkv v 1 ∧ s 15 (3 * (6 * f + j) + 2) = tkv v 2)) := by
    intro f nm hf
    unfold hasO
    rw [anyb_iff]
    constructor
    · rintro ⟨j, hj, hs⟩
      rw [Bool.and_eq_true, decide_eq_true_iff, decide_eq_true_iff, pkp_cut h.b (own_vx hf hj (h.b.ownN f))] at hs
      exact ⟨j, hj, hs⟩
    · rintro ⟨j, hj, hs⟩
      refine ⟨j, hj, ?_⟩
      rw [Bool.and_eq_true, decide_eq_true_iff, decide_eq_true_iff, pkp_cut h.b (own_vx hf hj (h.b.ownN f))]
      exact hs
  have e29 : (29 : Int32) = nI 29 := rfl
  have rm := r_method (v1 := v1) (v2 := v2) (v := v) h.rp h.b
  cases Classical.em (∃ f nm, meOk s v1 v2 v f nm) with
  | inr no =>
    have no' : ∀ f nm, ¬ meOk s v1 v2 v f nm := fun f nm w => no ⟨f, nm, w⟩
    obtain ⟨e, s', fe, re, rf, gb⟩ := rm.2 no'
    refine ⟨-1, S, d, 0, 0, e, s', A, ?_, by omega, by omega, fe, iv_gb h gb re rf⟩
    simp only [f_M_method, hcut, bd_t, kd_t (cs_K0 hcs), lt_t, h.g1.st1, c_isFace hcs F, b2_eq0, c_within, e29, hv0, c_isResult hcs h.g2.t h.b (show ub v 0 < 2 ^ 31 by omega), c_areParameters hcs h.g2.t h.b, l0_gt _ (show s 21 0 < 2 ^ 31 by omega)]
    by_cases q0 : 0 < s 21 0
    · rw [if_pos q0]
    · rw [if_neg q0]
      cases c1 : cIn 24 (nI (24 + s 5 0)) v1 with
      | false => rw [if_pos rfl]
      | true =>
        rw [if_neg (by decide)]
        cases c2 : cIn 0 (nI 29) v2 with
        | false => rw [if_pos rfl]
        | true =>
          rw [if_neg (by decide)]
          obtain ⟨a, ha1, ha2, rfl⟩ := cIn_of (lo := 24) c1 (by omega) (by omega)
          obtain ⟨nm, -, hn, rfl⟩ := cIn_of (lo := 0) (hi := 29) c2 (by omega) (by omega)
          obtain ⟨f, rfl⟩ : ∃ f, a = 24 + f := ⟨a - 24, by omega⟩
          have hf : f < s 5 0 := by omega
          have fc := F.2.1 f hf
          have hN := h.b.ownN f
          have s1 : nI (24 + f) - 24 = nI f := by rw [l24_s _ (by omega)]; congr 1; omega
          cases c3 : (decide (ub v 0 = 0) || thI s (nI (ub v 0))) with
          | false => rw [if_pos rfl]
          | true =>
            rw [if_neg (by decide)]
            have hr0 : ub v 0 = 0 ∨ thI s (nI (ub v 0)) = true := by
              rw [Bool.or_eq_true, decide_eq_true_iff] at c3; exact c3
            by_cases c4 : prOk s v
            · rw [decide_eq_true (hpr.mpr c4), if_neg (by decide)]
              have ho := c_hasOwn h.b hf fc M (nm := nm) (by omega) (cutp v)
              by_cases c5 : s 12 f = 6
              · simp (maxSteps := 1000000) (disch := omega) only [f_M_method, kd_t (cs_K0 hcs), cs_P0_0 hcs, kd_t (cs_K1 hcs), cs_P1_0 hcs, kd_t (cs_K2 hcs), cs_N2 hcs, cs_P0_1 hcs, kd_t (cs_K3 hcs), cs_N3 hcs, cs_P0_3 hcs, kd_t (cs_K4 hcs), cs_N4 hcs, cs_P0_5 hcs, kd_t (cs_K5 hcs), cs_N5 hcs, cs_P0_6 hcs, kd_t (cs_K6 hcs), cs_N6 hcs, cs_P0_8 hcs, kd_t (cs_K7 hcs), cs_N7 hcs, cs_P0_9 hcs, kd_t (cs_K8 hcs), cs_N8 hcs, cs_P0_11 hcs, kd_t (cs_K9 hcs), cs_P9_0 hcs, cs_P9_1 hcs, kd_t (cs_K10 hcs), cs_N10 hcs, cs_P9_3 hcs, kd_t (cs_K11 hcs), cs_P11_0 hcs, kd_t (cs_K12 hcs), cs_N12 hcs, cs_P0_12 hcs, kd_t (cs_K13 hcs), cs_P13_0 hcs, kd_t (cs_K14 hcs), cs_N14 hcs, cs_P13_2 hcs, kd_t (cs_K15 hcs), cs_N15 hcs, cs_P13_4 hcs, kd_t (cs_K16 hcs), cs_N16 hcs, cs_P0_16 hcs, kd_t (cs_K17 hcs), cs_N17 hcs, cs_P0_17 hcs, kd_t (cs_K18 hcs), cs_N18 hcs, cs_P7_0 hcs, cs_P7_1 hcs, cs_P7_2 hcs, lt_t, nn_t, bd_t, bdD_t, bdP_t, nI_clamp, gi_n, nI_add, nI_1, pk_mul, b2_eq0, b2_01, nb_t, if_true, if_false, ni_le, ni_eq, ni_lt, s1, fc.p, kd_t fc.sh.k, fc.g7, l6_e]
                rw [if_pos c5]
              · have c6 : hasO s f nm (cutp v) = true := by
                  rw [hown f nm hf]
                  cases Classical.em (∃ j, j < s 12 f ∧ (s 13 (6 * f + j) = nm ∧ s 15 (3 * (6 * f + j)) = tkv v 0 ∧ s 15 (3 * (6 * f + j) + 1) = tkv v 1 ∧ s 15 (3 * (6 * f + j) + 2) = tkv v 2)) with
                  | inl w => exact w
                  | inr w => exact absurd ⟨rfl, hf, rfl, hn, by omega, hr0, c5, c4, fun j hj hs => w ⟨j, hj, hs⟩⟩ (no' f nm)
                simp (maxSteps := 1000000) (disch := omega) only [f_M_method, kd_t (cs_K0 hcs), cs_P0_0 hcs, kd_t (cs_K1 hcs), cs_P1_0 hcs, kd_t (cs_K2 hcs), cs_N2 hcs, cs_P0_1 hcs, kd_t (cs_K3 hcs), cs_N3 hcs, cs_P0_3 hcs, kd_t (cs_K4 hcs), cs_N4 hcs, cs_P0_5 hcs, kd_t (cs_K5 hcs), cs_N5 hcs, cs_P0_6 hcs, kd_t (cs_K6 hcs), cs_N6 hcs, cs_P0_8 hcs, kd_t (cs_K7 hcs), cs_N7 hcs, cs_P0_9 hcs, kd_t (cs_K8 hcs), cs_N8 hcs, cs_P0_11 hcs, kd_t (cs_K9 hcs), cs_P9_0 hcs, cs_P9_1 hcs, kd_t (cs_K10 hcs), cs_N10 hcs, cs_P9_3 hcs, kd_t (cs_K11 hcs), cs_P11_0 hcs, kd_t (cs_K12 hcs), cs_N12 hcs, cs_P0_12 hcs, kd_t (cs_K13 hcs), cs_P13_0 hcs, kd_t (cs_K14 hcs), cs_N14 hcs, cs_P13_2 hcs, kd_t (cs_K15 hcs), cs_N15 hcs, cs_P13_4 hcs, kd_t (cs_K16 hcs), cs_N16 hcs, cs_P0_16 hcs, kd_t (cs_K17 hcs), cs_N17 hcs, cs_P0_17 hcs, kd_t (cs_K18 hcs), cs_N18 hcs, cs_P7_0 hcs, cs_P7_1 hcs, cs_P7_2 hcs, lt_t, nn_t, bd_t, bdD_t, bdP_t, nI_clamp, gi_n, nI_add, nI_1, pk_mul, b2_eq0, b2_01, nb_t, if_true, if_false, ni_le, ni_eq, ni_lt, s1, fc.p, kd_t fc.sh.k, fc.g7, ho, c6, l6_e]
                rw [if_neg c5, if_neg (by decide)]
            · rw [decide_eq_false (fun w => c4 (hpr.mp w)), if_pos rfl]
  | inl ex =>
    obtain ⟨f, nm, ok⟩ := ex
    have ok0 := ok
    obtain ⟨rfl, hf, rfl, hn, h21, hr0, q6, hp, huq⟩ := ok
    have hN := h.b.ownN f
    have h6 : s 12 f < 6 := by omega
    have fc := F.2.1 f hf
    have flo := fc.lo
    have fhi := fc.hi
    have hr : ub v 0 < 47 := by
      rcases hr0 with c | c
      · omega
      · obtain ⟨a, ha, e⟩ := thI_of h.b c
        rw [nI_eq (by omega) (by omega)] at e
        omega
    have init := c_omInit (S := S) (d := d) (v1 := nI (24 + f)) (v2 := nI (s 12 f)) (v3 := nI nm) (v4 := cutp v) (v5 := nI (ub v 0))
    obtain ⟨⟨ok1, ok2, ok3⟩, oz, fmi, ⟨g0, g1, g2, g3, g4⟩, gr⟩ := c_omInit_s (S := S) (d := d) (v1 := nI (24 + f)) (v2 := nI (s 12 f)) (v3 := nI nm) (v4 := cutp v) (v5 := nI (ub v 0))
    generalize omB S = SB at init ok1 ok2 ok3 oz fmi
    generalize omD S d (nI (24 + f)) (nI (s 12 f)) (nI nm) (cutp v) (nI (ub v 0)) = DB at init fmi g0 g1 g2 g3 g4 gr
    have kz : ∀ a, a < sZ S → sK SB a = sK S a := fun a ha => fm_K fmi ha
    have pz : ∀ a j, a < sZ S → sP SB a j = sP S a j := fun a j ha => fm_P fmi ha id
    have nz' : ∀ a, a < sZ S → sN SB a = sN S a := fun a ha => fm_N fmi ha
    have iz : ∀ a j, a < sZ S → dI DB a j = dI d a j := fun a j ha => fm_I fmi ha id
    have fm : Fm (fun a j => (a = A 0 f + 2 ∧ j = s 12 f) ∨ (a = A 0 f ∧ j = 7) ∨ (a = x ∧ j = 13)) S d (wP SB (A 0 f + 2) (s 12 f) (some (sZ S))) (wI (wI DB (A 0 f) 7 (nI (s 12 f + 1))) x 13 0) :=
      fm_t (fm_t (fm_t (fm_m fmi (fun _ _ _ f => f.elim)) (fm_wP (.inl ⟨rfl, rfl⟩))) (fm_wI (.inr (.inl ⟨rfl, rfl⟩)))) (fm_wI (.inr (.inr ⟨rfl, rfl⟩)))
    have dz : ∀ a j, sZ S ≤ a → dI (wI (wI DB (A 0 f) 7 (nI (s 12 f + 1))) x 13 0) a j = dI DB a j := fun a j ha => by rw [dI_wI, if_neg (by omega), dI_wI, if_neg (by omega)]
    have d7 : dI (wI (wI DB (A 0 f) 7 (nI (s 12 f + 1))) x 13 0) (A 0 f) 7 = nI (s 12 f + 1) := by rw [dI_wI, if_neg (by omega), dI_wI, if_pos ⟨rfl, rfl⟩]
    have pz1 : ∀ a j, sZ S ≤ a → sP (wP SB (A 0 f + 2) (s 12 f) (some (sZ S))) a j = sP SB a j := fun a j ha => by rw [sP_wP, if_neg (by omega)]
    have own1 : ∀ j, sP (wP SB (A 0 f + 2) (s 12 f) (some (sZ S))) (A 0 f + 2) j = if j = s 12 f then some (sZ S) else sP S (A 0 f + 2) j := by
      intro j
      rw [sP_wP]
      by_cases c : j = s 12 f
      · rw [if_pos ⟨rfl, c⟩, if_pos c]
      · rw [if_neg (fun w => c w.2), if_neg c, pz _ _ (by omega)]
    have kS1 : ∀ a, sK (wP SB (A 0 f + 2) (s 12 f) (some (sZ S))) a = sK SB a := fun a => sK_wP
    have nS1 : ∀ a, sN (wP SB (A 0 f + 2) (s 12 f) (some (sZ S))) a = sN SB a := fun a => sN_wP
    have z1 : sZ (wP SB (A 0 f + 2) (s 12 f) (some (sZ S))) = sZ S + 3 := by rw [sZ_wP]; exact oz
    have cf1 : cIn 24 (nI (24 + s 5 0)) (nI (24 + f)) = true := by
      rw [show (24 : Int32) = nI 24 from rfl, cIn_nI (by omega) (by omega) (by omega), decide_eq_true (by omega), decide_eq_true (by omega)]; rfl
    have cf2 : cIn 0 (nI 29) (nI nm) = true := cIn0_t (by omega) hn
    have s1 : nI (24 + f) - 24 = nI f := by rw [l24_s _ (by omega)]; congr 1; omega
    have ho := c_hasOwn h.b hf fc M (nm := nm) (by omega) (cutp v)
    have c6 : hasO s f nm (cutp v) = false := by
      cases c6 : hasO s f nm (cutp v) with
      | false => rfl
      | true =>
        obtain ⟨j, hj, hs⟩ := (hown f nm hf).mp c6
        exact absurd hs (huq j hj)
    have i7 : dI (nD S d) (A 0 f) 7 = nI (s 12 f) := by rw [dI_nD, if_neg (by omega)]; exact fc.g7
    have k7 : sK (nS S 5 0) (A 0 f) = 4 := by rw [sK_nS, if_neg (by omega)]; exact fc.sh.k
    have k4 : sK SB (A 0 f) = 4 := (kz _ (by omega)).trans fc.sh.k
    have b7 : dI DB (A 0 f) 7 = nI (s 12 f) := (iz _ _ (by omega)).trans fc.g7
    have p6 : sP SB (A 0 f) 6 = some (A 0 f + 2) := (pz _ _ (by omega)).trans fc.sh.p6
    have k61 : sK SB (A 0 f + 2) = 61 := (kz _ (by omega)).trans fc.sh.k2
    have n61 : sN SB (A 0 f + 2) = 6 := (nz' _ (by omega)).trans fc.sh.n2
    have addO : f_Fc_addOwn SB DB (A 0 f) (some (sZ S)) = some ((), wP SB (A 0 f + 2) (s 12 f) (some (sZ S)), wI DB (A 0 f) 7 (nI (s 12 f + 1))) := by
      simp (disch := omega) only [f_Fc_addOwn, kd_t k4, lt_t, b7, p6, nn_t, kd_t k61, n61, show Int32.ofNat 6 = nI 6 from rfl, ni_le, gi_n, nI_clamp, kd_t ok1, l1_a]
      rw [if_neg (by omega)]
    have k1x : sK (wP SB (A 0 f + 2) (s 12 f) (some (sZ S))) x = 1 := by rw [kS1, kz _ (by omega)]; exact cs_K0 hcs
    have k1f : sK (wP SB (A 0 f + 2) (s 12 f) (some (sZ S))) (A 0 f) = 4 := by rw [kS1]; exact k4
    have hc3 : (decide (ub v 0 = 0) || thI s (nI (ub v 0))) = true := by rw [Bool.or_eq_true, decide_eq_true_iff]; exact hr0
    have evM : f_M_method S d x (nI (24 + f)) (nI nm) v = some ((nI (s 12 f), wP SB (A 0 f + 2) (s 12 f) (some (sZ S)), wI (wI DB (A 0 f) 7 (nI (s 12 f + 1))) x 13 0), 3, 11) := by
      simp (maxSteps := 1000000) (disch := omega) only [f_M_method, hcut, bd_t, kd_t (cs_K0 hcs), lt_t, h.g1.st1, l0_gt, c_isFace hcs F, cf1, b2_eq0, c_within, e29, cf2, hv0, c_isResult hcs h.g2.t h.b (show ub v 0 < 2 ^ 31 by omega), hc3, c_areParameters hcs h.g2.t h.b, cs_P0_3 hcs, nn_t, kd_t (cs_K4 hcs), s1, cs_N4 hcs, gi_n, nI_clamp, fc.p, kd_t fc.sh.k, fc.g7, l6_e, ho, c6, if_true, kd_t k7, i7, init, bdA_t, kd_t k4, addO, bdP_t, kd_t k1x, kd_t k1f, d7, l1_s, ac_t]
      rw [if_neg (by omega), if_neg (by decide), if_neg (by decide), if_neg (by decide), decide_eq_true (hpr.mpr hp), if_neg (by decide), if_neg q6, show s 12 f + 1 - 1 = s 12 f by omega]
    generalize hS1 : wP SB (A 0 f + 2) (s 12 f) (some (sZ S)) = S1 at fm pz1 own1 kS1 nS1 z1 evM
    generalize hD1 : wI (wI DB (A 0 f) 7 (nI (s 12 f + 1))) x 13 0 = D1 at fm dz d7 evM
    have rp1 := rp_cf fm h.rp hx (fun a j p => by omega)
    obtain ⟨e, fe, re, rf⟩ := (r_method (v1 := nI (24 + f)) (v2 := nI nm) (v := v) rp1 h.b).1 f nm ok0
    have bi' := bi_sMe h.b (nm := nm) (v := v) hf h6 hn hr hp
    have eo : ∀ k i, k ≠ 12 → k ≠ 13 → k ≠ 14 → k ≠ 15 → k ≠ 16 → sMe s f nm (ub v 0) v k i = s k i := fun k i h1 h2 h3 h4 h5 => sMe_o ⟨h1, h2, h3, h4, h5⟩
    have X75 : 6 * f + s 12 f < 72 := by omega
    have a1 : ∀ i, i ≠ 6 * f + s 12 f → up2 A 1 (6 * f + s 12 f) (sZ S) 1 i = A 1 i := fun i hi => up2_nk hi
    have a1' : up2 A 1 (6 * f + s 12 f) (sZ S) 1 (6 * f + s 12 f) = sZ S := up2_eq
    have a0 : ∀ k i, k ≠ 1 → up2 A 1 (6 * f + s 12 f) (sZ S) k i = A k i := fun k i hk => up2_ne hk i
    have G1' : G1 S1 D1 x (sMe s f nm (ub v 0) v) (up2 A 1 (6 * f + s 12 f) (sZ S)) q.2.2.2 := by
      refine ⟨⟨cs_fm fm hcs hx (fun a j w => by unfold stc at w; omega), by omega, ⟨?_, fun g hg => ?_, fun g g' h1 h2 => ?_⟩, fun i hi => ?_, fun k hk => by rw [a1 _ (by omega)]; exact M.2 k hk⟩, .inl (by rw [← hD1, dI_wI, if_pos ⟨rfl, rfl⟩]), ?_, fun c hc => ?_, fun c c' h1 h2 => ?_, ?_⟩
      · rw [eo 5 0 (by decide) (by decide) (by decide) (by decide) (by decide)]; exact (fm_I fm (by omega) (by omega)).trans F.1
      · rw [eo 5 0 (by decide) (by decide) (by decide) (by decide) (by decide)] at hg
        have c := F.2.1 g hg
        have clo := c.lo
        have chi := c.hi
        have hNg := h.b.ownN g
        have sep : g ≠ f → A 0 g + 3 < A 0 f ∨ A 0 f + 3 < A 0 g := by
          intro w
          rcases Nat.lt_or_gt_of_ne w with u | u
          · exact .inl (F.2.2 g f u hf)
          · exact .inr (F.2.2 f g u hg)
        have I : ∀ j, (g ≠ f ∨ j ≠ 7) → dI D1 (A 0 g) j = dI d (A 0 g) j := by
          intro j hj
          refine fm_I fm (by omega) ?_
          by_cases u : g = f
          · rw [u]; omega
          · have := sep u; omega
        have Q : ∀ j, (g ≠ f ∨ j ≠ 7) → sP S1 (A 0 g) j = sP S (A 0 g) j := by
          intro j hj
          refine fm_P fm (by omega) ?_
          by_cases u : g = f
          · rw [u]; omega
          · have := sep u; omega
        have K : ∀ o, o < 4 → sK S1 (A 0 g + o) = sK S (A 0 g + o) := fun o ho => fm_K fm (by omega)
        have N : ∀ o, o < 4 → sN S1 (A 0 g + o) = sN S (A 0 g + o) := fun o ho => fm_N fm (by omega)
        have hs := c.sh
        have sh' : FCs S1 (A 0 g) := ⟨(K 0 (by omega)).trans hs.k, (Q 4 (by omega)).trans hs.p4, (K 1 (by omega)).trans hs.k1, (N 1 (by omega)).trans hs.n1, (Q 6 (by omega)).trans hs.p6, (K 2 (by omega)).trans hs.k2, (N 2 (by omega)).trans hs.n2, (Q 8 (by omega)).trans hs.p8, (K 3 (by omega)).trans hs.k3, (N 3 (by omega)).trans hs.n3⟩
        have ea := a0 0 g (by decide)
        refine ⟨by rw [ea]; exact (fm_P fm (by omega) (by omega)).trans c.p, by rw [ea]; exact clo, by rw [ea]; omega, by rw [ea]; exact sh', by rw [ea, I 0 (by omega), eo 6 g (by decide) (by decide) (by decide) (by decide) (by decide)]; exact c.g0, by rw [ea, I 1 (by omega), eo 7 g (by decide) (by decide) (by decide) (by decide) (by decide)]; exact c.g1, by rw [ea, I 2 (by omega), eo 8 g (by decide) (by decide) (by decide) (by decide) (by decide)]; exact c.g2, by rw [ea, I 3 (by omega), eo 9 g (by decide) (by decide) (by decide) (by decide) (by decide)]; exact c.g3, by rw [ea, I 5 (by omega), eo 11 g (by decide) (by decide) (by decide) (by decide) (by decide)]; exact c.g5, fun i hi => ?_, ?_, fun i hi => ?_⟩
        · rw [eo 11 g (by decide) (by decide) (by decide) (by decide) (by decide)] at hi
          rw [ea, eo 10 _ (by decide) (by decide) (by decide) (by decide) (by decide)]
          refine (fm_I fm (by omega) ?_).trans (c.gp i hi)
          by_cases u : g = f
          · rw [u]; omega
          · have := sep u; omega
        · rw [ea, sMe_12]
          by_cases u : g = f
          · rw [if_pos u, u]; exact d7
          · rw [if_neg u, I 7 (.inl u)]; exact c.g7
        · rw [sMe_12] at hi
          rw [ea]
          by_cases u : g = f
          · rw [if_pos u] at hi
            rw [u, own1]
            by_cases w : i = s 12 f
            · rw [if_pos w, w, a1']
            · rw [if_neg w, a1 _ (by omega), ← u]
              exact c.ow i (by rw [u]; omega)
          · rw [if_neg u] at hi
            rw [a1 _ (by omega)]
            refine (fm_P fm (by omega) ?_).trans (c.ow i hi)
            have := sep u; omega
      · rw [eo 5 0 (by decide) (by decide) (by decide) (by decide) (by decide)] at h2
        rw [a0 0 g (by decide), a0 0 g' (by decide)]; exact F.2.2 g g' h1 h2
      · rcases (vx_me h.b hf h6).mp hi with w | w
        · have hne := vx_ne h.b hf h6 w
          have oi := M.1 i w
          have olo := oi.lo
          have k0 := oi.k
          have k1 := oi.rs.k
          have k2 := oi.rs.ak
          have o' := om_fm fm oi (fun j => ⟨?_, ?_, ?_⟩)
          · have hth : thr (sMe s f nm (ub v 0) v) i = thr s i := by
              have : ∀ k, thrK (sMe s f nm (ub v 0) v) i k = thrK s i k := by
                intro k
                induction k with
                | zero => rfl
                | succ k ih => unfold thrK; rw [ih, eo 17 _ (by decide) (by decide) (by decide) (by decide) (by decide)]
              unfold thr; rw [this, sMe_16, if_neg hne]
            rw [a1 i hne]
            exact ⟨o'.k, o'.p, o'.rs, o'.g0, o'.g1, by rw [sMe_13, if_neg hne]; exact o'.g2, by unfold pkp; rw [sMe_15, if_neg (by omega), sMe_15, if_neg (by omega), sMe_15, if_neg (by omega)]; exact o'.g3, by rw [sMe_14, if_neg hne]; exact o'.g4, by rw [hth]; exact o'.tr, o'.hi, o'.lo⟩
          · rintro (u | u | u)
            · rw [u.1, fc.sh.k2] at k0; cases k0
            · rw [u.1, fc.sh.k] at k0; cases k0
            · omega
          · rintro (u | u | u)
            · rw [u.1, fc.sh.k2] at k1; cases k1
            · rw [u.1, fc.sh.k] at k1; cases k1
            · omega
          · rintro (u | u | u)
            · rw [u.1, fc.sh.k2] at k2; cases k2
            · rw [u.1, fc.sh.k] at k2; cases k2
            · omega
        · rw [w, a1']
          have how : ow (6 * f + s 12 f) = 24 + f := by unfold ow; rw [if_pos X75]; omega
          have hnu : nu (6 * f + s 12 f) = s 12 f := by unfold nu; rw [if_pos X75]; omega
          have hth : thr (sMe s f nm (ub v 0) v) (6 * f + s 12 f) = [] := by
            unfold thr; rw [sMe_16, if_pos rfl]; rfl
          have hpk : pkp (sMe s f nm (ub v 0) v) (6 * f + s 12 f) = cutp v := by
            rw [cutp_eq]
            unfold pkp
            rw [sMe_15, if_pos (by omega), sMe_15, if_pos (by omega), sMe_15, if_pos (by omega), Nat.sub_self, show 3 * (6 * f + s 12 f) + 1 - 3 * (6 * f + s 12 f) = 1 by omega, show 3 * (6 * f + s 12 f) + 2 - 3 * (6 * f + s 12 f) = 2 by omega]
          refine ⟨(kS1 _).trans ok1, (pz1 _ _ (by omega)).trans ok2, ⟨(kS1 _).trans ok3.k, (pz1 _ _ (by omega)).trans ok3.p, (kS1 _).trans ok3.ak, (nS1 _).trans ok3.an⟩, by rw [dz _ _ (by omega), how]; exact g0, by rw [dz _ _ (by omega), hnu]; exact g1, by rw [dz _ _ (by omega), sMe_13, if_pos rfl]; exact g2, by rw [dz _ _ (by omega), hpk]; exact g3, by rw [dz _ _ (by omega), sMe_14, if_pos rfl]; exact g4, by rw [hth]; exact ⟨(dz _ _ (by omega)).trans gr.1, row_n⟩, by omega, .inl hx⟩
      · rw [eo 21 0 (by decide) (by decide) (by decide) (by decide) (by decide)]; exact (fm_I fm (by omega) (by omega)).trans h.g1.st1
      · rw [eo 21 0 (by decide) (by decide) (by decide) (by decide) (by decide), h21] at hc; omega
      · rw [eo 21 0 (by decide) (by decide) (by decide) (by decide) (by decide), h21] at h2; omega
      · have dk' := dk_fm fm h.g1.dk hx (fun i _ => by omega) (fun a j ha haz hk => by
          rintro (u | u | u)
          · rw [u.1, fc.sh.k2] at hk; omega
          · rw [u.1, fc.sh.k] at hk; omega
          · omega)
        refine ⟨fun i v hi hv => ?_, dk'.inj⟩
        obtain ⟨k1, k2, k3, k4⟩ := dk'.sl i v hi hv
        refine ⟨k1, k2, k3, fun w => ?_⟩
        obtain ⟨c, j, w1, -⟩ := w
        rw [eo 21 0 (by decide) (by decide) (by decide) (by decide) (by decide), h21] at w1; omega
    have G2' : G2 D1 x (sMe s f nm (ub v 0) v) q := by
      have g := g2_fm fm h.g2 hx (fun a j p => by omega)
      have so : ∀ k i, k ≠ 12 → k ≠ 13 → k ≠ 14 → k ≠ 15 → k ≠ 16 → sMe s f nm (ub v 0) v k i = s k i := eo
      have hTE : TE (sMe s f nm (ub v 0) v) = TE s := by
        funext a c'
        unfold TE FE
        rw [so 3 0 (by decide) (by decide) (by decide) (by decide) (by decide), so 5 0 (by decide) (by decide) (by decide) (by decide) (by decide), so 4 a (by decide) (by decide) (by decide) (by decide) (by decide), so 11 _ (by decide) (by decide) (by decide) (by decide) (by decide)]
        simp only [fun i => so 10 i (by decide) (by decide) (by decide) (by decide) (by decide)]
      have hty : ty (sMe s f nm (ub v 0) v) = ty s := by funext a; unfold ty; rw [so 3 0 (by decide) (by decide) (by decide) (by decide) (by decide), so 5 0 (by decide) (by decide) (by decide) (by decide) (by decide)]
      exact ⟨⟨by rw [so 1 0 (by decide) (by decide) (by decide) (by decide) (by decide)]; exact g.cl.1, g.cl.2.1, fun i h0 hi => by rw [so 1 0 (by decide) (by decide) (by decide) (by decide) (by decide)] at hi; rw [so 2 i (by decide) (by decide) (by decide) (by decide) (by decide)]; exact g.cl.2.2 i h0 hi⟩, ⟨by rw [so 3 0 (by decide) (by decide) (by decide) (by decide) (by decide)]; exact g.t.1, fun a c' h1 h2 => by rw [hTE, hty]; exact g.t.2 a c' h1 h2⟩, by rw [so 18 0 (by decide) (by decide) (by decide) (by decide) (by decide)]; exact g.o1, fun i hi => by rw [so 18 0 (by decide) (by decide) (by decide) (by decide) (by decide)] at hi; rw [so 19 i (by decide) (by decide) (by decide) (by decide) (by decide)]; exact g.o2 i hi, fun i hi => by rw [so 18 0 (by decide) (by decide) (by decide) (by decide) (by decide)] at hi; exact g.o3 i hi, by rw [so 28 0 (by decide) (by decide) (by decide) (by decide) (by decide)]; exact g.fa, g.oc, g.sn⟩
    refine ⟨nI (s 12 f), S1, D1, 3, 11, e, sMe s f nm (ub v 0) v, up2 A 1 (6 * f + s 12 f) (sZ S), evM, by omega, by omega, fe, iv_fin G1' G2' re rf bi' (sv_0 h.sv h21 (fun i hi => ?_) (fun k i h1 h2 => eo k i (by omega) (by omega) (by omega) (by omega) (by omega))) ⟨(fm_K fm hx).trans h.ok.1, (fm_N fm hx).trans h.ok.2⟩⟩
    rw [sMe_13, if_neg (by omega)]
end st
