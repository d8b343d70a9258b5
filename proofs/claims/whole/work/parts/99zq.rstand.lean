theorem ln_cln (v : Int32) : ln (cln v (ln v)) = ln v := by
  have hl := ln_le v
  have hu := ub_cln (x := v) (ln v) hl
  have : fst (fun k => decide (ub (cln v (ln v)) k = 0)) 4 = ln v := by
    apply fst_eq _ _ _ hl
    · intro j hj
      have := ln_pos hj
      simp only [decide_eq_false_iff_not]
      rw [hu j (by omega), if_pos hj]; exact this
    · intro h4
      simp only [decide_eq_true_iff]
      rw [hu _ h4, if_neg (Nat.lt_irrefl _)]
  exact this
theorem ub_cl {v : Int32} {k : Nat} (hk : k < ln v) : ub (cln v (ln v)) k = ub v k := by
  have hl := ln_le v
  rw [ub_cln (ln v) hl k (by omega), if_pos hk]
theorem okL_cl {s : Nat → Nat → Nat} {v : Int32} : okL s (cln v (ln v)) ↔ okL s v := by
  unfold okL
  rw [ln_cln]
  constructor
  · intro h k hk; have := h k hk; rwa [ub_cl hk] at this
  · intro h k hk; rw [ub_cl hk]; exact h k hk
theorem ub_0 (k : Nat) : ub 0 k = 0 := by
  unfold ub
  show 0 / 2 ^ (8 * k) % 256 = 0
  rw [Nat.zero_div]
theorem cl_0 {v : Int32} : cln v (ln v) = 0 ↔ ln v = 0 := by
  constructor
  · intro h
    have e := ln_cln v
    rw [h] at e
    rw [← e]; decide
  · intro h; rw [h]; rfl
theorem cleanV_0 {s : Nat → Nat → Nat} {v : Int32} : cleanV s v = 0 ↔ (cln v (ln v) = 0 ∨ ¬ okL s v) := by
  unfold cleanV
  by_cases q : fst (fun k => !isFc s v k) (ln v) < ln v
  · rw [if_pos q]
    constructor
    · intro _; right; rw [okL_iff]; exact fun c => c q
    · intro _; rfl
  · rw [if_neg q]
    have ho : okL s v := okL_iff.mpr q
    constructor
    · intro h; exact .inl h
    · rintro (h | h)
      · exact h
      · exact absurd ho h
theorem cleanV_ok {s : Nat → Nat → Nat} {v : Int32} (h : okL s v) : cleanV s v = cln v (ln v) := by
  unfold cleanV; rw [if_neg (okL_iff.mp h)]
def xN (v : Int32) : Nat := v.toBitVec.toNat
theorem xN_nI (v : Int32) : nI (xN v) = v := by
  show Int32.ofNat v.toBitVec.toNat = v
  apply Int32.toBitVec_inj.mp
  show BitVec.ofNat 32 v.toBitVec.toNat = v.toBitVec
  rw [BitVec.ofNat_toNat, BitVec.setWidth_eq]
theorem xN_lt {s : Nat → Nat → Nat} (b : BI s) {v : Int32} (ho : okL s v) : xN (cln v (ln v)) < 2 ^ 31 := by
  have hF := b.faces
  have hl := ln_le v
  have h32 : xN (cln v (ln v)) < 2 ^ 32 := (cln v (ln v)).toBitVec.isLt
  have h3 : ub (cln v (ln v)) 3 < 36 := by
    rw [ub_cln (ln v) hl 3 (by omega)]
    by_cases q : 3 < ln v
    · rw [if_pos q]; have := ho 3 q; omega
    · rw [if_neg q]; omega
  have e : ub (cln v (ln v)) 3 = xN (cln v (ln v)) / 16777216 % 256 := rfl
  omega
def cntP (s : Nat → Nat → Nat) (pk : Nat) : Nat → Nat
  | 0 => 0
  | k + 1 => if s 24 k = pk then cntP s pk k + 1 else cntP s pk k
theorem cntP_le (s : Nat → Nat → Nat) (pk : Nat) : ∀ k, cntP s pk k ≤ k := by
  intro k
  induction k with
  | zero => exact Nat.le_refl _
  | succ k ih => unfold cntP; split <;> omega
def sSt (s : Nat → Nat → Nat) (l x pk n : Nat) : Nat → Nat → Nat := up2 (up2 (up2 (up2 (up2 s 22 (s 21 0) l) 23 (s 21 0) x) 24 (s 21 0) pk) 25 (s 21 0) n) 21 0 (s 21 0 + 1)
section ref
variable {S : gS} {d e : gD} {m : Nat} {s s' : Nat → Nat → Nat} {q : (Nat → Int64) × Int64 × (Nat → Int64) × (Nat → Int32)}
theorem rp_up {k p p' v : Nat} {a : Nat} {x : Int32} (h : RP S d m s q) (r : RI S (wI d a p x) m (up2 s k p' v)) (ha : a ≠ m + 21) : RP S (wI d a p x) m (up2 s k p' v) q :=
  rp_ch h (ch_w (P := fun b _ => b = a) rfl) r (fun c => fun e => ha e.symm)
theorem r_st_118 (h : RP S d m s q) (b : BI s) {x : Int32} (ho : okL s x) {v1 : Int32} {kx : gD → Int32 → Int32 → Int32 → Option (Int32 × gD)} {z : gD → Int32 → Int32 → Int32 → Int32 → Option (Int32 × gD)} : itr (f_R_stand_B118 S m kx) z fu d v1 x 4 0 = kx d v1 x (nI (pkK s x (ln x))) := by
  have hl := ln_le x
  have hF := b.faces
  refine itr_0 (B := f_R_stand_B118 S m kx) (fun k K => K d v1 x (nI (pkK s x k)) (nI (8 * k))) _ (ln x) (by omega) ?_ ?_
  · intro k hk K hK
    have hok := ho k hk
    have hub := ub_lt x k
    have h9 := b.faceOpen (ub x k - 24)
    simp (maxSteps := 1000000) (disch := omega) only [f_R_stand_B118, f_R_stand_J168, kd_t h.ri.rs.1, rs_P8 h.ri.rs, kd_t (rs_K8 h.ri.rs), rs_N8 h.ri.rs, ri_8 h.ri, rs_P9 h.ri.rs, kd_t (rs_K9 h.ri.rs), rs_N9 h.ri.rs, ri_9 h.ri, lt_t, nn_t, bd_t, bdD_t, bdP_t, nI_clamp, gi_n, nI_add, nI_1, pk_mul, b2_eq0, b2_01, nb_t, if_true, if_false, ni_le, ni_eq, ni_lt, ub_s x (show k < 4 by omega), l24_s, l32_ge, l8_a, l0_e]
    rw [if_neg (by omega), if_neg (by omega)]
    have hst : pkK s x (k + 1) = if s 9 (fc x k) = 0 then s 8 (fc x k) else pkK s x k := rfl
    rw [hst, show 8 * (k + 1) = 8 * k + 8 by omega] at hK
    unfold fc at hK
    by_cases c : s 9 (ub x k - 24) = 0
    · rw [if_pos c] at hK ⊢; exact hK
    · rw [if_neg c] at hK ⊢; exact hK
  · intro K
    by_cases c : ln x = 4
    · rw [c]
      simp only [f_R_stand_B118]
      rw [if_pos (by decide)]
    · have hub := ub_lt x (ln x)
      simp (maxSteps := 1000000) (disch := omega) only [f_R_stand_B118, kd_t h.ri.rs.1, rs_P8 h.ri.rs, kd_t (rs_K8 h.ri.rs), rs_N8 h.ri.rs, ri_8 h.ri, rs_P9 h.ri.rs, kd_t (rs_K9 h.ri.rs), rs_N9 h.ri.rs, ri_9 h.ri, lt_t, nn_t, bd_t, bdD_t, bdP_t, nI_clamp, gi_n, nI_add, nI_1, pk_mul, b2_eq0, b2_01, nb_t, if_true, if_false, ni_le, ni_eq, ni_lt, ub_s x (show ln x < 4 by omega), l32_ge, l0_e]
      rw [if_neg (by omega), if_pos (ln_zero (by omega))]
theorem r_st_180 (h : RP S d m s q) (b : BI s) {x : Int32} {pk : Nat} (hp : pk < 2 ^ 31) {v1 : Int32} {kx : gD → Int32 → Int32 → Int32 → Int32 → Option (Int32 × gD)} {z : gD → Int32 → Int32 → Int32 → Int32 → Int32 → Option (Int32 × gD)} : itr (f_R_stand_B180 S m kx) z fu d v1 x (nI pk) 0 0 = kx d v1 x (nI pk) (nI (cntP s pk (s 21 0))) := by
  have hS := b.stands
  refine itr_0 (B := f_R_stand_B180 S m kx) (fun k K => K d v1 x (nI pk) (nI (cntP s pk k)) (nI k)) _ (s 21 0) (by omega) ?_ ?_
  · intro k hk K hK
    have hcn := cntP_le s pk k
    have h24 := b.lt 24 k
    simp (maxSteps := 1000000) (disch := omega) only [f_R_stand_B180, f_R_stand_J204, kd_t h.ri.rs.1, rs_P24 h.ri.rs, kd_t (rs_K24 h.ri.rs), rs_N24 h.ri.rs, ri_24 h.ri, ri_21 h.ri, l1_m, l1_a, l1_b, l1_s, l1_e, l1_le, l1_ge, l1_lt, l1_gt, lt_t, nn_t, bd_t, bdD_t, bdP_t, nI_clamp, gi_n, nI_add, nI_1, pk_mul, b2_eq0, b2_01, nb_t, if_true, if_false, ni_le, ni_eq, ni_lt]
    rw [if_neg (by omega)]
    have hst : cntP s pk (k + 1) = if s 24 k = pk then cntP s pk k + 1 else cntP s pk k := rfl
    rw [hst] at hK
    by_cases c : s 24 k = pk
    · rw [if_pos c] at hK ⊢; exact hK
    · rw [if_neg c] at hK ⊢; exact hK
  · intro K
    simp (maxSteps := 1000000) (disch := omega) only [f_R_stand_B180, kd_t h.ri.rs.1, rs_P24 h.ri.rs, kd_t (rs_K24 h.ri.rs), rs_N24 h.ri.rs, ri_24 h.ri, ri_21 h.ri, l1_m, l1_a, l1_b, l1_s, l1_e, l1_le, l1_ge, l1_lt, l1_gt, lt_t, nn_t, bd_t, bdD_t, bdP_t, nI_clamp, gi_n, nI_add, nI_1, pk_mul, b2_eq0, b2_01, nb_t, if_true, if_false, ni_le, ni_eq, ni_lt]
    rw [if_pos (Nat.le_refl _)]
theorem r_st_210 (h : RP S d m s q) (b : BI s) {l x pk n : Nat} (h16 : s 21 0 < 16) : ∃ e, f_R_stand_J210 S m d (nI l) (nI x) (nI pk) (nI n) = some (nI (s 21 0), e) ∧ RP S e m (sSt s l x pk n) q ∧ Rf m d e ∧ dI e m 0 = dI d m 0 := by
  have h1 := rp_up h (rw_22 h.ri (s 21 0) l) (by omega)
  have h2 := rp_up h1 (rw_23 h1.ri (s 21 0) x) (by omega)
  have h3 := rp_up h2 (rw_24 h2.ri (s 21 0) pk) (by omega)
  have h4 := rp_up h3 (rw_25 h3.ri (s 21 0) n) (by omega)
  have h5 := rp_up h4 (rw_21 h4.ri (s 21 0 + 1)) (by omega)
  have n21 : ∀ (t : Nat → Nat → Nat) (k p v : Nat), 21 ≠ k → up2 t k p v 21 0 = t 21 0 := fun t k p v hn => up2_ne hn 0
  have g1 := ri_21 h1.ri
  have g2 := ri_21 h2.ri
  have g3 := ri_21 h3.ri
  have g4 := ri_21 h4.ri
  have g5 := ri_21 h5.ri
  rw [n21 _ _ _ _ (by decide)] at g1
  rw [n21 _ _ _ _ (by decide), n21 _ _ _ _ (by decide)] at g2
  rw [n21 _ _ _ _ (by decide), n21 _ _ _ _ (by decide), n21 _ _ _ _ (by decide)] at g3
  rw [n21 _ _ _ _ (by decide), n21 _ _ _ _ (by decide), n21 _ _ _ _ (by decide), n21 _ _ _ _ (by decide)] at g4
  rw [up2_eq] at g5
  refine ⟨_, ?_, h5, rf_t (rf_t (rf_t (rf_t (rf_w (by omega)) (rf_w (by omega))) (rf_w (by omega))) (rf_w (by omega))) (rf_w (by omega)), ?_⟩
  · simp (maxSteps := 1000000) (disch := omega) only [f_R_stand_J210, kd_t h.ri.rs.1, rs_P22 h.ri.rs, kd_t (rs_K22 h.ri.rs), rs_N22 h.ri.rs, ri_22 h.ri, rs_P23 h.ri.rs, kd_t (rs_K23 h.ri.rs), rs_N23 h.ri.rs, ri_23 h.ri, rs_P24 h.ri.rs, kd_t (rs_K24 h.ri.rs), rs_N24 h.ri.rs, ri_24 h.ri, rs_P25 h.ri.rs, kd_t (rs_K25 h.ri.rs), rs_N25 h.ri.rs, ri_25 h.ri, ri_21 h.ri, l1_m, l1_a, l1_b, l1_s, l1_e, l1_le, l1_ge, l1_lt, l1_gt, lt_t, nn_t, bd_t, bdD_t, bdP_t, nI_clamp, gi_n, nI_add, nI_1, pk_mul, b2_eq0, b2_01, nb_t, if_true, if_false, ni_le, ni_eq, ni_lt, g1, g2, g3, g4, g5]
    rw [show s 21 0 + 1 - 1 = s 21 0 by omega]
  · rw [dI_wI, if_neg (by omega), dI_wI, if_neg (by omega), dI_wI, if_neg (by omega), dI_wI, if_neg (by omega), dI_wI, if_neg (by omega)]
def stHit (s : Nat → Nat → Nat) (l : Nat) (x : Int32) (c : Nat) : Bool := decide (s 22 c = l) && decide (nI (s 23 c) = x)
theorem r_stand_1 (h : RP S d m s q) (b : BI s) {v1 v2 : Int32} (hn : cIn 0 (nI (s 1 0)) v1 = false ∨ cleanV s v2 = 0) : ∃ e, f_R_stand S d m v1 v2 = some (0, e) ∧ RP S e m (up2 s 28 0 0) q ∧ Rf m d e ∧ dI e m 0 = 1 := by
  have h1 := rp_up h (rw_28 h.ri 0) (by omega)
  have b1 : cleanV (up2 s 28 0 0) v2 = cleanV s v2 := rfl
  have e1 : up2 s 28 0 0 1 0 = s 1 0 := rfl
  have hL := b.loaders
  have h2 := rp_w0 (v := 1) h1
  have bb : BI (up2 s 28 0 0) := by
    have e : ∀ k i, k ≠ 28 → up2 s 28 0 0 k i = s k i := fun k i hk => up2_ne hk i
    exact ⟨(fun k i => by
        unfold up2; split
        · omega
        · exact b.lt k i), (by simp (disch := decide) only [e]; exact b.loaders), (by simp (disch := decide) only [e]; exact b.parentL), (by simp (disch := decide) only [e]; exact b.classes), (by simp (disch := decide) only [e]; exact b.parentC), (by simp (disch := decide) only [e]; exact b.faces), (by simp (disch := decide) only [e]; exact b.faceL), (by simp (disch := decide) only [e]; exact b.facePack), (by simp (disch := decide) only [e]; exact b.faceOpen), (by simp (disch := decide) only [e]; exact b.parentN), (by simp (disch := decide) only [e]; exact b.parentN0), (by simp (disch := decide) only [e]; exact b.parentF), (by simp (disch := decide) only [e]; exact b.ownN), (by simp (disch := decide) only [e]; exact b.ownN0), (by simp (disch := decide) only [e]; exact b.throwN), (by simp (disch := decide) only [e]; exact b.throwT), (by simp (disch := decide) only [e]; exact b.throwD), (by simp (disch := decide) only [e]; exact b.takeT), (by simp (disch := decide) only [e]; exact b.takeZ), (by simp (disch := decide) only [e]; exact b.resT), (by simp (disch := decide) only [e]; exact b.nameT), (by simp (disch := decide) only [e]; exact b.objects), (by simp (disch := decide) only [e]; exact b.stands)⟩
  have hcl := r_cleaned h1.ri bb v2
  rw [b1] at hcl
  have j28 : f_R_stand_J28 S m (wI d m 28 (nI 0)) v1 (cleanV s v2) (some m) = some (0, wI (wI d m 28 (nI 0)) m 0 1) := by
    have g0 : dI (wI (wI d m 28 (nI 0)) m 0 1) m 0 = 1 := by rw [dI_wI, if_pos ⟨rfl, rfl⟩]
    simp only [f_R_stand_J28, f_R_stand_J33, nn_t, kd_t h.ri.rs.1, lt_t, g0]
    rw [if_neg (by decide)]
  refine ⟨wI (wI d m 28 (nI 0)) m 0 1, ?_, h2, rf_t (rf_w (by omega)) (rf_w (by omega)), by rw [dI_wI, if_pos ⟨rfl, rfl⟩]⟩
  have g1 := ri_1 h1.ri
  rw [e1] at g1
  simp only [f_R_stand, kd_t h.ri.rs.1, lt_t]
  rw [show wI d m 28 0 = wI d m 28 (nI 0) from rfl]
  simp only [hcl, bd_t, g1]
  by_cases q1 : v1 < 0
  · rw [if_pos q1]; exact j28
  · rw [if_neg q1]
    by_cases q2 : nI (s 1 0) ≤ v1
    · rw [if_pos q2]; exact j28
    · rw [if_neg q2, if_pos]
      · exact j28
      · rcases hn with hn | hn
        · unfold cIn at hn
          rw [Bool.and_eq_false_iff, decide_eq_false_iff_not, decide_eq_false_iff_not] at hn
          rcases hn with c | c
          · exact absurd (Int32.not_lt.mp q1) c
          · exact absurd (Int32.not_le.mp q2) c
        · exact hn
theorem bi_28 (b : BI s) {v : Nat} (hv : v < 2 ^ 31) : BI (up2 s 28 0 v) := by
  have e : ∀ k i, k ≠ 28 → up2 s 28 0 v k i = s k i := fun k i hk => up2_ne hk i
  exact ⟨(fun k i => by
      unfold up2; split
      · exact hv
      · exact b.lt k i), (by simp (disch := decide) only [e]; exact b.loaders), (by simp (disch := decide) only [e]; exact b.parentL), (by simp (disch := decide) only [e]; exact b.classes), (by simp (disch := decide) only [e]; exact b.parentC), (by simp (disch := decide) only [e]; exact b.faces), (by simp (disch := decide) only [e]; exact b.faceL), (by simp (disch := decide) only [e]; exact b.facePack), (by simp (disch := decide) only [e]; exact b.faceOpen), (by simp (disch := decide) only [e]; exact b.parentN), (by simp (disch := decide) only [e]; exact b.parentN0), (by simp (disch := decide) only [e]; exact b.parentF), (by simp (disch := decide) only [e]; exact b.ownN), (by simp (disch := decide) only [e]; exact b.ownN0), (by simp (disch := decide) only [e]; exact b.throwN), (by simp (disch := decide) only [e]; exact b.throwT), (by simp (disch := decide) only [e]; exact b.throwD), (by simp (disch := decide) only [e]; exact b.takeT), (by simp (disch := decide) only [e]; exact b.takeZ), (by simp (disch := decide) only [e]; exact b.resT), (by simp (disch := decide) only [e]; exact b.nameT), (by simp (disch := decide) only [e]; exact b.objects), (by simp (disch := decide) only [e]; exact b.stands)⟩
theorem fault_le (l : Nat) (x : Int32) : fault s l x ≤ 6 := by
  unfold fault
  split
  · omega
  · split
    · omega
    · split
      · omega
      · split
        · omega
        · split
          · omega
          · split <;> omega
theorem r_stand_y (h : RP S d m s q) (b : BI s) {l : Nat} (hl : l < s 1 0) {v : Int32} (ho : okL s v) (hx : cln v (ln v) ≠ 0) : ∃ e r s', f_R_stand S d m (nI l) v = some (r, e) ∧ RP S e m s' q ∧ Rf m d e ∧ ((fst (stHit s l (cln v (ln v))) (s 21 0) < s 21 0 ∧ r = nI (fst (stHit s l (cln v (ln v))) (s 21 0)) ∧ s' = up2 s 28 0 0 ∧ dI e m 0 = 0) ∨ (fst (stHit s l (cln v (ln v))) (s 21 0) = s 21 0 ∧ fault (up2 s 28 0 0) l (cln v (ln v)) ≠ 0 ∧ r = 0 ∧ s' = up2 s 28 0 (fault (up2 s 28 0 0) l (cln v (ln v))) ∧ dI e m 0 = 2) ∨ (fst (stHit s l (cln v (ln v))) (s 21 0) = s 21 0 ∧ fault (up2 s 28 0 0) l (cln v (ln v)) = 0 ∧ r = nI (s 21 0) ∧ s' = sSt (up2 s 28 0 0) l (xN (cln v (ln v))) (pkK s (cln v (ln v)) (ln v)) (cntP s (pkK s (cln v (ln v)) (ln v)) (s 21 0)) ∧ dI e m 0 = 0)) := by
  have hL := b.loaders
  have hS := b.stands
  have h1 := rp_up h (rw_28 h.ri 0) (by omega)
  have bb := bi_28 b (show 0 < 2 ^ 31 by omega)
  have hcl := r_cleaned h1.ri bb v
  have b1 : cleanV (up2 s 28 0 0) v = cleanV s v := rfl
  rw [b1, cleanV_ok ho] at hcl
  have h2 := rp_w0 (v := 0) h1
  have g1 := ri_1 h1.ri
  rw [show up2 s 28 0 0 1 0 = s 1 0 from rfl] at g1
  generalize hX : cln v (ln v) = x at *
  have hox : okL s x := by rw [← hX]; exact okL_cl.mpr ho
  have hlx : ln x = ln v := by rw [← hX]; exact ln_cln v
  have ev0 : f_R_stand S d m (nI l) v = itr (f_R_stand_B48 S m (f_R_stand_J88 S m)) (fun _ _ _ _ => none) fu (wI (wI d m 28 (nI 0)) m 0 0) (nI l) x 0 := by
    have g0 : dI (wI (wI d m 28 (nI 0)) m 0 0) m 0 = 0 := by rw [dI_wI, if_pos ⟨rfl, rfl⟩]
    simp only [f_R_stand, kd_t h.ri.rs.1, lt_t]
    rw [show wI d m 28 0 = wI d m 28 (nI 0) from rfl]
    simp only [hcl, bd_t, g1]
    rw [if_neg (nI_pos (by omega)), if_neg (fun c => by rw [nI_leI (by omega) (by omega)] at c; omega), if_neg hx]
    simp only [f_R_stand_J33, nn_t, kd_t h.ri.rs.1, lt_t, g0]
    rw [if_pos trivial]
  have hit : ∀ k, k < s 21 0 → ∀ K, f_R_stand_B48 S m (f_R_stand_J88 S m) K (wI (wI d m 28 (nI 0)) m 0 0) (nI l) x (nI k) = if stHit s l x k then some (nI k, wI (wI d m 28 (nI 0)) m 0 0) else K (wI (wI d m 28 (nI 0)) m 0 0) (nI l) x (nI (k + 1)) := by
    intro k hk K
    have h22 := b.lt 22 k
    have r22 := ri_22 h2.ri (i := k) (by omega)
    have r23 := ri_23 h2.ri (i := k) (by omega)
    rw [show up2 s 28 0 0 22 k = s 22 k from rfl] at r22
    rw [show up2 s 28 0 0 23 k = s 23 k from rfl] at r23
    have r21 := ri_21 h2.ri
    rw [show up2 s 28 0 0 21 0 = s 21 0 from rfl] at r21
    simp (maxSteps := 1000000) (disch := omega) only [f_R_stand_B48, f_R_stand_J82, kd_t h.ri.rs.1, lt_t, r21, ni_le, rs_P22 h.ri.rs, nn_t, kd_t (rs_K22 h.ri.rs), rs_N22 h.ri.rs, gi_n, nI_clamp, r22, ni_eq, rs_P23 h.ri.rs, kd_t (rs_K23 h.ri.rs), rs_N23 h.ri.rs, r23, l1_a]
    rw [if_neg (by omega)]
    unfold stHit
    by_cases c1 : s 22 k = l
    · rw [if_pos c1, decide_eq_true c1, Bool.true_and]
      by_cases c2 : nI (s 23 k) = x
      · rw [if_pos c2, decide_eq_true c2, if_pos rfl]
      · rw [if_neg c2, decide_eq_false c2, if_neg (by decide)]
    · rw [if_neg c1, decide_eq_false c1, Bool.false_and, if_neg (by decide)]
  have hend : ∀ K, f_R_stand_B48 S m (f_R_stand_J88 S m) K (wI (wI d m 28 (nI 0)) m 0 0) (nI l) x (nI (s 21 0)) = f_R_stand_J88 S m (wI (wI d m 28 (nI 0)) m 0 0) (nI l) x := by
    intro K
    have r21 := ri_21 h2.ri
    rw [show up2 s 28 0 0 21 0 = s 21 0 from rfl] at r21
    simp (disch := omega) only [f_R_stand_B48, kd_t h.ri.rs.1, lt_t, r21, ni_le]
    rw [if_pos (Nat.le_refl _)]
  have rf2 : Rf m d (wI (wI d m 28 (nI 0)) m 0 0) := rf_t (rf_w (by omega)) (rf_w (by omega))
  have z2 : dI (wI (wI d m 28 (nI 0)) m 0 0) m 0 = 0 := by rw [dI_wI, if_pos ⟨rfl, rfl⟩]
  have hle := fst_le (stHit s l x) (s 21 0)
  by_cases qf : fst (stHit s l x) (s 21 0) < s 21 0
  · refine ⟨wI (wI d m 28 (nI 0)) m 0 0, nI (fst (stHit s l x) (s 21 0)), up2 s 28 0 0, ?_, h2, rf2, .inl ⟨qf, rfl, rfl, z2⟩⟩
    rw [ev0]
    refine itr_f (B := f_R_stand_B48 S m (f_R_stand_J88 S m)) (fun k K => K (wI (wI d m 28 (nI 0)) m 0 0) (nI l) x (nI k)) (stHit s l x) (s 21 0) _ (by omega) ?_ ?_ ?_
    · intro k hk hp K hK
      rw [hit k hk, hp, if_neg (by decide)]; exact hK
    · intro k hk hp he K
      rw [hit k hk, hp, if_pos rfl, he]
    · intro he; omega
  · have qe : fst (stHit s l x) (s 21 0) = s 21 0 := by omega
    have ev1 : f_R_stand S d m (nI l) v = f_R_stand_J88 S m (wI (wI d m 28 (nI 0)) m 0 0) (nI l) x := by
      rw [ev0]
      refine itr_f (B := f_R_stand_B48 S m (f_R_stand_J88 S m)) (fun k K => K (wI (wI d m 28 (nI 0)) m 0 0) (nI l) x (nI k)) (stHit s l x) (s 21 0) _ (by omega) ?_ ?_ ?_
      · intro k hk hp K hK
        rw [hit k hk, hp, if_neg (by decide)]; exact hK
      · intro k hk hp he K; omega
      · intro he K; exact hend K
    obtain ⟨e3, f3, c3⟩ := r_faultOf (l := l) h2.ri bb hl (x := x) hox
    have h3 := rp_ch h2 c3 (ri_PD h2.ri c3) pd_21
    have hfle := fault_le (s := up2 s 28 0 0) l x
    generalize hF : fault (up2 s 28 0 0) l x = F at *
    have h4 := rp_up h3 (rw_28 h3.ri F) (by omega)
    have e28 : up2 (up2 s 28 0 0) 28 0 F = up2 s 28 0 F := by
      funext k i
      unfold up2
      split <;> rfl
    rw [e28] at h4
    have g4 : dI (wI e3 m 28 (nI F)) m 28 = nI F := by rw [dI_wI, if_pos ⟨rfl, rfl⟩]
    have z4 : dI (wI e3 m 28 (nI F)) m 0 = 0 := by rw [dI_wI, if_neg (by omega), c3.2 _ _ (by unfold PD; omega)]; exact z2
    have rf4 : Rf m d (wI e3 m 28 (nI F)) := rf_t (rf_t rf2 (rf_PD c3)) (rf_w (by omega))
    by_cases qF : F = 0
    · have b4 : BI (up2 s 28 0 F) := bi_28 b (by omega)
      have hfe := hF
      unfold fault at hfe
      have h16 : s 21 0 < 16 := by
        rw [qF] at hfe
        have e21 : up2 s 28 0 0 21 0 = s 21 0 := rfl
        rw [e21] at hfe
        by_cases c : s 21 0 = 16
        · exfalso
          rw [if_pos c] at hfe
          split at hfe
          · omega
          · split at hfe
            · omega
            · split at hfe
              · omega
              · split at hfe
                · omega
                · split at hfe <;> omega
        · omega
      have hpk : pkK (up2 s 28 0 F) x (ln x) = pkK s x (ln v) := by
        rw [hlx]
        have : ∀ n, pkK (up2 s 28 0 F) x n = pkK s x n := by
          intro n
          induction n with
          | zero => rfl
          | succ n ih => unfold pkK; rw [ih]; rfl
        exact this _
      have hpl : pkK s x (ln v) ≤ 4 := by rw [← hlx]; exact pkK_le b hox _ (Nat.le_refl _)
      have hcn : cntP (up2 s 28 0 F) (pkK s x (ln v)) (up2 s 28 0 F 21 0) = cntP s (pkK s x (ln v)) (s 21 0) := by
        have : ∀ n, cntP (up2 s 28 0 F) (pkK s x (ln v)) n = cntP s (pkK s x (ln v)) n := by
          intro n
          induction n with
          | zero => rfl
          | succ n ih => unfold cntP; rw [ih]; rfl
        exact this _
      obtain ⟨e5, f5, r5, rf5, z5⟩ := r_st_210 (l := l) (x := xN x) (pk := pkK s x (ln v)) (n := cntP s (pkK s x (ln v)) (s 21 0)) h4 b4 h16
      rw [xN_nI] at f5
      refine ⟨e5, nI (s 21 0), _, ?_, r5, rf_t rf4 rf5, .inr (.inr ⟨qe, qF, rfl, by rw [qF], z5.trans z4⟩)⟩
      rw [ev1]
      simp only [f_R_stand_J88, kd_t h.ri.rs.1, f3, bdD_t, lt_t, g4]
      rw [if_pos (by rw [qF]; rfl), r_st_118 h4 b4 hox, hpk]
      simp only [f_R_stand_J174]
      rw [r_st_180 h4 b4 (by omega), hcn]
      exact f5
    · refine ⟨wI (wI e3 m 28 (nI F)) m 0 2, 0, up2 s 28 0 F, ?_, rp_w0 h4, rf_t rf4 (rf_w (by omega)), .inr (.inl ⟨qe, qF, rfl, rfl, by rw [dI_wI, if_pos ⟨rfl, rfl⟩]⟩)⟩
      rw [ev1]
      simp only [f_R_stand_J88, kd_t h.ri.rs.1, f3, bdD_t, lt_t, g4]
      rw [if_neg (fun c => qF (by rw [l0_e _ (by omega)] at c; exact c))]
end ref
