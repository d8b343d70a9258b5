section ref
variable {S : gS} {d : gD} {m : Nat} {s : Nat → Nat → Nat}
def PL (m : Nat) (a _j : Nat) : Prop := a = m + 23 ∨ a = m + 24
theorem ri_PL {e : gD} (h : RI S d m s) (g : Ch (PL m) d e) : RI S e m s := ri_ch h g (fun a j p => by unfold PL at p; omega)
def LT (d : gD) (m : Nat) (s : Nat → Nat → Nat) (n : Nat) : Prop := ∀ g, g < n → dI d (m + 24) g = nI (lst s g).length ∧ Row d (m + 23) (72 * g) (lst s g)
theorem r_lm_h1 (h : RI S d m s) (b : BI s) {f x : Nat} (hf : f < 12) (hx : x < 75) {v2 v3 v4 v5 : Int32} {kx : gD → Int32 → Int32 → Int32 → Int32 → Int32 → Int32 → Int32 → Option (Unit × gD)} {z : gD → Int32 → Int32 → Int32 → Int32 → Int32 → Int32 → Int32 → Int32 → Option (Unit × gD)} : itr (f_R_listMethods_B110 S m kx) z fu d (nI f) v2 v3 v4 v5 (nI x) 0 0 = kx d (nI f) v2 v3 v4 v5 (nI x) (b2 (hid s f x)) := by
  have ho := b.ownN f
  refine itr_0 (B := f_R_listMethods_B110 S m kx) (fun k K => K d (nI f) v2 v3 v4 v5 (nI x) (b2 (anyb (fun j => sg s (6 * f + j) x) k)) (nI k)) _ (s 12 f) (by omega) ?_ ?_
  · intro k hk K hK
    simp (maxSteps := 1000000) (disch := omega) only [f_R_listMethods_B110, f_R_listMethods_J140, kd_t h.rs.1, rs_P12 h.rs, kd_t (rs_K12 h.rs), rs_N12 h.rs, ri_12 h, l0_e, l0_le, l0_ge, l0_lt, l0_gt, l1_m, l1_a, l1_b, l1_s, l1_e, l1_le, l1_ge, l1_lt, l1_gt, l6_m, l6_a, l6_b, l6_s, l6_e, l6_le, l6_ge, l6_lt, l6_gt, lt_t, nn_t, bd_t, bdD_t, bdP_t, nI_clamp, gi_n, nI_add, nI_1, pk_mul, b2_eq0, b2_01, nb_t, if_true, if_false, ni_le, ni_eq, ni_lt, r_sameSignature h b]
    rw [if_neg (by omega)]
    rw [anyb_s] at hK
    cases q : sg s (6 * f + k) x with
    | false => rw [q, Bool.or_false] at hK; rw [if_pos rfl]; exact hK
    | true => rw [q, Bool.or_true] at hK; rw [if_neg (by decide)]; exact hK
  · intro K
    simp (maxSteps := 1000000) (disch := omega) only [f_R_listMethods_B110, kd_t h.rs.1, rs_P12 h.rs, kd_t (rs_K12 h.rs), rs_N12 h.rs, ri_12 h, l0_e, l0_le, l0_ge, l0_lt, l0_gt, l1_m, l1_a, l1_b, l1_s, l1_e, l1_le, l1_ge, l1_lt, l1_gt, l6_m, l6_a, l6_b, l6_s, l6_e, l6_le, l6_ge, l6_lt, l6_gt, lt_t, nn_t, bd_t, bdD_t, bdP_t, nI_clamp, gi_n, nI_add, nI_1, pk_mul, b2_eq0, b2_01, nb_t, if_true, if_false, ni_le, ni_eq, ni_lt]
    rw [if_pos (by omega)]
    rfl
theorem r_lm_h2 (h : RI S d m s) {f x : Nat} (hf : f < 12) (hx : x < 75) {acc : List Nat} (hr : Row d (m + 23) (72 * f) acc) (hl : acc.length ≤ 72) (ha : ∀ y, y ∈ acc → y < 75) {v3 v4 v5 : Int32} {h1 : Bool} {kx : gD → Int32 → Int32 → Int32 → Int32 → Int32 → Int32 → Int32 → Option (Unit × gD)} {z : gD → Int32 → Int32 → Int32 → Int32 → Int32 → Int32 → Int32 → Int32 → Option (Unit × gD)} : itr (f_R_listMethods_B149 S m kx) z fu d (nI f) (nI acc.length) v3 v4 v5 (nI x) (b2 h1) 0 = kx d (nI f) (nI acc.length) v3 v4 v5 (nI x) (b2 (h1 || decide (x ∈ acc))) := by
  have e0 : b2 h1 = b2 (h1 || anyb (fun j => decide (acc.getD j 0 = x)) 0) := by rw [anyb_0, Bool.or_false]
  rw [← anyb_mem, e0]
  refine itr_0 (B := f_R_listMethods_B149 S m kx) (fun k K => K d (nI f) (nI acc.length) v3 v4 v5 (nI x) (b2 (h1 || anyb (fun j => decide (acc.getD j 0 = x)) k)) (nI k)) _ acc.length (by omega) ?_ ?_
  · intro k hk K hK
    have hy := ha _ (getD_mem hk)
    simp (maxSteps := 1000000) (disch := omega) only [f_R_listMethods_B149, f_R_listMethods_J175, kd_t h.rs.1, rs_P29 h.rs, kd_t (rs_K29 h.rs), rs_N29 h.rs, l1_m, l1_a, l1_b, l1_s, l1_e, l1_le, l1_ge, l1_lt, l1_gt, l72_m, l72_a, l72_b, l72_s, l72_e, l72_le, l72_ge, l72_lt, l72_gt, lt_t, nn_t, bd_t, bdD_t, bdP_t, nI_clamp, gi_n, nI_add, nI_1, pk_mul, b2_eq0, b2_01, nb_t, if_true, if_false, ni_le, ni_eq, ni_lt, hr k hk]
    rw [if_neg (by omega)]
    rw [anyb_s] at hK
    by_cases q : acc.getD k 0 = x
    · rw [decide_eq_true q, Bool.or_true, Bool.or_true] at hK; rw [if_pos q]; exact hK
    · rw [decide_eq_false q, Bool.or_false] at hK; rw [if_neg q]; exact hK
  · intro K
    simp (maxSteps := 1000000) (disch := omega) only [f_R_listMethods_B149, kd_t h.rs.1, rs_P29 h.rs, kd_t (rs_K29 h.rs), rs_N29 h.rs, l1_m, l1_a, l1_b, l1_s, l1_e, l1_le, l1_ge, l1_lt, l1_gt, l72_m, l72_a, l72_b, l72_s, l72_e, l72_le, l72_ge, l72_lt, l72_gt, lt_t, nn_t, bd_t, bdD_t, bdP_t, nI_clamp, gi_n, nI_add, nI_1, pk_mul, b2_eq0, b2_01, nb_t, if_true, if_false, ni_le, ni_eq, ni_lt, ni_le]
    rw [if_pos (by omega)]
theorem lt_ch {P : Nat → Nat → Prop} {e : gD} {n : Nat} (h : LT d m s n) (g : Ch P d e) (k : ∀ f, f < n → ¬ P (m + 24) f ∧ ∀ i, i < (lst s f).length → ¬ P (m + 23) (72 * f + i)) : LT e m s n := fun f hf => ⟨(g.2 _ _ (k f hf).1).trans (h f hf).1, row_ch (h f hf).2 g (k f hf).2⟩
theorem r_lm_77 (h : RI S d m s) (b : BI s) {f o : Nat} (hf : f < s 5 0) (ho : o < f) (hlt : LT d m s f) {acc : List Nat} (hg : gl s acc) (hr : Row d (m + 23) (72 * f) acc) {v3 : Int32} (Q : Option (Unit × gD) → Prop) {kx : gD → Int32 → Int32 → Int32 → Option (Unit × gD)} {z : gD → Int32 → Int32 → Int32 → Int32 → Int32 → Option (Unit × gD)} (hk : ∀ e, RI S e m s → Ch (PL m) d e → LT e m s f → Row e (m + 23) (72 * f) (inhL s f acc (lst s o) (lst s o).length) → Q (kx e (nI f) (nI (inhL s f acc (lst s o) (lst s o).length).length) v3)) : Q (itr (f_R_listMethods_B77 S m kx) z fu d (nI f) (nI acc.length) v3 (nI o) 0) := by
  have hF := b.faces
  have hgo := gl_lst b _ o (Nat.lt_succ_self _) (by omega)
  have hlo := gl_len b hgo
  refine itr_q (B := f_R_listMethods_B77 S m kx) (fun (x : gD × Nat) K => K x.1 (nI f) (nI (inhL s f acc (lst s o) x.2).length) v3 (nI o) (nI x.2)) Q (fun k x => x.2 = k ∧ RI S x.1 m s ∧ Ch (PL m) d x.1 ∧ LT x.1 m s f ∧ Row x.1 (m + 23) (72 * f) (inhL s f acc (lst s o) k)) (lst s o).length (by omega) ?_ ?_ (x := (d, 0)) ⟨rfl, h, ch_r, hlt, hr⟩
  · rintro k hkk ⟨e, k'⟩ ⟨rfl, he, hc, hl2, hr2⟩ K hK
    simp only at hkk he hc hl2 hr2 hK ⊢
    have hL := hl2 o ho
    have hga := gl_inhL (f := f) hg hgo k' (by omega)
    have hla := gl_len b hga
    have hx := hgo.2 _ (getD_mem hkk)
    have hx72 : (lst s o).getD k' 0 < 72 := by have := hx.1; omega
    simp (maxSteps := 1000000) (disch := omega) only [f_R_listMethods_B77, f_R_listMethods_J146, kd_t he.rs.1, rs_P29 he.rs, kd_t (rs_K29 he.rs), rs_N29 he.rs, rs_P30 he.rs, kd_t (rs_K30 he.rs), rs_N30 he.rs, l0_e, l0_le, l0_ge, l0_lt, l0_gt, l72_m, l72_a, l72_b, l72_s, l72_e, l72_le, l72_ge, l72_lt, l72_gt, lt_t, nn_t, bd_t, bdD_t, bdP_t, nI_clamp, gi_n, nI_add, nI_1, pk_mul, b2_eq0, b2_01, nb_t, if_true, if_false, ni_le, ni_eq, ni_lt, hL.1, hL.2 k' hkk, ni_le, r_lm_h1 he b (show f < 12 by omega) (show (lst s o).getD k' 0 < 75 by omega), r_lm_h2 he (show f < 12 by omega) (show (lst s o).getD k' 0 < 75 by omega) hr2 hla (fun y hy => by have := (hga.2 y hy).1; omega)]
    rw [if_neg (by omega)]
    have hstep : inhL s f acc (lst s o) (k' + 1) = inh1 s f (inhL s f acc (lst s o) k') ((lst s o).getD k' 0) := rfl
    have hga1 := gl_inhL (f := f) hg hgo (k' + 1) (by omega)
    have hla1 := gl_len b hga1
    have fin := fun e' h1 h2 h3 h4 => hK (e', k' + 1) ⟨rfl, h1, h2, h3, h4⟩
    simp only at fin
    rw [hstep] at fin hla1
    unfold inh1 at fin hla1
    cases q : (hid s f ((lst s o).getD k' 0) || decide ((lst s o).getD k' 0 ∈ inhL s f acc (lst s o) k')) with
    | true =>
      rw [q, if_pos rfl] at fin
      simp (maxSteps := 1000000) (disch := omega) only [f_R_listMethods_J181, f_R_listMethods_J202, kd_t he.rs.1, rs_P29 he.rs, kd_t (rs_K29 he.rs), rs_N29 he.rs, l0_e, l0_le, l0_ge, l0_lt, l0_gt, l1_m, l1_a, l1_b, l1_s, l1_e, l1_le, l1_ge, l1_lt, l1_gt, l72_m, l72_a, l72_b, l72_s, l72_e, l72_le, l72_ge, l72_lt, l72_gt, lt_t, nn_t, bd_t, bdD_t, bdP_t, nI_clamp, gi_n, nI_add, nI_1, pk_mul, b2_eq0, b2_01, nb_t, if_true, if_false, ni_le, ni_eq, ni_lt]
      rw [if_neg (by decide)]
      exact fin e he hc hl2 hr2
    | false =>
      rw [q, if_neg (by decide)] at fin hla1
      rw [List.length_append, List.length_singleton] at fin hla1
      simp (maxSteps := 1000000) (disch := omega) only [f_R_listMethods_J181, f_R_listMethods_J202, kd_t he.rs.1, rs_P29 he.rs, kd_t (rs_K29 he.rs), rs_N29 he.rs, l0_e, l0_le, l0_ge, l0_lt, l0_gt, l1_m, l1_a, l1_b, l1_s, l1_e, l1_le, l1_ge, l1_lt, l1_gt, l72_m, l72_a, l72_b, l72_s, l72_e, l72_le, l72_ge, l72_lt, l72_gt, lt_t, nn_t, bd_t, bdD_t, bdP_t, nI_clamp, gi_n, nI_add, nI_1, pk_mul, b2_eq0, b2_01, nb_t, if_true, if_false, ni_le, ni_eq, ni_lt]
      have hw : Ch (PL m) e (wI e (m + 23) (72 * f + (inhL s f acc (lst s o) k').length) (nI ((lst s o).getD k' 0))) := ch_w (.inl rfl)
      refine fin _ (ri_PL he hw) (ch_t hc hw) ?_ (row_w hr2)
      have hw2 : Ch (fun a j => a = m + 23 ∧ j = 72 * f + (inhL s f acc (lst s o) k').length) e (wI e (m + 23) (72 * f + (inhL s f acc (lst s o) k').length) (nI ((lst s o).getD k' 0))) := ch_w ⟨rfl, rfl⟩
      refine lt_ch hl2 hw2 (fun g hg => ⟨by omega, fun i hi => ?_⟩)
      have := gl_len b (gl_lst b _ g (Nat.lt_succ_self _) (by omega))
      omega
  · rintro ⟨e, k'⟩ ⟨rfl, he, hc, hl2, hr2⟩ K
    simp only at he hc hl2 hr2 ⊢
    have hL := hl2 o ho
    simp (maxSteps := 1000000) (disch := omega) only [f_R_listMethods_B77, kd_t he.rs.1, rs_P29 he.rs, kd_t (rs_K29 he.rs), rs_N29 he.rs, rs_P30 he.rs, kd_t (rs_K30 he.rs), rs_N30 he.rs, l0_e, l0_le, l0_ge, l0_lt, l0_gt, l72_m, l72_a, l72_b, l72_s, l72_e, l72_le, l72_ge, l72_lt, l72_gt, lt_t, nn_t, bd_t, bdD_t, bdP_t, nI_clamp, gi_n, nI_add, nI_1, pk_mul, b2_eq0, b2_01, nb_t, if_true, if_false, ni_le, ni_eq, ni_lt, hL.1, ni_le]
    rw [if_pos (by omega)]
    exact hk e he hc hl2 hr2
end ref
