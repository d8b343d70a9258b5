def n3 (v : Int32) : Nat := fst (fun k => decide (ub v (k + 1) = 0)) 3
def tkv (v : Int32) (k : Nat) : Nat := if k < n3 v then ub v (k + 1) else 0
def sG (s : Nat → Nat → Nat) (x nm r : Nat) (v : Int32) : Nat → Nat → Nat → Nat
  | 0 => up2 (up2 s 13 x nm) 14 x r
  | k + 1 => up2 (sG s x nm r v k) 15 (3 * x + k) (tkv v k)
def sMe (s : Nat → Nat → Nat) (f nm r : Nat) (v : Int32) : Nat → Nat → Nat := up2 (up2 (sG s (6 * f + s 12 f) nm r v 3) 16 (6 * f + s 12 f) 0) 12 f (s 12 f + 1)
theorem sG_o {s : Nat → Nat → Nat} {x nm r : Nat} {v : Int32} {k' i : Nat} (h : k' ≠ 13 ∧ k' ≠ 14 ∧ k' ≠ 15) : ∀ k, sG s x nm r v k k' i = s k' i := by
  intro k
  induction k with
  | zero => unfold sG; rw [up2_ne h.2.1, up2_ne h.1]
  | succ k ih => unfold sG; rw [up2_ne h.2.2]; exact ih
theorem sG_13 {s : Nat → Nat → Nat} {x nm r : Nat} {v : Int32} {i : Nat} : ∀ k, sG s x nm r v k 13 i = if i = x then nm else s 13 i := by
  intro k
  induction k with
  | zero =>
    unfold sG
    rw [up2_ne (by decide)]
    by_cases c : i = x
    · rw [if_pos c, c, up2_eq]
    · rw [if_neg c, up2_nk c]
  | succ k ih => unfold sG; rw [up2_ne (by decide)]; exact ih
theorem sG_14 {s : Nat → Nat → Nat} {x nm r : Nat} {v : Int32} {i : Nat} : ∀ k, sG s x nm r v k 14 i = if i = x then r else s 14 i := by
  intro k
  induction k with
  | zero =>
    unfold sG
    by_cases c : i = x
    · rw [if_pos c, c, up2_eq]
    · rw [if_neg c, up2_nk c, up2_ne (by decide)]
  | succ k ih => unfold sG; rw [up2_ne (by decide)]; exact ih
theorem sG_15 {s : Nat → Nat → Nat} {x nm r : Nat} {v : Int32} {i : Nat} : ∀ k, sG s x nm r v k 15 i = if 3 * x ≤ i ∧ i < 3 * x + k then tkv v (i - 3 * x) else s 15 i := by
  intro k
  induction k with
  | zero =>
    unfold sG
    rw [up2_ne (by decide), up2_ne (by decide), if_neg (by omega)]
  | succ k ih =>
    unfold sG
    by_cases c : i = 3 * x + k
    · rw [c, up2_eq, if_pos (by omega)]
      congr 1; omega
    · rw [up2_nk c, ih]
      by_cases c2 : 3 * x ≤ i ∧ i < 3 * x + k
      · rw [if_pos c2, if_pos (by omega)]
      · rw [if_neg c2, if_neg (by omega)]
theorem tkv_lt (v : Int32) (k : Nat) : tkv v k < 256 := by
  unfold tkv
  split
  · exact ub_lt _ _
  · omega
section ref
variable {S : gS} {d e : gD} {m : Nat} {s s' : Nat → Nat → Nat} {q : (Nat → Int64) × Int64 × (Nat → Int64) × (Nat → Int32)}
theorem bi_sG (b : BI s) {f nm r : Nat} {v : Int32} (hf : f < s 5 0) (h6 : s 12 f < 6) (hn : nm < 29) (hr : r < 47) (k : Nat) (hk : k ≤ 3) : BI (sG s (6 * f + s 12 f) nm r v k) := by
  have hF := b.faces
  have e : ∀ k' i, k' ≠ 13 → k' ≠ 14 → k' ≠ 15 → sG s (6 * f + s 12 f) nm r v k k' i = s k' i := fun k' i h1 h2 h3 => sG_o ⟨h1, h2, h3⟩ k
  have own : ∀ y, ((y / 6 < s 5 0 ∧ y % 6 < s 12 (y / 6)) ∨ (72 ≤ y ∧ y < 75)) → y ≠ 6 * f + s 12 f := by
    rintro y (⟨h1, h2⟩ | h1) e
    · rw [e, show (6 * f + s 12 f) / 6 = f by omega, show (6 * f + s 12 f) % 6 = s 12 f by omega] at h2
      omega
    · omega
  have e15 : ∀ y k', ((y / 6 < s 5 0 ∧ y % 6 < s 12 (y / 6)) ∨ (72 ≤ y ∧ y < 75)) → k' < 3 → sG s (6 * f + s 12 f) nm r v k 15 (3 * y + k') = s 15 (3 * y + k') := by
    intro y k' hy hk'
    have := own y hy
    rw [sG_15, if_neg (by omega)]
  exact ⟨(fun k' i => by
      by_cases c13 : k' = 13
      · rw [c13, sG_13]; split
        · omega
        · exact b.lt _ _
      · by_cases c14 : k' = 14
        · rw [c14, sG_14]; split
          · omega
          · exact b.lt _ _
        · by_cases c15 : k' = 15
          · rw [c15, sG_15]; split
            · have := tkv_lt v (i - 3 * (6 * f + s 12 f)); omega
            · exact b.lt _ _
          · rw [e k' i c13 c14 c15]; exact b.lt _ _), (by simp (disch := decide) only [e]; exact b.loaders), (by simp (disch := decide) only [e]; exact b.parentL), (by simp (disch := decide) only [e]; exact b.classes), (by simp (disch := decide) only [e]; exact b.parentC), (by simp (disch := decide) only [e]; exact b.faces), (by simp (disch := decide) only [e]; exact b.faceL), (by simp (disch := decide) only [e]; exact b.facePack), (by simp (disch := decide) only [e]; exact b.faceOpen), (by simp (disch := decide) only [e]; exact b.parentN), (by simp (disch := decide) only [e]; exact b.parentN0), (by simp (disch := decide) only [e]; exact b.parentF), (by simp (disch := decide) only [e]; exact b.ownN), (by simp (disch := decide) only [e]; exact b.ownN0), (by simp (disch := decide) only [e]; exact b.throwN), (by simp (disch := decide) only [e]; exact b.throwT), (by simp (disch := decide) only [e]; exact b.throwD), (fun y k' hy hk' => by
      rw [e 5 0 (by decide) (by decide) (by decide), e 12 _ (by decide) (by decide) (by decide)] at hy
      rw [e15 y k' hy hk']; exact b.takeT y k' hy hk'), (fun y k' hy hk' => by
      rw [e 5 0 (by decide) (by decide) (by decide), e 12 _ (by decide) (by decide) (by decide)] at hy
      rw [e15 y k' hy (by omega)]
      have := e15 y (k' + 1) hy (by omega)
      rw [← Nat.add_assoc] at this
      rw [this]; exact b.takeZ y k' hy hk'), (fun y => by
      rw [sG_14]; split
      · exact hr
      · exact b.resT y), (fun y => by
      rw [sG_13]; split
      · exact hn
      · exact b.nameT y), (by simp (disch := decide) only [e]; exact b.objects), (by simp (disch := decide) only [e]; exact b.stands)⟩
theorem thI_sG {x nm r : Nat} {v : Int32} (k : Nat) (w : Int32) : thI (sG s x nm r v k) w = thI s w := by
  unfold thI
  rw [sG_o (by decide) k, sG_o (by decide) k]
def mlo (m : Nat) (a _j : Nat) : Prop := m ≤ a ∧ a ≤ m + 20
theorem rp_lo (h : RP S d m s q) (g : Ch (mlo m) d e) (r : RI S e m s') : RP S e m s' q := rp_ch h g r (fun c => by unfold mlo; omega)
theorem n3_le (v : Int32) : n3 v ≤ 3 := fst_le _ _
theorem n3_no {v : Int32} {k : Nat} (h : k < n3 v) : ub v (k + 1) ≠ 0 := by
  have := fst_no _ _ k h
  simpa using this
theorem n3_yes {v : Int32} (h : n3 v < 3) : ub v (n3 v + 1) = 0 := by
  have := fst_yes _ _ h
  unfold n3
  simpa using this
def prOk (s : Nat → Nat → Nat) (v : Int32) : Prop := ∀ k, k < n3 v → thI s (nI (ub v (k + 1))) = true
theorem r_me_111 {f nm r : Nat} {v : Int32} (hx : 6 * f + s 12 f < 72) (h : RP S d m (sG s (6 * f + s 12 f) nm r v 0) q) {v4 : Int32} {kx : gD → Int32 → Int32 → Option (Int32 × gD)} {z : gD → Int32 → Int32 → Int32 → Int32 → Int32 → Option (Int32 × gD)} (Q : Option (Int32 × gD) → Prop) (hok : ∀ e, prOk s v → Ch (mlo m) d e → RP S e m (sG s (6 * f + s 12 f) nm r v 3) q → Q (kx e v4 (nI (6 * f + s 12 f)))) (hno : ∀ e k, ¬ prOk s v → k ≤ 3 → Ch (mlo m) d e → RP S e m (sG s (6 * f + s 12 f) nm r v k) q → Q (some (-1, e))) : Q (itr (f_R_method_B111 S m kx) z fu d v v4 (nI (6 * f + s 12 f)) 1 0) := by
  refine itr_q (B := f_R_method_B111 S m kx) (fun (y : gD × Nat) K => K y.1 v v4 (nI (6 * f + s 12 f)) (b2 (decide (y.2 ≤ n3 v))) (nI y.2)) Q (fun k y => y.2 = k ∧ Ch (mlo m) d y.1 ∧ RP S y.1 m (sG s (6 * f + s 12 f) nm r v k) q ∧ ∀ i, i < k → i < n3 v → thI s (nI (ub v (i + 1))) = true) 3 (by omega) ?_ ?_ (x := (d, 0)) ⟨rfl, ch_r, h, fun i hi => absurd hi (Nat.not_lt_zero _)⟩
  · rintro k hk ⟨e, k'⟩ ⟨rfl, hc, hr, hth⟩ K hK
    simp only at hk hc hr hth hK ⊢
    have hub := ub_lt v (k' + 1)
    have hn3 := n3_le v
    have hsh : (v >>> (((8 * nI k') + 8) &&& 31)) &&& 255 = nI (ub v (k' + 1)) := by
      rw [l8_m, l8_a, show 8 * k' + 8 = 8 * (k' + 1) by omega]; exact ub_s v (by omega)
    have h15 := rw_15 hr.ri (3 * (6 * f + s 12 f) + k') (tkv v k')
    have cw : Ch (mlo m) d (wI e (m + 12) (3 * (6 * f + s 12 f) + k') (nI (tkv v k'))) := ch_s hc ⟨by omega, by omega⟩
    have r2 : RP S (wI e (m + 12) (3 * (6 * f + s 12 f) + k') (nI (tkv v k'))) m (sG s (6 * f + s 12 f) nm r v (k' + 1)) q := rp_up hr h15 (by omega)
    have gi1 : (3 * nI (6 * f + s 12 f)) + nI k' = nI (3 * (6 * f + s 12 f) + k') := by rw [l3_m, nI_add]
    have hthr := r_there r2.ri (nI (ub v (k' + 1)))
    rw [thI_sG] at hthr
    have nxt : (k' < n3 v → thI s (nI (ub v (k' + 1))) = true) → Q (K (wI e (m + 12) (3 * (6 * f + s 12 f) + k') (nI (tkv v k'))) v v4 (nI (6 * f + s 12 f)) (b2 (decide (k' + 1 ≤ n3 v))) (nI (k' + 1))) := by
      intro ht
      refine hK (wI e (m + 12) (3 * (6 * f + s 12 f) + k') (nI (tkv v k')), k' + 1) ⟨rfl, cw, r2, fun i hi h2 => ?_⟩
      by_cases c : i = k'
      · rw [c] at h2 ⊢; exact ht h2
      · exact hth i (by omega) h2
    have h0 : ∀ a, f_R_method_J163 S m kx K e v v4 (nI (6 * f + s 12 f)) 0 (nI k') a (some (m + 12)) ((3 * nI (6 * f + s 12 f)) + nI k') 0 = K (wI e (m + 12) (3 * (6 * f + s 12 f) + k') 0) v v4 (nI (6 * f + s 12 f)) 0 (nI (k' + 1)) := by
      intro a
      simp (maxSteps := 1000000) (disch := omega) only [f_R_method_J163, f_R_method_J180, kd_t hr.ri.rs.1, lt_t, nn_t, bd_t, bdD_t, bdP_t, nI_clamp, gi_n, nI_add, nI_1, pk_mul, b2_eq0, b2_01, nb_t, if_true, if_false, ni_le, ni_eq, ni_lt, gi1, kd_t (rs_K15 hr.ri.rs), rs_N15 hr.ri.rs, l1_a]
    simp only [f_R_method_B111, hsh]
    rw [if_neg (fun c => by rw [l3_ge _ (by omega)] at c; omega)]
    by_cases qz : ub v (k' + 1) = 0
    · have hlt : ¬ k' < n3 v := fun c => n3_no c qz
      have htk : tkv v k' = 0 := by unfold tkv; rw [if_neg hlt]
      rw [if_pos (by rw [qz]; rfl)]
      simp only [f_R_method_J141, kd_t hr.ri.rs.1, lt_t, rs_P15 hr.ri.rs]
      rw [if_pos trivial, h0]
      have := nxt (fun c => absurd c hlt)
      rw [htk, decide_eq_false (show ¬ k' + 1 ≤ n3 v by omega)] at this
      exact this
    · rw [if_neg (fun c => qz (by rw [l0_e _ (by omega)] at c; exact c))]
      simp only [f_R_method_J141, kd_t hr.ri.rs.1, lt_t, rs_P15 hr.ri.rs]
      by_cases ql : k' ≤ n3 v
      · have hlt : k' < n3 v := by
          rcases Nat.lt_or_ge k' (n3 v) with c | c
          · exact c
          · exfalso
            have e1 : k' = n3 v := by omega
            exact qz (by rw [e1]; exact n3_yes (by omega))
        have htk : tkv v k' = ub v (k' + 1) := by unfold tkv; rw [if_pos hlt]
        rw [decide_eq_true ql, if_neg (by decide)]
        rw [htk] at nxt r2 hthr cw
        simp (maxSteps := 1000000) (disch := omega) only [f_R_method_J163, f_R_method_J180, kd_t hr.ri.rs.1, lt_t, nn_t, bd_t, bdD_t, bdP_t, nI_clamp, gi_n, nI_add, nI_1, pk_mul, b2_eq0, b2_01, nb_t, if_true, if_false, ni_le, ni_eq, ni_lt, gi1, kd_t (rs_K15 hr.ri.rs), rs_N15 hr.ri.rs, hthr, l1_a]
        rw [if_neg (by decide)]
        cases ht : thI s (nI (ub v (k' + 1))) with
        | false =>
          rw [if_pos rfl]
          exact hno _ (k' + 1) (fun hp => by rw [hp k' hlt] at ht; exact absurd ht (by decide)) (by omega) cw r2
        | true =>
          rw [if_neg (by decide)]
          have := nxt (fun _ => ht)
          rw [decide_eq_true (show k' + 1 ≤ n3 v by omega)] at this
          exact this
      · rw [decide_eq_false ql, if_pos (show b2 false = 0 from rfl)]
        have htk : tkv v k' = 0 := by unfold tkv; rw [if_neg (by omega)]
        rw [show b2 false = 0 from rfl, h0]
        have := nxt (fun c => by omega)
        rw [htk, decide_eq_false (show ¬ k' + 1 ≤ n3 v by omega)] at this
        exact this
  · rintro ⟨e, k'⟩ ⟨rfl, hc, hr, hth⟩ K
    simp only at hc hr hth ⊢
    simp only [f_R_method_B111]
    rw [if_pos (by decide)]
    have hn3 := n3_le v
    exact hok e (fun k hk => hth k (by omega) hk) hc hr
def meOk (s : Nat → Nat → Nat) (v1 v2 v : Int32) (f nm : Nat) : Prop := v1 = nI (24 + f) ∧ f < s 5 0 ∧ v2 = nI nm ∧ nm < 29 ∧ s 21 0 = 0 ∧ (ub v 0 = 0 ∨ thI s (nI (ub v 0)) = true) ∧ s 12 f ≠ 6 ∧ prOk s v ∧ ∀ j, j < s 12 f → ¬ (s 13 (6 * f + j) = nm ∧ s 15 (3 * (6 * f + j)) = tkv v 0 ∧ s 15 (3 * (6 * f + j) + 1) = tkv v 1 ∧ s 15 (3 * (6 * f + j) + 2) = tkv v 2)
def Gb (s s' : Nat → Nat → Nat) : Prop := s' = s ∨ (s 21 0 = 0 ∧ ∃ f nm r v k, f < s 5 0 ∧ s 12 f < 6 ∧ nm < 29 ∧ r < 47 ∧ k ≤ 3 ∧ s' = sG s (6 * f + s 12 f) nm r v k)
theorem sg_G {f nm r : Nat} {v : Int32} {j : Nat} (hj : j < s 12 f) : sg (sG s (6 * f + s 12 f) nm r v 3) (6 * f + j) (6 * f + s 12 f) = true ↔ (s 13 (6 * f + j) = nm ∧ s 15 (3 * (6 * f + j)) = tkv v 0 ∧ s 15 (3 * (6 * f + j) + 1) = tkv v 1 ∧ s 15 (3 * (6 * f + j) + 2) = tkv v 2) := by
  unfold sg
  simp only [Bool.and_eq_true, decide_eq_true_iff]
  rw [sG_13, sG_13, if_neg (by omega), if_pos rfl, sG_15, if_neg (by omega), sG_15, if_pos (by omega), sG_15, if_neg (by omega), sG_15, if_pos (by omega), sG_15, if_neg (by omega), sG_15, if_pos (by omega)]
  rw [show 3 * (6 * f + s 12 f) - 3 * (6 * f + s 12 f) = 0 by omega, show 3 * (6 * f + s 12 f) + 1 - 3 * (6 * f + s 12 f) = 1 by omega, show 3 * (6 * f + s 12 f) + 2 - 3 * (6 * f + s 12 f) = 2 by omega]
theorem r_method (h : RP S d m s q) (b : BI s) {v1 v2 v : Int32} : (∀ f nm, meOk s v1 v2 v f nm → ∃ e, f_R_method S d m v1 v2 v = some (nI (s 12 f), e) ∧ RP S e m (sMe s f nm (ub v 0) v) q ∧ Rf m d e) ∧ ((∀ f nm, ¬ meOk s v1 v2 v f nm) → ∃ e s', f_R_method S d m v1 v2 v = some (-1, e) ∧ RP S e m s' q ∧ Rf m d e ∧ Gb s s') := by
  have hF := b.faces
  have hS := b.stands
  have h2 := rp_w0 (v := 0) h
  have hu0 := ub_lt v 0
  have hv0 : v &&& 255 = nI (ub v 0) := by
    have := ub_s v (k := 0) (by omega)
    rw [← this]
    congr 1
    apply b_ext
    intro i hi
    rw [b_sshr (8 * 0) (by omega) v (by omega)]
    congr 1; omega
  have rlo : ∀ e, Ch (mlo m) (wI d m 0 0) e → Rf m d e := fun e c => rf_t (rf_w (by omega)) (rf_ch c (fun a j p => by unfold mlo at p; omega))
  -- the work behind the first questions
  have work : ∀ f nm, f < s 5 0 → nm < 29 → s 21 0 = 0 → (ub v 0 = 0 ∨ thI s (nI (ub v 0)) = true) → (meOk s (nI (24 + f)) (nI nm) v f nm → ∃ e, f_R_method_J59 S m (wI d m 0 0) (nI nm) v (nI f) (nI (ub v 0)) = some (nI (s 12 f), e) ∧ RP S e m (sMe s f nm (ub v 0) v) q ∧ Rf m d e) ∧ (¬ meOk s (nI (24 + f)) (nI nm) v f nm → ∃ e s', f_R_method_J59 S m (wI d m 0 0) (nI nm) v (nI f) (nI (ub v 0)) = some (-1, e) ∧ RP S e m s' q ∧ Rf m d e ∧ Gb s s') := by
    intro f nm hf hn h21 hr0
    have hr : ub v 0 < 47 := by
      rcases hr0 with c | c
      · omega
      · obtain ⟨a, ha, e⟩ := thI_of b c
        rw [nI_eq (by omega) (by omega)] at e
        omega
    have hN := b.ownN f
    by_cases q6 : s 12 f = 6
    · refine ⟨fun ok => absurd q6 ok.2.2.2.2.2.2.1, fun _ => ⟨wI d m 0 0, s, ?_, h2, rf_w (by omega), .inl rfl⟩⟩
      simp (maxSteps := 1000000) (disch := omega) only [f_R_method_J59, kd_t h2.ri.rs.1, rs_P12 h2.ri.rs, kd_t (rs_K12 h2.ri.rs), rs_N12 h2.ri.rs, ri_12 h2.ri, rs_P13 h2.ri.rs, kd_t (rs_K13 h2.ri.rs), rs_N13 h2.ri.rs, ri_13 h2.ri, rs_P14 h2.ri.rs, kd_t (rs_K14 h2.ri.rs), rs_N14 h2.ri.rs, ri_14 h2.ri, lt_t, nn_t, bd_t, bdD_t, bdP_t, nI_clamp, gi_n, nI_add, nI_1, pk_mul, b2_eq0, b2_01, nb_t, if_true, if_false, ni_le, ni_eq, ni_lt, l6_e]
      rw [if_pos q6]
    · have h13 := rw_13 h2.ri (6 * f + s 12 f) nm
      have h14 := rw_14 h13 (6 * f + s 12 f) (ub v 0)
      have c14 : Ch (mlo m) (wI d m 0 0) (wI (wI (wI d m 0 0) (m + 10) (6 * f + s 12 f) (nI nm)) (m + 11) (6 * f + s 12 f) (nI (ub v 0))) := ch_s (ch_w ⟨by omega, by omega⟩) ⟨by omega, by omega⟩
      have r14 : RP S (wI (wI (wI d m 0 0) (m + 10) (6 * f + s 12 f) (nI nm)) (m + 11) (6 * f + s 12 f) (nI (ub v 0))) m (sG s (6 * f + s 12 f) nm (ub v 0) v 0) q := rp_lo h2 c14 h14
      have ev : f_R_method_J59 S m (wI d m 0 0) (nI nm) v (nI f) (nI (ub v 0)) = itr (f_R_method_B111 S m (f_R_method_J186 S m)) (fun _ _ _ _ _ _ => none) fu (wI (wI (wI d m 0 0) (m + 10) (6 * f + s 12 f) (nI nm)) (m + 11) (6 * f + s 12 f) (nI (ub v 0))) v (nI f) (nI (6 * f + s 12 f)) 1 0 := by
        simp (maxSteps := 1000000) (disch := omega) only [f_R_method_J59, kd_t h2.ri.rs.1, rs_P12 h2.ri.rs, kd_t (rs_K12 h2.ri.rs), rs_N12 h2.ri.rs, ri_12 h2.ri, rs_P13 h2.ri.rs, kd_t (rs_K13 h2.ri.rs), rs_N13 h2.ri.rs, ri_13 h2.ri, rs_P14 h2.ri.rs, kd_t (rs_K14 h2.ri.rs), rs_N14 h2.ri.rs, ri_14 h2.ri, lt_t, nn_t, bd_t, bdD_t, bdP_t, nI_clamp, gi_n, nI_add, nI_1, pk_mul, b2_eq0, b2_01, nb_t, if_true, if_false, ni_le, ni_eq, ni_lt, l6_e, l6_m]
        rw [if_neg q6]
      have b3 := bi_sG b (f := f) (nm := nm) (r := ub v 0) (v := v) hf (by omega) hn hr 3 (Nat.le_refl _)
      -- the search for one of the same signature
      have srch : ∀ e, RP S e m (sG s (6 * f + s 12 f) nm (ub v 0) v 3) q → f_R_method_J186 S m e (nI f) (nI (6 * f + s 12 f)) = if anyb (fun j => sg (sG s (6 * f + s 12 f) nm (ub v 0) v 3) (6 * f + j) (6 * f + s 12 f)) (s 12 f) then some (-1, e) else f_R_method_J219 S m e (nI f) (nI (6 * f + s 12 f)) := by
        intro e hre
        simp only [f_R_method_J186, l6_m]
        have key : (fun (k : Nat) (K : gD → Int32 → Int32 → Int32 → Option (Int32 × gD)) => K e (nI f) (nI (6 * f + s 12 f)) (nI (6 * f + k))) 0 (itr (f_R_method_B193 S m (f_R_method_J219 S m)) (fun _ _ _ _ => none) fu) = if anyb (fun j => sg (sG s (6 * f + s 12 f) nm (ub v 0) v 3) (6 * f + j) (6 * f + s 12 f)) (s 12 f) then some (-1, e) else f_R_method_J219 S m e (nI f) (nI (6 * f + s 12 f)) := by
          refine itr_f (B := f_R_method_B193 S m (f_R_method_J219 S m)) (fun k K => K e (nI f) (nI (6 * f + s 12 f)) (nI (6 * f + k))) (fun j => sg (sG s (6 * f + s 12 f) nm (ub v 0) v 3) (6 * f + j) (6 * f + s 12 f)) (s 12 f) _ (by omega) ?_ ?_ ?_
          · intro k hk hp K hK
            simp (maxSteps := 1000000) (disch := omega) only [f_R_method_B193, kd_t hre.ri.rs.1, lt_t, nn_t, bd_t, bdD_t, bdP_t, nI_clamp, gi_n, nI_add, nI_1, pk_mul, b2_eq0, b2_01, nb_t, if_true, if_false, ni_le, ni_eq, ni_lt, r_sameSignature hre.ri b3 (6 * f + k) (6 * f + s 12 f) (by omega) (by omega), hp, l1_a]
            rw [if_neg (by omega)]; exact hK
          · intro k hk hp he K
            simp (maxSteps := 1000000) (disch := omega) only [f_R_method_B193, kd_t hre.ri.rs.1, lt_t, nn_t, bd_t, bdD_t, bdP_t, nI_clamp, gi_n, nI_add, nI_1, pk_mul, b2_eq0, b2_01, nb_t, if_true, if_false, ni_le, ni_eq, ni_lt, r_sameSignature hre.ri b3 (6 * f + k) (6 * f + s 12 f) (by omega) (by omega), hp, l1_a]
            rw [if_neg (by omega), if_neg (by decide)]
            unfold anyb; rw [he, decide_eq_true hk, if_pos rfl]
          · intro he K
            simp (maxSteps := 1000000) (disch := omega) only [f_R_method_B193, kd_t hre.ri.rs.1, lt_t, nn_t, bd_t, bdD_t, bdP_t, nI_clamp, gi_n, nI_add, nI_1, pk_mul, b2_eq0, b2_01, nb_t, if_true, if_false, ni_le, ni_eq, ni_lt]
            rw [if_pos (Nat.le_refl _)]
            unfold anyb; rw [he, decide_eq_false (Nat.lt_irrefl _), if_neg (by decide)]
        exact key
      have any_iff : anyb (fun j => sg (sG s (6 * f + s 12 f) nm (ub v 0) v 3) (6 * f + j) (6 * f + s 12 f)) (s 12 f) = true ↔ ∃ j, j < s 12 f ∧ (s 13 (6 * f + j) = nm ∧ s 15 (3 * (6 * f + j)) = tkv v 0 ∧ s 15 (3 * (6 * f + j) + 1) = tkv v 1 ∧ s 15 (3 * (6 * f + j) + 2) = tkv v 2) := by
        rw [anyb_iff]
        constructor
        · rintro ⟨j, hj, hs⟩; exact ⟨j, hj, (sg_G hj).mp hs⟩
        · rintro ⟨j, hj, hs⟩; exact ⟨j, hj, (sg_G hj).mpr hs⟩
      refine ⟨fun ok => ?_, fun no => ?_⟩
      · obtain ⟨-, -, -, -, -, -, -, hpr, huniq⟩ := ok
        rw [ev]
        refine r_me_111 (f := f) (nm := nm) (r := ub v 0) (by omega) r14 (fun t => ∃ e, t = some (nI (s 12 f), e) ∧ RP S e m (sMe s f nm (ub v 0) v) q ∧ Rf m d e) (fun e _ ce re => ?_) (fun e k np => absurd hpr np)
        rw [srch e re, if_neg (fun c => by obtain ⟨j, hj, hs⟩ := any_iff.mp c; exact huniq j hj hs)]
        have h16 := rw_16 re.ri (6 * f + s 12 f) 0
        have g12 : dI (wI e (m + 13) (6 * f + s 12 f) 0) (m + 9) f = nI (s 12 f) := by
          have := ri_12 h16 (i := f) (by omega)
          rw [up2_ne (by decide), sG_o (by decide) 3] at this
          exact this
        have h12 := rw_12 h16 f (s 12 f + 1)
        have g12b : dI (wI (wI e (m + 13) (6 * f + s 12 f) 0) (m + 9) f (nI (s 12 f + 1))) (m + 9) f = nI (s 12 f + 1) := by rw [dI_wI, if_pos ⟨rfl, rfl⟩]
        have c2 : Ch (mlo m) e (wI (wI e (m + 13) (6 * f + s 12 f) 0) (m + 9) f (nI (s 12 f + 1))) := ch_s (ch_w ⟨by omega, by omega⟩) ⟨by omega, by omega⟩
        refine ⟨_, ?_, rp_lo re c2 h12, rlo _ (ch_t (ch_t c14 ce) c2)⟩
        simp (maxSteps := 1000000) (disch := omega) only [f_R_method_J219, kd_t re.ri.rs.1, rs_P12 re.ri.rs, kd_t (rs_K12 re.ri.rs), rs_N12 re.ri.rs, ri_12 re.ri, rs_P16 re.ri.rs, kd_t (rs_K16 re.ri.rs), rs_N16 re.ri.rs, ri_16 re.ri, lt_t, nn_t, bd_t, bdD_t, bdP_t, nI_clamp, gi_n, nI_add, nI_1, pk_mul, b2_eq0, b2_01, nb_t, if_true, if_false, ni_le, ni_eq, ni_lt, g12, g12b, l1_a, l1_s]
        rw [show s 12 f + 1 - 1 = s 12 f by omega]
      · rw [ev]
        refine r_me_111 (f := f) (nm := nm) (r := ub v 0) (by omega) r14 (fun t => ∃ e s', t = some (-1, e) ∧ RP S e m s' q ∧ Rf m d e ∧ Gb s s') (fun e hpr ce re => ?_) (fun e k np hk ce re => ⟨e, _, rfl, re, rlo _ (ch_t c14 ce), .inr ⟨h21, f, nm, ub v 0, v, k, hf, by omega, hn, hr, hk, rfl⟩⟩)
        have hany : anyb (fun j => sg (sG s (6 * f + s 12 f) nm (ub v 0) v 3) (6 * f + j) (6 * f + s 12 f)) (s 12 f) = true := by
          rw [any_iff]
          cases Classical.em (∃ j, j < s 12 f ∧ (s 13 (6 * f + j) = nm ∧ s 15 (3 * (6 * f + j)) = tkv v 0 ∧ s 15 (3 * (6 * f + j) + 1) = tkv v 1 ∧ s 15 (3 * (6 * f + j) + 2) = tkv v 2)) with
          | inl c => exact c
          | inr c => exact absurd ⟨rfl, hf, rfl, hn, h21, hr0, q6, hpr, fun j hj hs => c ⟨j, hj, hs⟩⟩ no
        rw [srch e re, hany, if_pos rfl]
        exact ⟨e, _, rfl, re, rlo _ (ch_t c14 ce), .inr ⟨h21, f, nm, ub v 0, v, 3, hf, by omega, hn, hr, by omega, rfl⟩⟩
  -- the first questions
  have early : f_R_method S d m v1 v2 v = some (-1, wI d m 0 0) ∨ ∃ f nm, v1 = nI (24 + f) ∧ f < s 5 0 ∧ v2 = nI nm ∧ nm < 29 ∧ s 21 0 = 0 ∧ (ub v 0 = 0 ∨ thI s (nI (ub v 0)) = true) ∧ f_R_method S d m v1 v2 v = f_R_method_J59 S m (wI d m 0 0) (nI nm) v (nI f) (nI (ub v 0)) := by
    simp only [f_R_method, kd_t h.ri.rs.1, lt_t, r_isFace h2.ri, bd_t, b2_eq0, ri_21 h2.ri, hv0, r_there h2.ri]
    cases c1 : cIn 24 (nI (24 + s 5 0)) v1 with
    | false => left; rw [if_pos rfl]
    | true =>
      obtain ⟨a, ha1, ha2, rfl⟩ := cIn_of (lo := 24) c1 (by omega) (by omega)
      rw [if_neg (by decide)]
      by_cases q1 : v2 < 0
      · left; rw [if_pos q1]
      · rw [if_neg q1]
        by_cases q2 : 28 < v2
        · left; rw [if_pos q2]
        · rw [if_neg q2]
          obtain ⟨nm, -, hn, rfl⟩ := rng (lo := 0) (hi := 28) (v := v2) (Int32.not_lt.mp q1) (Int32.not_lt.mp q2) (by omega) (by omega)
          by_cases q3 : s 21 0 = 0
          · rw [if_pos (by rw [q3]; decide)]
            have ea : nI a - 24 = nI (a - 24) := l24_s _ ha1
            by_cases q4 : ub v 0 = 0
            · right
              exact ⟨a - 24, nm, by rw [show 24 + (a - 24) = a by omega], by omega, rfl, by omega, q3, .inl q4, by rw [if_pos (by rw [q4]; rfl), ea]⟩
            · rw [if_neg (fun c => q4 (by rw [l0_e _ (by omega)] at c; exact c))]
              cases ht : thI s (nI (ub v 0)) with
              | false => left; rw [if_pos rfl]
              | true =>
                right
                exact ⟨a - 24, nm, by rw [show 24 + (a - 24) = a by omega], by omega, rfl, by omega, q3, .inr rfl, by rw [if_neg (by decide), ea]⟩
          · left
            rw [if_neg (fun c => q3 (by rw [l0_le _ (by omega)] at c; omega))]
  have inj : ∀ f f', f < s 5 0 → f' < s 5 0 → nI (24 + f) = nI (24 + f') → f = f' := fun f f' h1 h2 e => by rw [nI_eq (by omega) (by omega)] at e; omega
  refine ⟨fun f nm ok => ?_, fun no => ?_⟩
  · rcases early with c | ⟨f', nm', e1, hf', e2, hn', h21, hr0, ev⟩
    · exfalso
      have ok2 := ok
      obtain ⟨rfl, hf, rfl, hn, h21, hr0, q6, -⟩ := ok
      have c1 : cIn 24 (nI (24 + s 5 0)) (nI (24 + f)) = true := by
        rw [show (24 : Int32) = nI 24 from rfl, cIn_nI (by omega) (by omega) (by omega), decide_eq_true (by omega), decide_eq_true (by omega)]; rfl
      have := (work f nm hf hn h21 hr0).1 ok2
      obtain ⟨e, fe, -, -⟩ := this
      have ea : nI (24 + f) - 24 = nI f := by rw [l24_s _ (by omega)]; congr 1; omega
      simp only [f_R_method, kd_t h.ri.rs.1, lt_t, r_isFace h2.ri, bd_t, b2_eq0, ri_21 h2.ri, hv0, r_there h2.ri, c1, ea] at c
      rw [if_neg (by decide), if_neg (nI_pos (by omega)), if_neg (fun w => by rw [l28_gt _ (by omega)] at w; omega), if_pos (by rw [h21]; decide)] at c
      rcases hr0 with w | w
      · rw [if_pos (by rw [w]; rfl), fe] at c
        have hm := (Prod.mk.inj (Option.some.inj c)).1
        exact (m1_lt (show s 12 f < 2 ^ 31 by have := b.ownN f; omega)).2 hm
      · rw [w, if_neg (show ¬ true = false by decide), fe] at c
        have hm : nI (s 12 f) = -1 := by
          split at c
          · exact (Prod.mk.inj (Option.some.inj c)).1
          · exact (Prod.mk.inj (Option.some.inj c)).1
        exact (m1_lt (show s 12 f < 2 ^ 31 by have := b.ownN f; omega)).2 hm
    · have ok' := ok
      obtain ⟨g1, g2, g3, g4, -⟩ := ok
      have ef : f = f' := inj f f' g2 hf' (g1.symm.trans e1)
      have en : nm = nm' := by
        have := g3.symm.trans e2
        rw [nI_eq (by omega) (by omega)] at this; exact this
      subst ef; subst en
      rw [ev]
      rw [g1, g3] at ok'
      exact (work f nm hf' hn' h21 hr0).1 ok'
  · rcases early with c | ⟨f', nm', e1, hf', e2, hn', h21, hr0, ev⟩
    · exact ⟨_, s, c, h2, rf_w (by omega), .inl rfl⟩
    · rw [ev]
      refine (work f' nm' hf' hn' h21 hr0).2 (fun ok => ?_)
      rw [← e1, ← e2] at ok
      exact no f' nm' ok
end ref
