section ini
variable {x : Nat}
theorem b_0 : BI s0 := by
  have lt : ∀ k i, s0 k i < 29 := by
    intro k i
    unfold s0 up2
    (repeat' split) <;> first | omega | exact (show 0 < 29 by omega)
  have z : ∀ k i, k ≠ 1 → k ≠ 3 → k ≠ 4 → k ≠ 13 → k ≠ 14 → k ≠ 15 → s0 k i = 0 := by
    intro k i h1 h2 h3 h4 h5 h6
    unfold s0 up2
    simp only [h1, h2, h3, h4, h5, h6, false_and, if_false]
  have z5 := z 5 0 (by omega) (by omega) (by omega) (by omega) (by omega) (by omega)
  have e1 : s0 1 0 = 1 := rfl
  have e3 : s0 3 0 = 11 := rfl
  have vt : ∀ x, ((x / 6 < s0 5 0 ∧ x % 6 < s0 12 (x / 6)) ∨ (72 ≤ x ∧ x < 75)) → x = 72 ∨ x = 73 ∨ x = 74 := fun x h => by rw [z5] at h; omega
  refine ⟨fun k i => Nat.lt_trans (lt k i) (by omega), by omega, fun i h1 h2 => by omega, by omega, fun i h1 h2 => ?_, by omega, fun i h => by omega, fun i h => by omega, fun i => by rw [z 9 i (by omega) (by omega) (by omega) (by omega) (by omega) (by omega)]; omega, fun i => by rw [z 11 i (by omega) (by omega) (by omega) (by omega) (by omega) (by omega)]; omega, fun i _ => z 11 i (by omega) (by omega) (by omega) (by omega) (by omega) (by omega), fun i p h => by rw [z 11 i (by omega) (by omega) (by omega) (by omega) (by omega) (by omega)] at h; omega, fun i => by rw [z 12 i (by omega) (by omega) (by omega) (by omega) (by omega) (by omega)]; omega, fun i _ => z 12 i (by omega) (by omega) (by omega) (by omega) (by omega) (by omega), fun i => by rw [z 16 i (by omega) (by omega) (by omega) (by omega) (by omega) (by omega)]; omega, fun y i h => by rw [z 16 y (by omega) (by omega) (by omega) (by omega) (by omega) (by omega)] at h; omega, fun y i j h1 h2 => by rw [z 16 y (by omega) (by omega) (by omega) (by omega) (by omega) (by omega)] at h2; omega, fun y k _ _ => Nat.lt_trans (lt _ _) (by omega), fun y k h hk h0 => ?_, fun y => Nat.lt_trans (lt _ _) (by omega), fun y => lt _ _, by rw [z 18 0 (by omega) (by omega) (by omega) (by omega) (by omega) (by omega)]; omega, by rw [z 21 0 (by omega) (by omega) (by omega) (by omega) (by omega) (by omega)]; omega⟩
  · rw [e3] at h2
    rcases (show i = 8 ∨ i = 9 ∨ i = 10 by omega) with rfl | rfl | rfl <;> decide
  · rcases vt y h with rfl | rfl | rfl
    · rcases (show k = 0 ∨ k = 1 by omega) with rfl | rfl <;> rfl
    · rcases (show k = 0 ∨ k = 1 by omega) with rfl | rfl <;> rfl
    · rcases (show k = 0 ∨ k = 1 by omega) with rfl | rfl <;> rfl
theorem sv_00 : SV s0 q0 := by
  refine ⟨⟨rfl, rfl, rfl⟩, fun c hc => absurd hc (Nat.not_lt_zero c), fun c _ _ => ⟨rfl, rfl⟩, fun c hc => absurd hc (Nat.not_lt_zero c), fun c => Nat.zero_le _, fun c hc => absurd hc (Nat.not_lt_zero c)⟩
theorem f_OM {k : Nat} (hk : k < 3) : OM (tS x 65 HF) (tD x EF) x s0 (x + 19 + 3 * k) (72 + k) := by
  rcases (show k = 0 ∨ k = 1 ∨ k = 2 by omega) with rfl | rfl | rfl
  · exact ⟨(sK_t (o := 19)).trans rfl, sP_tt (o := 19) (t := 20) rfl, ⟨(sK_t (o := 20)).trans rfl, sP_tt (o := 20) (t := 21) rfl, (sK_t (o := 21)).trans rfl, (sN_t (o := 21)).trans rfl⟩, (dI_t (o := 19)).trans rfl, (dI_t (o := 19)).trans rfl, (dI_t (o := 19)).trans rfl, (dI_t (o := 19)).trans rfl, (dI_t (o := 19)).trans rfl, ⟨(dI_t (o := 20)).trans rfl, row_n⟩, by rw [sZ_t]; omega, by omega⟩
  · exact ⟨(sK_t (o := 22)).trans rfl, sP_tt (o := 22) (t := 23) rfl, ⟨(sK_t (o := 23)).trans rfl, sP_tt (o := 23) (t := 24) rfl, (sK_t (o := 24)).trans rfl, (sN_t (o := 24)).trans rfl⟩, (dI_t (o := 22)).trans rfl, (dI_t (o := 22)).trans rfl, (dI_t (o := 22)).trans rfl, (dI_t (o := 22)).trans rfl, (dI_t (o := 22)).trans rfl, ⟨(dI_t (o := 23)).trans rfl, row_n⟩, by rw [sZ_t]; omega, by omega⟩
  · exact ⟨(sK_t (o := 25)).trans rfl, sP_tt (o := 25) (t := 26) rfl, ⟨(sK_t (o := 26)).trans rfl, sP_tt (o := 26) (t := 27) rfl, (sK_t (o := 27)).trans rfl, (sN_t (o := 27)).trans rfl⟩, (dI_t (o := 25)).trans rfl, (dI_t (o := 25)).trans rfl, (dI_t (o := 25)).trans rfl, (dI_t (o := 25)).trans rfl, (dI_t (o := 25)).trans rfl, ⟨(dI_t (o := 26)).trans rfl, row_n⟩, by rw [sZ_t]; omega, by omega⟩
theorem f_RP : RP (tS x 65 HF) (tD x EF) (x + 28) s0 q0 := by
  refine ⟨f_RI, fun i _ => (dL_t (o := 44)).trans rfl, (dL_t (o := 28)).trans rfl, fun j hj => (dL_t (o := 61)).trans ?_, fun c hc => (dI_t (o := 49)).trans ?_⟩
  · show (if 61 = 61 ∧ 0 ≤ j ∧ j < 9 then (-1 : Int64) else _) = _
    rw [if_pos ⟨rfl, Nat.zero_le _, hj⟩]; rfl
  · show (if 49 = 49 ∧ c < 16 then (-1 : Int32) else _) = _
    rw [if_pos ⟨rfl, hc⟩]; rfl
theorem f_CE : CE (tS x 65 HF) (tD x EF) x s0 (A0 x) := by
  refine ⟨f_CS, by rw [sZ_t]; omega, ⟨(dI_t (o := 0)).trans rfl, fun f hf => absurd hf (Nat.not_lt_zero f), fun f g _ hg => absurd hg (Nat.not_lt_zero g)⟩, fun i hi => ?_, fun k hk => ?_⟩
  · rcases hi with ⟨hi, -⟩ | hi
    · exact absurd hi (Nat.not_lt_zero _)
    · have := f_OM (x := x) (k := i - 72) (by omega)
      rw [show 72 + (i - 72) = i by omega] at this
      exact this
  · show x + 19 + 3 * (72 + k - 72) = _
    rw [Nat.add_sub_cancel_left]
theorem f_G1 : G1 (tS x 65 HF) (tD x EF) x s0 (A0 x) q0.2.2.2 := by
  refine ⟨f_CE, .inl ((dI_t (o := 0)).trans rfl), (dI_t (o := 0)).trans rfl, fun c hc => absurd hc (Nat.not_lt_zero c), fun c c' _ hc => absurd hc (Nat.not_lt_zero c'), ⟨fun i v _ hv => ?_, fun i j v _ _ hv _ => ?_⟩⟩
  · rw [sP_t, show HF.2.2 10 i = none from rfl] at hv; cases hv
  · rw [sP_t, show HF.2.2 10 i = none from rfl] at hv; cases hv
theorem te_0 {a c : Nat} : TE s0 a c ↔ (a = 8 ∧ c = 7) ∨ (a = 9 ∧ c = 8) ∨ (a = 10 ∧ c = 8) ∨ (41 ≤ a ∧ a ≤ 46 ∧ c = 7) := by
  unfold TE
  rw [show s0 3 0 = 11 from rfl, show s0 5 0 = 0 from rfl]
  constructor
  · rintro (⟨h1, h2, h3⟩ | ⟨h1, h2, -⟩ | h)
    · rcases (show a = 8 ∨ a = 9 ∨ a = 10 by omega) with rfl | rfl | rfl
      · exact .inl ⟨rfl, h3⟩
      · exact .inr (.inl ⟨rfl, h3⟩)
      · exact .inr (.inr (.inl ⟨rfl, h3⟩))
    · omega
    · exact .inr (.inr (.inr h))
  · rintro (⟨rfl, rfl⟩ | ⟨rfl, rfl⟩ | ⟨rfl, rfl⟩ | h)
    · exact .inl ⟨by omega, by omega, rfl⟩
    · exact .inl ⟨by omega, by omega, rfl⟩
    · exact .inl ⟨by omega, by omega, rfl⟩
    · exact .inr (.inr h)
theorem rc_0 {a c : Nat} : Rch (TE s0) a c ↔ c = a ∨ ∃ b, TE s0 a b ∧ Rch (TE s0) b c := by
  constructor
  · intro h
    rcases Rch_c h with e | h
    · exact .inl e.symm
    · exact .inr h
  · rintro (rfl | ⟨b, h1, h2⟩)
    · exact Rch_r _ _
    · exact Rch_s h1 h2
theorem r_7 {c : Nat} : Rch (TE s0) 7 c ↔ c = 7 := by
  rw [rc_0]
  constructor
  · rintro (h | ⟨b, h, -⟩)
    · exact h
    · rw [te_0] at h; omega
  · intro h; exact .inl h
theorem r_8 {c : Nat} : Rch (TE s0) 8 c ↔ c = 8 ∨ c = 7 := by
  rw [rc_0]
  constructor
  · rintro (h | ⟨b, h, h2⟩)
    · exact .inl h
    · rw [te_0] at h
      rw [show b = 7 by omega, r_7] at h2; exact .inr h2
  · rintro (h | h)
    · exact .inl h
    · exact .inr ⟨7, te_0.mpr (by omega), r_7.mpr h⟩
theorem r_9 {a c : Nat} (ha : a = 9 ∨ a = 10) : Rch (TE s0) a c ↔ c = a ∨ c = 8 ∨ c = 7 := by
  rw [rc_0]
  constructor
  · rintro (h | ⟨b, h, h2⟩)
    · exact .inl h
    · rw [te_0] at h
      rw [show b = 8 by omega, r_8] at h2; exact .inr h2
  · rintro (h | h)
    · exact .inl h
    · exact .inr ⟨8, te_0.mpr (by omega), r_8.mpr h⟩
theorem r_b {a c : Nat} (ha : 41 ≤ a ∧ a ≤ 46) : Rch (TE s0) a c ↔ c = a ∨ c = 7 := by
  rw [rc_0]
  constructor
  · rintro (h | ⟨b, h, h2⟩)
    · exact .inl h
    · rw [te_0] at h
      rw [show b = 7 by omega, r_7] at h2; exact .inr h2
  · rintro (h | h)
    · exact .inl h
    · exact .inr ⟨7, te_0.mpr (by omega), r_7.mpr h⟩
set_option maxRecDepth 100000 in
theorem f_CT : CT (tD x EF) x s0 := by
  refine ⟨(dI_t (o := 1)).trans rfl, fun a c ha hc => ?_⟩
  rw [dL_t]
  have ht : ty s0 a ↔ a = 7 ∨ (8 ≤ a ∧ a < 11) ∨ (41 ≤ a ∧ a ≤ 46) := by
    unfold ty
    rw [show s0 3 0 = 11 from rfl, show s0 5 0 = 0 from rfl]
    omega
  rw [ht]
  show bl (if 2 = 2 ∧ 41 ≤ a ∧ a < 47 then bi a ||| bi 7 else if 2 = 2 ∧ a = 10 then bi 10 ||| (bi 8 ||| bi 7) else if 2 = 2 ∧ a = 9 then bi 9 ||| (bi 8 ||| bi 7) else if 2 = 2 ∧ a = 8 then bi 8 ||| bi 7 else if 2 = 2 ∧ a = 7 then bi 7 else 0) c = true ↔ _
  by_cases c1 : 41 ≤ a ∧ a < 47
  · rw [if_pos ⟨rfl, c1⟩, bl_or, bl_bi (by omega) hc, bl_bi (by omega) hc, Bool.or_eq_true, decide_eq_true_iff, decide_eq_true_iff, r_b (by omega)]
    omega
  · rw [if_neg (fun h => c1 h.2)]
    by_cases c2 : a = 10
    · rw [if_pos ⟨rfl, c2⟩, bl_or, bl_or, bl_bi (by omega) hc, bl_bi (by omega) hc, bl_bi (by omega) hc, Bool.or_eq_true, Bool.or_eq_true, decide_eq_true_iff, decide_eq_true_iff, decide_eq_true_iff, r_9 (by omega)]
      omega
    · rw [if_neg (fun h => c2 h.2)]
      by_cases c3 : a = 9
      · rw [if_pos ⟨rfl, c3⟩, bl_or, bl_or, bl_bi (by omega) hc, bl_bi (by omega) hc, bl_bi (by omega) hc, Bool.or_eq_true, Bool.or_eq_true, decide_eq_true_iff, decide_eq_true_iff, decide_eq_true_iff, r_9 (by omega)]
        omega
      · rw [if_neg (fun h => c3 h.2)]
        by_cases c4 : a = 8
        · rw [if_pos ⟨rfl, c4⟩, bl_or, bl_bi (by omega) hc, bl_bi (by omega) hc, Bool.or_eq_true, decide_eq_true_iff, decide_eq_true_iff, c4, r_8]
          omega
        · rw [if_neg (fun h => c4 h.2)]
          by_cases c5 : a = 7
          · rw [if_pos ⟨rfl, c5⟩, bl_bi (by omega) hc, decide_eq_true_iff, c5, r_7]
            omega
          · rw [if_neg (fun h => c5 h.2), bl_0]
            constructor
            · intro h; cases h
            · intro h; omega
set_option maxRecDepth 100000 in
theorem f_IV : IV (tS x 65 HF) (tD x EF) x s0 (A0 x) q0 := by
  refine ⟨f_G1, ⟨⟨(dI_t (o := 0)).trans rfl, (dI_t (o := 3)).trans rfl, fun i h1 h2 => ?_⟩, f_CT, (dI_t (o := 0)).trans rfl, fun i hi => absurd hi (Nat.not_lt_zero i), fun i hi => absurd hi (Nat.not_lt_zero i), (dI_t (o := 0)).trans rfl, (dL_t (o := 0)).trans rfl, fun j hj => (dL_t (o := 18)).trans ?_⟩, f_RP, b_0, sv_00, (sK_t (o := 64)).trans rfl, (sN_t (o := 64)).trans rfl⟩
  · rw [show s0 1 0 = 1 from rfl] at h2; omega
  · show (if 18 = 18 ∧ 0 ≤ j ∧ j < 9 then (-1 : Int64) else _) = _
    rw [if_pos ⟨rfl, Nat.zero_le _, hj⟩]; rfl
theorem pure_law : PureLaw := by
  intro z L f hL
  obtain ⟨S', d', dc, ds, e, h1, h2⟩ := law_loop (f_IV (x := z)) (L := L) (f := f) hL
  refine ⟨S', d', dc + 65, ds + 12136, ?_, by omega, by omega⟩
  rw [i_law, e, ac_t]
end ini
