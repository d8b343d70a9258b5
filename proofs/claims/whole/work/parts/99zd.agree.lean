def Grp (s : Nat → Nat → Nat) (D : List (Nat × List Nat)) : Prop := ∀ a b c, a < b → b < c → c < D.length → sgF s D a c = true → sgF s D a b = true
theorem grp_ins {s : Nat → Nat → Nat} {D : List (Nat × List Nat)} (g : Grp s D) {y : Nat} {l : List Nat} : Grp s (D.take (pl s D y D.length) ++ (y, l) :: D.drop (pl s D y D.length)) := by
  have hp := pl_sp (s := s) (D := D) (y := y) D.length (Nat.le_refl _)
  generalize pl s D y D.length = q at hp
  have hq : q ≤ D.length := by omega
  have nsg : ∀ i, q ≤ i → i < D.length → sg s (D.getD i df).1 y = false := by
    rcases hp with ⟨h1, h2⟩ | ⟨h1, h2, h3, h4⟩
    · intro i hi1 hi2; omega
    · exact h4
  intro a b c hab hbc hc h
  rw [ins_len hq] at hc
  unfold sgF at h ⊢
  rw [ins_at hq, ins_at hq] at h
  rw [ins_at hq, ins_at hq]
  have G : ∀ a b c, a < b → b < c → c < D.length → sg s (D.getD a df).1 (D.getD c df).1 = true → sg s (D.getD a df).1 (D.getD b df).1 = true := g
  by_cases c1 : c < q
  · rw [if_pos (show a < q by omega), if_pos c1] at h
    rw [if_pos (show a < q by omega), if_pos (show b < q by omega)]
    exact G a b c hab hbc (by omega) h
  · rw [if_neg c1] at h
    by_cases c2 : c = q
    · rw [if_pos (show a < q by omega), if_pos c2] at h
      rw [if_pos (show a < q by omega), if_pos (show b < q by omega)]
      rcases hp with ⟨h1, h2⟩ | ⟨h1, h2, h3, h4⟩
      · rw [h2 a (by omega)] at h; exact absurd h (by decide)
      · have h5 := sg_tr h (sg_sym h3)
        by_cases e : b = q - 1
        · rw [e]; exact h5
        · exact G a b (q - 1) hab (by omega) (by omega) h5
    · rw [if_neg c2] at h
      by_cases a1 : a < q
      · rw [if_pos a1] at h ⊢
        by_cases b1 : b < q
        · rw [if_pos b1]; exact G a b (c - 1) hab (by omega) (by omega) h
        · rw [if_neg b1]
          by_cases b3 : b = q
          · rw [if_pos b3]
            rcases hp with ⟨h1, h2⟩ | ⟨h1, h2, h3, h4⟩
            · omega
            · by_cases e : a = q - 1
              · rw [e]; exact h3
              · exact sg_tr (G a (q - 1) (c - 1) (by omega) (by omega) (by omega) h) h3
          · rw [if_neg b3]; exact G a (b - 1) (c - 1) (by omega) (by omega) (by omega) h
      · rw [if_neg a1] at h ⊢
        by_cases a2 : a = q
        · rw [if_pos a2] at h
          have := nsg (c - 1) (by omega) (by omega)
          rw [sg_sym h] at this; exact absurd this (by decide)
        · rw [if_neg a2] at h ⊢
          rw [if_neg (show ¬ b < q by omega), if_neg (show ¬ b = q by omega)]
          exact G (a - 1) (b - 1) (c - 1) (by omega) (by omega) (by omega) h
theorem grp_perm {s : Nat → Nat → Nat} : ∀ n (fl : List (Nat × List Nat)), fl.length = n → Grp s (perm s fl) := by
  intro n
  induction n with
  | zero =>
    intro fl hl a b c _ _ hc
    rw [perm_len] at hc; omega
  | succ n ih =>
    intro fl hl
    have hne : fl ≠ [] := fun e => by rw [e] at hl; cases hl
    have e := List.dropLast_concat_getLast hne
    rw [← e]
    have hl2 : fl.dropLast.length = n := by rw [List.length_dropLast]; omega
    have := ih fl.dropLast hl2
    rw [perm_app, iL_pl]
    exact grp_ins (y := (fl.getLast hne).1) (l := (fl.getLast hne).2) this
theorem oth_iff {s : Nat → Nat → Nat} {fl : List (Nat × List Nat)} {i : Nat} : ∀ k, 0 < oth s fl i k ↔ ∃ j, j < k ∧ j ≠ i ∧ sgF s fl i j = true := by
  intro k
  induction k with
  | zero =>
    constructor
    · intro h; exact absurd h (Nat.lt_irrefl _)
    · rintro ⟨j, hj, -⟩; omega
  | succ k ih =>
    unfold oth
    by_cases q : (sgF s fl i k && !decide (k = i)) = true
    · rw [if_pos q]
      rw [Bool.and_eq_true, Bool.not_eq_true', decide_eq_false_iff_not] at q
      constructor
      · intro _; exact ⟨k, by omega, q.2, q.1⟩
      · intro _; omega
    · rw [if_neg q, ih]
      constructor
      · rintro ⟨j, h1, h2, h3⟩; exact ⟨j, by omega, h2, h3⟩
      · rintro ⟨j, h1, h2, h3⟩
        by_cases c : j = k
        · subst c
          exfalso; apply q
          rw [Bool.and_eq_true, Bool.not_eq_true', decide_eq_false_iff_not]
          exact ⟨h3, h2⟩
        · exact ⟨j, by omega, h2, h3⟩
theorem wr_iff {s : Nat → Nat → Nat} {fl : List (Nat × List Nat)} {i : Nat} : wr s fl i = true ↔ (∃ j, j < fl.length ∧ j ≠ i ∧ sgF s fl i j = true) ∧ ((∃ j, j < fl.length ∧ sgF s fl i j = true ∧ rsF s fl j < 7) ∨ ¬ ∃ j, j < fl.length ∧ sgF s fl i j = true ∧ ∀ k, k < fl.length → sgF s fl i k = true → bN s (rsF s fl j) (rsF s fl k) = true) := by
  unfold wr
  rw [Bool.and_eq_true, decide_eq_true_iff, oth_iff, Bool.or_eq_true]
  have e1 : plR s fl i fl.length = true ↔ ∃ j, j < fl.length ∧ sgF s fl i j = true ∧ rsF s fl j < 7 := by
    unfold plR
    rw [anyb_iff]
    simp only [Bool.and_eq_true, decide_eq_true_iff]
  have e3 : ∀ r, allR s fl i r fl.length = true ↔ ∀ k, k < fl.length → sgF s fl i k = true → bN s r (rsF s fl k) = true := by
    intro r
    unfold allR
    rw [Bool.not_eq_true', ← Bool.not_eq_true, anyb_iff]
    constructor
    · intro h k hk hs
      cases c : bN s r (rsF s fl k) with
      | true => rfl
      | false => exact absurd ⟨k, hk, by rw [hs, c]; rfl⟩ h
    · rintro h ⟨k, hk, hs⟩
      rw [Bool.and_eq_true, Bool.not_eq_true'] at hs
      rw [h k hk hs.1] at hs
      exact absurd hs.2 (by decide)
  have e2 : leR s fl i fl.length = true ↔ ∃ j, j < fl.length ∧ sgF s fl i j = true ∧ ∀ k, k < fl.length → sgF s fl i k = true → bN s (rsF s fl j) (rsF s fl k) = true := by
    unfold leR
    rw [anyb_iff]
    simp only [Bool.and_eq_true, e3]
  rw [e1, Bool.not_eq_true', ← Bool.not_eq_true, e2]
def eos (s : Nat → Nat → Nat) (D : List (Nat × List Nat)) (i : Nat) : Nat := i + 1 + fst (fun t => !sgF s D (i + 1 + t) i) (D.length - (i + 1))
theorem eos_le {s : Nat → Nat → Nat} {D : List (Nat × List Nat)} {i : Nat} (hi : i < D.length) : i < eos s D i ∧ eos s D i ≤ D.length := by
  have := fst_le (fun t => !sgF s D (i + 1 + t) i) (D.length - (i + 1))
  unfold eos; omega
def frs (s : Nat → Nat → Nat) (D : List (Nat × List Nat)) (i : Nat) : Prop := i = 0 ∨ sgF s D i (i - 1) = false
theorem eos_in {s : Nat → Nat → Nat} {D : List (Nat × List Nat)} (g : Grp s D) {i t : Nat} (hi : i < D.length) (hf : frs s D i) : (t < D.length ∧ sgF s D i t = true) ↔ (i ≤ t ∧ t < eos s D i) := by
  have hle := eos_le (s := s) hi
  constructor
  · rintro ⟨ht, hs⟩
    have h1 : i ≤ t := by
      rcases Nat.lt_or_ge t i with q | q
      · exfalso
        rcases hf with hf | hf
        · omega
        · by_cases e : t = i - 1
          · rw [e, hf] at hs; exact absurd hs (by decide)
          · have := g t (i - 1) i (by omega) (by omega) hi (sg_sym hs)
            have h2 := sg_tr hs this
            unfold sgF at hf
            rw [h2] at hf; exact absurd hf (by decide)
      · exact q
    refine ⟨h1, ?_⟩
    rcases Nat.lt_or_ge t (eos s D i) with q | q
    · exact q
    · exfalso
      have hlt : fst (fun t => !sgF s D (i + 1 + t) i) (D.length - (i + 1)) < D.length - (i + 1) := by unfold eos at q; omega
      have hy := fst_yes _ _ hlt
      rw [Bool.not_eq_true'] at hy
      have hy2 : sgF s D (eos s D i) i = false := hy
      by_cases e : t = eos s D i
      · rw [e] at hs
        have := sg_sym hs
        unfold sgF at hy2
        rw [this] at hy2; exact absurd hy2 (by decide)
      · have := sg_sym (g i (eos s D i) t hle.1 (by omega) ht hs)
        unfold sgF at hy2
        rw [this] at hy2; exact absurd hy2 (by decide)
  · rintro ⟨h1, h2⟩
    refine ⟨by omega, ?_⟩
    by_cases e : t = i
    · rw [e]; exact sg_r s _
    · have := fst_no (fun t => !sgF s D (i + 1 + t) i) (D.length - (i + 1)) (t - (i + 1)) (by unfold eos at h2; omega)
      simp only [Bool.not_eq_false', show i + 1 + (t - (i + 1)) = t by omega] at this
      exact sg_sym this
def Bad (s : Nat → Nat → Nat) (D : List (Nat × List Nat)) (i : Nat) : Prop := frs s D i ∧ eos s D i - i ≠ 1 ∧ ((∃ t, i ≤ t ∧ t < eos s D i ∧ rsF s D t < 7) ∨ ¬ ∃ t, (i ≤ t ∧ t < eos s D i) ∧ ∀ u, i ≤ u → u < eos s D i → bN s (rsF s D t) (rsF s D u) = true)
theorem bad_iff {s : Nat → Nat → Nat} {fl : List (Nat × List Nat)} : (∃ i, i < fl.length ∧ Bad s (perm s fl) i) ↔ ∃ j, j < fl.length ∧ wr s fl j = true := by
  have hof := ord_full (s := s) (fl := fl)
  have hnd : nd (ord s fl) := ordK_nd _ (Nat.le_refl _)
  have g := grp_perm (s := s) fl.length fl rfl
  have hlen := perm_len (s := s) (fl := fl)
  have sgp : ∀ a c, a < fl.length → c < fl.length → sgF s (perm s fl) a c = sgF s fl ((ord s fl).getD a 0) ((ord s fl).getD c 0) := by
    intro a c ha hc
    unfold sgF; rw [perm_at ha, perm_at hc]
  have rsp : ∀ a, a < fl.length → rsF s (perm s fl) a = rsF s fl ((ord s fl).getD a 0) := by
    intro a ha
    unfold rsF; rw [perm_at ha]
  have olt : ∀ a, a < fl.length → (ord s fl).getD a 0 < fl.length := fun a ha => (hof.2 _).mp (getD_mem (by omega))
  have pos : ∀ j, j < fl.length → ∃ a, a < fl.length ∧ (ord s fl).getD a 0 = j := by
    intro j hj
    obtain ⟨a, ha, e⟩ := mem_getD ((hof.2 j).mpr hj)
    exact ⟨a, by omega, e⟩
  -- a first place, its group, and the same group in fl, seen from any member
  have core : ∀ i t0, i < fl.length → t0 < fl.length → frs s (perm s fl) i → sgF s (perm s fl) i t0 = true → ((eos s (perm s fl) i - i ≠ 1 ∧ ((∃ t, i ≤ t ∧ t < eos s (perm s fl) i ∧ rsF s (perm s fl) t < 7) ∨ ¬ ∃ t, (i ≤ t ∧ t < eos s (perm s fl) i) ∧ ∀ u, i ≤ u → u < eos s (perm s fl) i → bN s (rsF s (perm s fl) t) (rsF s (perm s fl) u) = true)) ↔ wr s fl ((ord s fl).getD t0 0) = true) := by
    intro i t0 hi ht0 hf hs0
    have hle := eos_le (s := s) (D := perm s fl) (i := i) (by omega)
    have M : ∀ t, t < fl.length → ((i ≤ t ∧ t < eos s (perm s fl) i) ↔ sgF s fl ((ord s fl).getD t0 0) ((ord s fl).getD t 0) = true) := by
      intro t ht
      have h1 := eos_in g (i := i) (t := t) (by omega) hf
      rw [← h1, ← sgp t0 t ht0 ht]
      constructor
      · rintro ⟨-, h2⟩; exact sg_tr (sg_sym hs0) h2
      · intro h2; exact ⟨by omega, sg_tr hs0 h2⟩
    have m0 := (M t0 ht0).mpr (sg_r s _)
    rw [wr_iff]
    have c1 : eos s (perm s fl) i - i ≠ 1 ↔ ∃ j, j < fl.length ∧ j ≠ (ord s fl).getD t0 0 ∧ sgF s fl ((ord s fl).getD t0 0) j = true := by
      constructor
      · intro h
        have : ∃ t, t ≠ t0 ∧ i ≤ t ∧ t < eos s (perm s fl) i := by
          by_cases e : t0 = i
          · exact ⟨i + 1, by omega, by omega, by omega⟩
          · exact ⟨i, by omega, by omega, by omega⟩
        obtain ⟨t, h1, h2, h3⟩ := this
        have ht : t < fl.length := by omega
        refine ⟨(ord s fl).getD t 0, olt t ht, ?_, (M t ht).mp ⟨h2, h3⟩⟩
        rcases Nat.lt_or_gt_of_ne h1 with q | q
        · exact nd_getD hnd t t0 q (by omega)
        · exact fun e => nd_getD hnd t0 t q (by omega) e.symm
      · rintro ⟨j, h1, h2, h3⟩
        obtain ⟨a, ha, e⟩ := pos j h1
        have := (M a ha).mpr (e ▸ h3)
        have hne : a ≠ t0 := fun q => h2 (by rw [← e, q])
        omega
    have c2 : (∃ t, i ≤ t ∧ t < eos s (perm s fl) i ∧ rsF s (perm s fl) t < 7) ↔ ∃ j, j < fl.length ∧ sgF s fl ((ord s fl).getD t0 0) j = true ∧ rsF s fl j < 7 := by
      constructor
      · rintro ⟨t, h1, h2, h3⟩
        have ht : t < fl.length := by omega
        exact ⟨_, olt t ht, (M t ht).mp ⟨h1, h2⟩, by rw [← rsp t ht]; exact h3⟩
      · rintro ⟨j, h1, h2, h3⟩
        obtain ⟨a, ha, e⟩ := pos j h1
        have := (M a ha).mpr (e ▸ h2)
        exact ⟨a, this.1, this.2, by rw [rsp a ha, e]; exact h3⟩
    have c3 : (∃ t, (i ≤ t ∧ t < eos s (perm s fl) i) ∧ ∀ u, i ≤ u → u < eos s (perm s fl) i → bN s (rsF s (perm s fl) t) (rsF s (perm s fl) u) = true) ↔ ∃ j, j < fl.length ∧ sgF s fl ((ord s fl).getD t0 0) j = true ∧ ∀ k, k < fl.length → sgF s fl ((ord s fl).getD t0 0) k = true → bN s (rsF s fl j) (rsF s fl k) = true := by
      constructor
      · rintro ⟨t, h1, h2⟩
        have ht : t < fl.length := by omega
        refine ⟨_, olt t ht, (M t ht).mp h1, fun k hk hs => ?_⟩
        obtain ⟨a, ha, e⟩ := pos k hk
        have ma := (M a ha).mpr (e ▸ hs)
        have := h2 a ma.1 ma.2
        rw [rsp t ht, rsp a ha, e] at this
        exact this
      · rintro ⟨j, h1, h2, h3⟩
        obtain ⟨a, ha, e⟩ := pos j h1
        refine ⟨a, (M a ha).mpr (e ▸ h2), fun u hu1 hu2 => ?_⟩
        have hu : u < fl.length := by omega
        have := h3 _ (olt u hu) ((M u hu).mp ⟨hu1, hu2⟩)
        rw [rsp a ha, rsp u hu, e]; exact this
    rw [c1, c2, c3]
  constructor
  · rintro ⟨i, hi, hf, hb⟩
    exact ⟨_, olt i hi, (core i i hi hi hf (sg_r s _)).mp hb⟩
  · rintro ⟨j, hj, hw⟩
    obtain ⟨t0, ht0, e⟩ := pos j hj
    have hh := fst_hit (fun t => sgF s (perm s fl) t t0) (t0 + 1) t0 (by omega) (sg_r s _)
    have hy := fst_yes (fun t => sgF s (perm s fl) t t0) (t0 + 1) (by omega)
    have hno := fst_no (fun t => sgF s (perm s fl) t t0) (t0 + 1)
    generalize fst (fun t => sgF s (perm s fl) t t0) (t0 + 1) = i at hh hy hno
    have hf : frs s (perm s fl) i := by
      by_cases c : i = 0
      · exact .inl c
      · refine .inr ?_
        cases r : sgF s (perm s fl) i (i - 1) with
        | false => rfl
        | true =>
          have h1 := hno (i - 1) (by omega)
          have h2 : sgF s (perm s fl) (i - 1) t0 = true := sg_tr (sg_sym r) hy
          rw [h2] at h1; exact absurd h1 (by decide)
    refine ⟨i, by omega, hf, ?_⟩
    exact (core i t0 (by omega) ht0 hf hy).mpr (by rw [e]; exact hw)
