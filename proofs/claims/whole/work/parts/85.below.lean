noncomputable def pb (p : Prop) : Bool := @decide p (Classical.propDecidable p)
theorem pb_iff {p : Prop} : pb p = true ↔ p := by
  unfold pb
  exact @decide_eq_true_iff p (Classical.propDecidable p)
theorem pb_t {p : Prop} (h : p) : pb p = true := pb_iff.mpr h
theorem pb_f {p : Prop} (h : ¬ p) : pb p = false := by
  cases e : pb p with
  | false => rfl
  | true => exact absurd (pb_iff.mp e) h
theorem pb_congr {p q : Prop} (h : p ↔ q) : pb p = pb q := by rw [propext h]
def Rn (E : Nat → Nat → Prop) : Nat → Nat → Nat → Prop
  | 0, a, c => a = c
  | n + 1, a, c => ∃ b, E a b ∧ Rn E n b c
def Rch (E : Nat → Nat → Prop) (a c : Nat) : Prop := ∃ n, Rn E n a c
theorem Rch_r (E : Nat → Nat → Prop) (a : Nat) : Rch E a a := ⟨0, rfl⟩
theorem Rch_s {E : Nat → Nat → Prop} {a b c : Nat} (h : E a b) (r : Rch E b c) : Rch E a c := by
  obtain ⟨n, hn⟩ := r
  exact ⟨n + 1, b, h, hn⟩
theorem Rch_c {E : Nat → Nat → Prop} {a c : Nat} (r : Rch E a c) : a = c ∨ ∃ b, E a b ∧ Rch E b c := by
  obtain ⟨n, hn⟩ := r
  cases n with
  | zero => exact .inl hn
  | succ n =>
    obtain ⟨b, h1, h2⟩ := hn
    exact .inr ⟨b, h1, n, h2⟩
theorem Rch_ind {E : Nat → Nat → Prop} {c : Nat} {P : Nat → Prop} (h0 : P c) (hs : ∀ a b, E a b → Rch E b c → P b → P a) {a : Nat} (r : Rch E a c) : P a := by
  obtain ⟨n, hn⟩ := r
  induction n generalizing a with
  | zero => rw [show a = c from hn]; exact h0
  | succ n ih =>
    obtain ⟨b, h1, h2⟩ := hn
    exact hs a b h1 ⟨n, h2⟩ (ih h2)
theorem Rch_t {E : Nat → Nat → Prop} {a b c : Nat} (r : Rch E a b) (q : Rch E b c) : Rch E a c :=
  Rch_ind (P := fun x => Rch E x c) q (fun _ _ e _ i => Rch_s e i) r
theorem Rch_e {E : Nat → Nat → Prop} {a b : Nat} (h : E a b) : Rch E a b := Rch_s h (Rch_r E b)
theorem Rch_mono {E F : Nat → Nat → Prop} (h : ∀ a b, E a b → F a b) {a c : Nat} (r : Rch E a c) : Rch F a c :=
  Rch_ind (P := fun x => Rch F x c) (Rch_r F c) (fun _ _ e _ i => Rch_s (h _ _ e) i) r
theorem Rch_l {E : Nat → Nat → Prop} {a c : Nat} (r : Rch E a c) : a = c ∨ ∃ b, Rch E a b ∧ E b c := by
  refine Rch_ind (P := fun x => x = c ∨ ∃ b, Rch E x b ∧ E b c) (.inl rfl) ?_ r
  intro x y e _ i
  rcases i with rfl | ⟨b, h1, h2⟩
  · exact .inr ⟨x, Rch_r E x, e⟩
  · exact .inr ⟨b, Rch_s e h1, h2⟩
def ty (s : Nat → Nat → Nat) (a : Nat) : Prop := a = 7 ∨ (8 ≤ a ∧ a < s 3 0) ∨ (24 ≤ a ∧ a < 24 + s 5 0) ∨ (41 ≤ a ∧ a ≤ 46)
def FE (s : Nat → Nat → Nat) (f g : Nat) : Prop := ∃ p, p < s 11 f ∧ s 10 (2 * f + p) = g
def TE (s : Nat → Nat → Nat) (a c : Nat) : Prop := (8 ≤ a ∧ a < s 3 0 ∧ c = s 4 a) ∨ (24 ≤ a ∧ a < 24 + s 5 0 ∧ (c = 7 ∨ ∃ g, FE s (a - 24) g ∧ c = 24 + g)) ∨ (41 ≤ a ∧ a ≤ 46 ∧ c = 7)
theorem fe_lt {s : Nat → Nat → Nat} (b : BI s) {f g : Nat} (h : FE s f g) : g < f := by
  obtain ⟨p, h1, h2⟩ := h
  have := b.parentF f p h1
  omega
theorem te_lt {s : Nat → Nat → Nat} (b : BI s) {a c : Nat} (h : TE s a c) : c < a := by
  rcases h with ⟨h1, h2, h3⟩ | ⟨h1, h2, h3⟩ | ⟨h1, h2, h3⟩
  · have := b.parentC a h1 h2; omega
  · rcases h3 with h3 | ⟨g, h3, h4⟩
    · omega
    · have := fe_lt b h3; omega
  · omega
theorem te_ty {s : Nat → Nat → Nat} (b : BI s) {a c : Nat} (h : TE s a c) : ty s a ∧ ty s c := by
  unfold ty
  have hc := b.classes
  rcases h with ⟨h1, h2, h3⟩ | ⟨h1, h2, h3⟩ | ⟨h1, h2, h3⟩
  · have := b.parentC a h1 h2; omega
  · rcases h3 with h3 | ⟨g, h3, h4⟩
    · omega
    · have := fe_lt b h3; omega
  · omega
theorem rch_ty {s : Nat → Nat → Nat} (b : BI s) {a c : Nat} (ha : ty s a) (r : Rch (TE s) a c) : ty s c := by
  rcases Rch_l r with rfl | ⟨x, _, h⟩
  · exact ha
  · exact (te_ty b h).2
theorem rch_le {s : Nat → Nat → Nat} (b : BI s) {a c : Nat} (r : Rch (TE s) a c) : c ≤ a :=
  Rch_ind (P := fun x => c ≤ x) (Nat.le_refl _) (fun _ _ e _ i => by have := te_lt b e; omega) r
theorem rch_7 {s : Nat → Nat → Nat} (b : BI s) : ∀ n a, a < n → ty s a → Rch (TE s) a 7 := by
  intro n
  induction n with
  | zero => intro a h; omega
  | succ n ih =>
    intro a ha hty
    rcases hty with h | ⟨h1, h2⟩ | ⟨h1, h2⟩ | ⟨h1, h2⟩
    · rw [h]; exact Rch_r _ _
    · have e : TE s a (s 4 a) := .inl ⟨h1, h2, rfl⟩
      have := te_lt b e
      exact Rch_s e (ih _ (by omega) (te_ty b e).2)
    · exact Rch_e (.inr (.inl ⟨h1, h2, .inl rfl⟩))
    · exact Rch_e (.inr (.inr ⟨h1, h2, rfl⟩))
theorem rch_fe {s : Nat → Nat → Nat} (b : BI s) {f g : Nat} (hf : f < s 5 0) (r : Rch (FE s) f g) : Rch (TE s) (24 + f) (24 + g) := by
  have : f < s 5 0 → Rch (TE s) (24 + f) (24 + g) := by
    refine Rch_ind (P := fun x => x < s 5 0 → Rch (TE s) (24 + x) (24 + g)) (fun _ => Rch_r _ _) ?_ r
    intro x y e _ i hx
    have hy := fe_lt b e
    exact Rch_s (.inr (.inl ⟨by omega, by omega, .inr ⟨y, by rw [show 24 + x - 24 = x by omega]; exact e, rfl⟩⟩)) (i (by omega))
  exact this hf
theorem rch_ef {s : Nat → Nat → Nat} (b : BI s) {a c : Nat} (h1 : 24 ≤ a) (h2 : a < 24 + s 5 0) (hc : c ≠ 7) (r : Rch (TE s) a c) : 24 ≤ c ∧ Rch (FE s) (a - 24) (c - 24) := by
  have hcl := b.classes
  have hfa := b.faces
  have : 24 ≤ a → a < 24 + s 5 0 → 24 ≤ c ∧ Rch (FE s) (a - 24) (c - 24) := by
    refine Rch_ind (P := fun x => 24 ≤ x → x < 24 + s 5 0 → 24 ≤ c ∧ Rch (FE s) (x - 24) (c - 24)) (fun h _ => ⟨h, Rch_r _ _⟩) ?_ r
    intro x y e q i g1 g2
    rcases e with ⟨e1, e2, e3⟩ | ⟨e1, e2, e3⟩ | ⟨e1, e2, e3⟩
    · omega
    · rcases e3 with e3 | ⟨g, e3, e4⟩
      · subst e3
        have := rch_le b q
        exfalso
        rcases Rch_c q with rfl | ⟨z, hz, _⟩
        · exact hc rfl
        · have := te_ty b hz
          have := te_lt b hz
          unfold TE at hz
          omega
      · have hl := fe_lt b e3
        have := i (by omega) (by omega)
        rw [e4, show 24 + g - 24 = g by omega] at this
        exact ⟨this.1, Rch_s e3 this.2⟩
    · omega
  exact this h1 h2
