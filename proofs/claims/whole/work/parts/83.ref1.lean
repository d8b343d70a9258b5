def b2 (b : Bool) : Int32 := if b then 1 else 0
theorem b2_01 (b : Bool) : b2 b = 0 ∨ b2 b = 1 := by cases b <;> simp [b2]
theorem b2_eq0 (b : Bool) : (b2 b = 0) = (b = false) := by cases b <;> simp [b2]
theorem b2_t {b : Bool} (h : b = true) : b2 b = 1 := by rw [h]; rfl
theorem b2_f {b : Bool} (h : b = false) : b2 b = 0 := by rw [h]; rfl
theorem b2_iff {p : Prop} [Decidable p] : (if p then (some (1 : Int32)) else some 0) = some (b2 (decide p)) := by
  by_cases h : p
  · simp [h, b2]
  · simp [h, b2]
theorem b2_ifn {p : Prop} [Decidable p] : (if p then (some (0 : Int32)) else some 1) = some (b2 (!decide p)) := by
  by_cases h : p
  · simp [h, b2]
  · simp [h, b2]
def fst (p : Nat → Bool) : Nat → Nat
  | 0 => 0
  | n + 1 => if fst p n < n then fst p n else if p n then n else n + 1
theorem fst_le (p : Nat → Bool) (n : Nat) : fst p n ≤ n := by
  induction n with
  | zero => exact Nat.le_refl _
  | succ n ih =>
    unfold fst
    split
    · omega
    · split <;> omega
theorem fst_no (p : Nat → Bool) (n : Nat) : ∀ j, j < fst p n → p j = false := by
  induction n with
  | zero => intro j hj; exact absurd hj (Nat.not_lt_zero _)
  | succ n ih =>
    intro j hj
    have hle := fst_le p n
    unfold fst at hj
    split at hj
    · exact ih j hj
    · have e : fst p n = n := by omega
      split at hj
      · exact ih j (by omega)
      · by_cases q : j = n
        · subst q
          rename_i h2
          exact Bool.eq_false_iff.mpr h2
        · exact ih j (by omega)
theorem fst_yes (p : Nat → Bool) (n : Nat) (h : fst p n < n) : p (fst p n) = true := by
  induction n with
  | zero => exact absurd h (Nat.not_lt_zero _)
  | succ n ih =>
    unfold fst at h ⊢
    by_cases q : fst p n < n
    · rw [if_pos q]; exact ih q
    · rw [if_neg q] at h ⊢
      by_cases r : p n = true
      · rw [if_pos r]; exact r
      · rw [if_neg r] at h; omega
theorem fst_hit (p : Nat → Bool) (n j : Nat) (hj : j < n) (h : p j = true) : fst p n ≤ j := by
  rcases Nat.lt_or_ge j (fst p n) with q | q
  · rw [fst_no p n j q] at h; exact absurd h (by decide)
  · exact q
theorem fst_all (p : Nat → Bool) (n : Nat) (h : ∀ j, j < n → p j = false) : fst p n = n := by
  have hle := fst_le p n
  rcases Nat.lt_or_ge (fst p n) n with q | q
  · have e := fst_yes p n q
    rw [h _ q] at e; exact absurd e (by decide)
  · omega
theorem fst_eq (p : Nat → Bool) (n k : Nat) (hk : k ≤ n) (h : ∀ j, j < k → p j = false) (hp : k < n → p k = true) : fst p n = k := by
  have hle := fst_le p n
  rcases Nat.lt_or_ge k n with q | q
  · have a := fst_hit p n k q (hp q)
    rcases Nat.lt_or_ge (fst p n) k with r | r
    · have e := fst_yes p n (by omega)
      rw [h _ r] at e; exact absurd e (by decide)
    · omega
  · have e : k = n := by omega
    subst e
    exact fst_all p k h
theorem fst_congr {p q : Nat → Bool} {n : Nat} (h : ∀ j, j < n → p j = q j) : fst p n = fst q n := by
  have hle := fst_le q n
  exact fst_eq p n _ hle (fun j hj => by rw [h j (by omega)]; exact fst_no q n j hj) (fun hj => by rw [h _ hj]; exact fst_yes q n hj)
def anyb (p : Nat → Bool) (n : Nat) : Bool := decide (fst p n < n)
theorem anyb_iff (p : Nat → Bool) (n : Nat) : anyb p n = true ↔ ∃ j, j < n ∧ p j = true := by
  unfold anyb
  rw [decide_eq_true_iff]
  constructor
  · intro h; exact ⟨_, h, fst_yes p n h⟩
  · rintro ⟨j, hj, hp⟩; exact Nat.lt_of_le_of_lt (fst_hit p n j hj hp) hj
theorem itr_f {α ρ : Type} {B : α → α} {z : α} (ap : Nat → α → ρ) (p : Nat → Bool) (n : Nat) (r : ρ) (hn : n < 6000) (hs : ∀ k, k < n → p k = false → ∀ K : α, ap (k + 1) K = r → ap k (B K) = r) (hh : ∀ k, k < n → p k = true → fst p n = k → ∀ K : α, ap k (B K) = r) (he : fst p n = n → ∀ K : α, ap n (B K) = r) : ap 0 (itr B z fu) = r := by
  have hle := fst_le p n
  apply itr_0 ap r (fst p n) (by omega)
  · intro k hk K hK
    exact hs k (by omega) (fst_no p n k hk) K hK
  · intro K
    rcases Nat.lt_or_ge (fst p n) n with q | q
    · exact hh _ q (fst_yes p n q) rfl K
    · have e : fst p n = n := by omega
      have := he e K
      rw [← e] at this
      exact this
theorem pe_of {p : Prop} {c : Bool} [Decidable p] (h : decide p = c) : (p ↔ c = true) := by
  rw [← h]; exact (decide_eq_true_iff).symm
def BI (s : Nat → Nat → Nat) : Prop := (∀ k i, s k i < 2 ^ 31) ∧ (1 ≤ s 1 0 ∧ s 1 0 ≤ 4) ∧ (∀ i, 0 < i → i < s 1 0 → s 2 i < i) ∧ (11 ≤ s 3 0 ∧ s 3 0 ≤ 24) ∧ (∀ i, 8 ≤ i → i < s 3 0 → 7 ≤ s 4 i ∧ s 4 i < i) ∧ (s 5 0 ≤ 12) ∧ (∀ i, i < s 5 0 → s 6 i < s 1 0) ∧ (∀ i, i < s 5 0 → s 8 i < 4) ∧ (∀ i, s 9 i ≤ 1) ∧ (∀ i, s 11 i ≤ 2) ∧ (∀ i, s 5 0 ≤ i → s 11 i = 0) ∧ (∀ i p, p < s 11 i → s 10 (2 * i + p) < i) ∧ (∀ i, s 12 i ≤ 6) ∧ (∀ i, s 5 0 ≤ i → s 12 i = 0) ∧ (∀ i, s 16 i ≤ 3) ∧ (∀ x i, i < s 16 x → 8 ≤ s 17 (3 * x + i) ∧ s 17 (3 * x + i) < s 3 0) ∧ (∀ x i j, i < j → j < s 16 x → s 17 (3 * x + i) ≠ s 17 (3 * x + j)) ∧ (∀ x k, ((x / 6 < s 5 0 ∧ x % 6 < s 12 (x / 6)) ∨ (72 ≤ x ∧ x < 75)) → k < 3 → s 15 (3 * x + k) < 47) ∧ (∀ x k, ((x / 6 < s 5 0 ∧ x % 6 < s 12 (x / 6)) ∨ (72 ≤ x ∧ x < 75)) → k < 2 → s 15 (3 * x + k) = 0 → s 15 (3 * x + k + 1) = 0) ∧ (∀ x, s 14 x < 47) ∧ (∀ x, s 13 x < 29) ∧ (s 18 0 ≤ 32) ∧ (s 21 0 ≤ 16)
theorem BI.lt {s : Nat → Nat → Nat} (h : BI s) : ∀ k i, s k i < 2 ^ 31 := h.1
theorem BI.loaders {s : Nat → Nat → Nat} (h : BI s) : 1 ≤ s 1 0 ∧ s 1 0 ≤ 4 := h.2.1
theorem BI.parentL {s : Nat → Nat → Nat} (h : BI s) : ∀ i, 0 < i → i < s 1 0 → s 2 i < i := h.2.2.1
theorem BI.classes {s : Nat → Nat → Nat} (h : BI s) : 11 ≤ s 3 0 ∧ s 3 0 ≤ 24 := h.2.2.2.1
theorem BI.parentC {s : Nat → Nat → Nat} (h : BI s) : ∀ i, 8 ≤ i → i < s 3 0 → 7 ≤ s 4 i ∧ s 4 i < i := h.2.2.2.2.1
theorem BI.faces {s : Nat → Nat → Nat} (h : BI s) : s 5 0 ≤ 12 := h.2.2.2.2.2.1
theorem BI.faceL {s : Nat → Nat → Nat} (h : BI s) : ∀ i, i < s 5 0 → s 6 i < s 1 0 := h.2.2.2.2.2.2.1
theorem BI.facePack {s : Nat → Nat → Nat} (h : BI s) : ∀ i, i < s 5 0 → s 8 i < 4 := h.2.2.2.2.2.2.2.1
theorem BI.faceOpen {s : Nat → Nat → Nat} (h : BI s) : ∀ i, s 9 i ≤ 1 := h.2.2.2.2.2.2.2.2.1
theorem BI.parentN {s : Nat → Nat → Nat} (h : BI s) : ∀ i, s 11 i ≤ 2 := h.2.2.2.2.2.2.2.2.2.1
theorem BI.parentN0 {s : Nat → Nat → Nat} (h : BI s) : ∀ i, s 5 0 ≤ i → s 11 i = 0 := h.2.2.2.2.2.2.2.2.2.2.1
theorem BI.parentF {s : Nat → Nat → Nat} (h : BI s) : ∀ i p, p < s 11 i → s 10 (2 * i + p) < i := h.2.2.2.2.2.2.2.2.2.2.2.1
theorem BI.ownN {s : Nat → Nat → Nat} (h : BI s) : ∀ i, s 12 i ≤ 6 := h.2.2.2.2.2.2.2.2.2.2.2.2.1
theorem BI.ownN0 {s : Nat → Nat → Nat} (h : BI s) : ∀ i, s 5 0 ≤ i → s 12 i = 0 := h.2.2.2.2.2.2.2.2.2.2.2.2.2.1
theorem BI.throwN {s : Nat → Nat → Nat} (h : BI s) : ∀ i, s 16 i ≤ 3 := h.2.2.2.2.2.2.2.2.2.2.2.2.2.2.1
theorem BI.throwT {s : Nat → Nat → Nat} (h : BI s) : ∀ x i, i < s 16 x → 8 ≤ s 17 (3 * x + i) ∧ s 17 (3 * x + i) < s 3 0 := h.2.2.2.2.2.2.2.2.2.2.2.2.2.2.2.1
theorem BI.throwD {s : Nat → Nat → Nat} (h : BI s) : ∀ x i j, i < j → j < s 16 x → s 17 (3 * x + i) ≠ s 17 (3 * x + j) := h.2.2.2.2.2.2.2.2.2.2.2.2.2.2.2.2.1
theorem BI.takeT {s : Nat → Nat → Nat} (h : BI s) : ∀ x k, ((x / 6 < s 5 0 ∧ x % 6 < s 12 (x / 6)) ∨ (72 ≤ x ∧ x < 75)) → k < 3 → s 15 (3 * x + k) < 47 := h.2.2.2.2.2.2.2.2.2.2.2.2.2.2.2.2.2.1
theorem BI.takeZ {s : Nat → Nat → Nat} (h : BI s) : ∀ x k, ((x / 6 < s 5 0 ∧ x % 6 < s 12 (x / 6)) ∨ (72 ≤ x ∧ x < 75)) → k < 2 → s 15 (3 * x + k) = 0 → s 15 (3 * x + k + 1) = 0 := h.2.2.2.2.2.2.2.2.2.2.2.2.2.2.2.2.2.2.1
theorem BI.resT {s : Nat → Nat → Nat} (h : BI s) : ∀ x, s 14 x < 47 := h.2.2.2.2.2.2.2.2.2.2.2.2.2.2.2.2.2.2.2.1
theorem BI.nameT {s : Nat → Nat → Nat} (h : BI s) : ∀ x, s 13 x < 29 := h.2.2.2.2.2.2.2.2.2.2.2.2.2.2.2.2.2.2.2.2.1
theorem BI.objects {s : Nat → Nat → Nat} (h : BI s) : s 18 0 ≤ 32 := h.2.2.2.2.2.2.2.2.2.2.2.2.2.2.2.2.2.2.2.2.2.1
theorem BI.stands {s : Nat → Nat → Nat} (h : BI s) : s 21 0 ≤ 16 := h.2.2.2.2.2.2.2.2.2.2.2.2.2.2.2.2.2.2.2.2.2.2
theorem ni_0 (x : Nat) (h : x < 2 ^ 31) : (nI x = 0) = (x = 0) := by
  have := @nI_eq x 0 h (by decide)
  rw [nI_0] at this
  exact propext this
theorem ni_1 (x : Nat) (h : x < 2 ^ 31) : (nI x = 1) = (x = 1) := by
  have := @nI_eq x 1 h (by decide)
  exact propext this
theorem ni_neg (x : Nat) (h : x < 2 ^ 31) : (nI x < 0) = False := eq_false (nI_pos h)
theorem ni_eq (a b : Nat) (ha : a < 2 ^ 31) (hb : b < 2 ^ 31) : (nI a = nI b) = (a = b) := propext (nI_eq ha hb)
theorem ni_le (a b : Nat) (ha : a < 2 ^ 31) (hb : b < 2 ^ 31) : (nI a ≤ nI b) = (a ≤ b) := propext (nI_leI ha hb)
theorem ni_lt (a b : Nat) (ha : a < 2 ^ 31) (hb : b < 2 ^ 31) : (nI a < nI b) = (a < b) := propext (nI_ltI ha hb)
theorem l0_e (a : Nat) (h : a < 2 ^ 31) : (nI a = 0) = (a = 0) := ni_eq a 0 h (by decide)
theorem l0_le (a : Nat) (h : a < 2 ^ 31) : (nI a ≤ 0) = (a ≤ 0) := ni_le a 0 h (by decide)
theorem l0_ge (a : Nat) (h : a < 2 ^ 31) : ((0 : Int32) ≤ nI a) = (0 ≤ a) := ni_le 0 a (by decide) h
theorem l0_lt (a : Nat) (h : a < 2 ^ 31) : (nI a < 0) = (a < 0) := ni_lt a 0 h (by decide)
theorem l0_gt (a : Nat) (h : a < 2 ^ 31) : ((0 : Int32) < nI a) = (0 < a) := ni_lt 0 a (by decide) h
theorem l1_m (a : Nat) : (1 : Int32) * nI a = nI (1 * a) := pk_mul 1 a
theorem l1_a (a : Nat) : nI a + 1 = nI (a + 1) := nI_add a 1
theorem l1_b (a : Nat) : (1 : Int32) + nI a = nI (1 + a) := nI_add 1 a
theorem l1_s (a : Nat) (h : 1 ≤ a) : nI a - 1 = nI (a - 1) := pk_sub h
theorem l1_e (a : Nat) (h : a < 2 ^ 31) : (nI a = 1) = (a = 1) := ni_eq a 1 h (by decide)
theorem l1_le (a : Nat) (h : a < 2 ^ 31) : (nI a ≤ 1) = (a ≤ 1) := ni_le a 1 h (by decide)
theorem l1_ge (a : Nat) (h : a < 2 ^ 31) : ((1 : Int32) ≤ nI a) = (1 ≤ a) := ni_le 1 a (by decide) h
theorem l1_lt (a : Nat) (h : a < 2 ^ 31) : (nI a < 1) = (a < 1) := ni_lt a 1 h (by decide)
theorem l1_gt (a : Nat) (h : a < 2 ^ 31) : ((1 : Int32) < nI a) = (1 < a) := ni_lt 1 a (by decide) h
theorem l2_m (a : Nat) : (2 : Int32) * nI a = nI (2 * a) := pk_mul 2 a
theorem l2_a (a : Nat) : nI a + 2 = nI (a + 2) := nI_add a 2
theorem l2_b (a : Nat) : (2 : Int32) + nI a = nI (2 + a) := nI_add 2 a
theorem l2_s (a : Nat) (h : 2 ≤ a) : nI a - 2 = nI (a - 2) := pk_sub h
theorem l2_e (a : Nat) (h : a < 2 ^ 31) : (nI a = 2) = (a = 2) := ni_eq a 2 h (by decide)
theorem l2_le (a : Nat) (h : a < 2 ^ 31) : (nI a ≤ 2) = (a ≤ 2) := ni_le a 2 h (by decide)
theorem l2_ge (a : Nat) (h : a < 2 ^ 31) : ((2 : Int32) ≤ nI a) = (2 ≤ a) := ni_le 2 a (by decide) h
theorem l2_lt (a : Nat) (h : a < 2 ^ 31) : (nI a < 2) = (a < 2) := ni_lt a 2 h (by decide)
theorem l2_gt (a : Nat) (h : a < 2 ^ 31) : ((2 : Int32) < nI a) = (2 < a) := ni_lt 2 a (by decide) h
theorem l3_m (a : Nat) : (3 : Int32) * nI a = nI (3 * a) := pk_mul 3 a
theorem l3_a (a : Nat) : nI a + 3 = nI (a + 3) := nI_add a 3
theorem l3_b (a : Nat) : (3 : Int32) + nI a = nI (3 + a) := nI_add 3 a
theorem l3_s (a : Nat) (h : 3 ≤ a) : nI a - 3 = nI (a - 3) := pk_sub h
theorem l3_e (a : Nat) (h : a < 2 ^ 31) : (nI a = 3) = (a = 3) := ni_eq a 3 h (by decide)
theorem l3_le (a : Nat) (h : a < 2 ^ 31) : (nI a ≤ 3) = (a ≤ 3) := ni_le a 3 h (by decide)
theorem l3_ge (a : Nat) (h : a < 2 ^ 31) : ((3 : Int32) ≤ nI a) = (3 ≤ a) := ni_le 3 a (by decide) h
theorem l3_lt (a : Nat) (h : a < 2 ^ 31) : (nI a < 3) = (a < 3) := ni_lt a 3 h (by decide)
theorem l3_gt (a : Nat) (h : a < 2 ^ 31) : ((3 : Int32) < nI a) = (3 < a) := ni_lt 3 a (by decide) h
theorem l4_m (a : Nat) : (4 : Int32) * nI a = nI (4 * a) := pk_mul 4 a
theorem l4_a (a : Nat) : nI a + 4 = nI (a + 4) := nI_add a 4
theorem l4_b (a : Nat) : (4 : Int32) + nI a = nI (4 + a) := nI_add 4 a
theorem l4_s (a : Nat) (h : 4 ≤ a) : nI a - 4 = nI (a - 4) := pk_sub h
theorem l4_e (a : Nat) (h : a < 2 ^ 31) : (nI a = 4) = (a = 4) := ni_eq a 4 h (by decide)
theorem l4_le (a : Nat) (h : a < 2 ^ 31) : (nI a ≤ 4) = (a ≤ 4) := ni_le a 4 h (by decide)
theorem l4_ge (a : Nat) (h : a < 2 ^ 31) : ((4 : Int32) ≤ nI a) = (4 ≤ a) := ni_le 4 a (by decide) h
theorem l4_lt (a : Nat) (h : a < 2 ^ 31) : (nI a < 4) = (a < 4) := ni_lt a 4 h (by decide)
theorem l4_gt (a : Nat) (h : a < 2 ^ 31) : ((4 : Int32) < nI a) = (4 < a) := ni_lt 4 a (by decide) h
theorem l5_m (a : Nat) : (5 : Int32) * nI a = nI (5 * a) := pk_mul 5 a
theorem l5_a (a : Nat) : nI a + 5 = nI (a + 5) := nI_add a 5
theorem l5_b (a : Nat) : (5 : Int32) + nI a = nI (5 + a) := nI_add 5 a
theorem l5_s (a : Nat) (h : 5 ≤ a) : nI a - 5 = nI (a - 5) := pk_sub h
theorem l5_e (a : Nat) (h : a < 2 ^ 31) : (nI a = 5) = (a = 5) := ni_eq a 5 h (by decide)
theorem l5_le (a : Nat) (h : a < 2 ^ 31) : (nI a ≤ 5) = (a ≤ 5) := ni_le a 5 h (by decide)
theorem l5_ge (a : Nat) (h : a < 2 ^ 31) : ((5 : Int32) ≤ nI a) = (5 ≤ a) := ni_le 5 a (by decide) h
theorem l5_lt (a : Nat) (h : a < 2 ^ 31) : (nI a < 5) = (a < 5) := ni_lt a 5 h (by decide)
theorem l5_gt (a : Nat) (h : a < 2 ^ 31) : ((5 : Int32) < nI a) = (5 < a) := ni_lt 5 a (by decide) h
theorem l6_m (a : Nat) : (6 : Int32) * nI a = nI (6 * a) := pk_mul 6 a
theorem l6_a (a : Nat) : nI a + 6 = nI (a + 6) := nI_add a 6
theorem l6_b (a : Nat) : (6 : Int32) + nI a = nI (6 + a) := nI_add 6 a
theorem l6_s (a : Nat) (h : 6 ≤ a) : nI a - 6 = nI (a - 6) := pk_sub h
theorem l6_e (a : Nat) (h : a < 2 ^ 31) : (nI a = 6) = (a = 6) := ni_eq a 6 h (by decide)
theorem l6_le (a : Nat) (h : a < 2 ^ 31) : (nI a ≤ 6) = (a ≤ 6) := ni_le a 6 h (by decide)
theorem l6_ge (a : Nat) (h : a < 2 ^ 31) : ((6 : Int32) ≤ nI a) = (6 ≤ a) := ni_le 6 a (by decide) h
theorem l6_lt (a : Nat) (h : a < 2 ^ 31) : (nI a < 6) = (a < 6) := ni_lt a 6 h (by decide)
theorem l6_gt (a : Nat) (h : a < 2 ^ 31) : ((6 : Int32) < nI a) = (6 < a) := ni_lt 6 a (by decide) h
theorem l7_m (a : Nat) : (7 : Int32) * nI a = nI (7 * a) := pk_mul 7 a
theorem l7_a (a : Nat) : nI a + 7 = nI (a + 7) := nI_add a 7
theorem l7_b (a : Nat) : (7 : Int32) + nI a = nI (7 + a) := nI_add 7 a
theorem l7_s (a : Nat) (h : 7 ≤ a) : nI a - 7 = nI (a - 7) := pk_sub h
theorem l7_e (a : Nat) (h : a < 2 ^ 31) : (nI a = 7) = (a = 7) := ni_eq a 7 h (by decide)
theorem l7_le (a : Nat) (h : a < 2 ^ 31) : (nI a ≤ 7) = (a ≤ 7) := ni_le a 7 h (by decide)
theorem l7_ge (a : Nat) (h : a < 2 ^ 31) : ((7 : Int32) ≤ nI a) = (7 ≤ a) := ni_le 7 a (by decide) h
theorem l7_lt (a : Nat) (h : a < 2 ^ 31) : (nI a < 7) = (a < 7) := ni_lt a 7 h (by decide)
theorem l7_gt (a : Nat) (h : a < 2 ^ 31) : ((7 : Int32) < nI a) = (7 < a) := ni_lt 7 a (by decide) h
theorem l8_m (a : Nat) : (8 : Int32) * nI a = nI (8 * a) := pk_mul 8 a
theorem l8_a (a : Nat) : nI a + 8 = nI (a + 8) := nI_add a 8
theorem l8_b (a : Nat) : (8 : Int32) + nI a = nI (8 + a) := nI_add 8 a
theorem l8_s (a : Nat) (h : 8 ≤ a) : nI a - 8 = nI (a - 8) := pk_sub h
theorem l8_e (a : Nat) (h : a < 2 ^ 31) : (nI a = 8) = (a = 8) := ni_eq a 8 h (by decide)
theorem l8_le (a : Nat) (h : a < 2 ^ 31) : (nI a ≤ 8) = (a ≤ 8) := ni_le a 8 h (by decide)
theorem l8_ge (a : Nat) (h : a < 2 ^ 31) : ((8 : Int32) ≤ nI a) = (8 ≤ a) := ni_le 8 a (by decide) h
theorem l8_lt (a : Nat) (h : a < 2 ^ 31) : (nI a < 8) = (a < 8) := ni_lt a 8 h (by decide)
theorem l8_gt (a : Nat) (h : a < 2 ^ 31) : ((8 : Int32) < nI a) = (8 < a) := ni_lt 8 a (by decide) h
theorem l9_m (a : Nat) : (9 : Int32) * nI a = nI (9 * a) := pk_mul 9 a
theorem l9_a (a : Nat) : nI a + 9 = nI (a + 9) := nI_add a 9
theorem l9_b (a : Nat) : (9 : Int32) + nI a = nI (9 + a) := nI_add 9 a
theorem l9_s (a : Nat) (h : 9 ≤ a) : nI a - 9 = nI (a - 9) := pk_sub h
theorem l9_e (a : Nat) (h : a < 2 ^ 31) : (nI a = 9) = (a = 9) := ni_eq a 9 h (by decide)
theorem l9_le (a : Nat) (h : a < 2 ^ 31) : (nI a ≤ 9) = (a ≤ 9) := ni_le a 9 h (by decide)
theorem l9_ge (a : Nat) (h : a < 2 ^ 31) : ((9 : Int32) ≤ nI a) = (9 ≤ a) := ni_le 9 a (by decide) h
theorem l9_lt (a : Nat) (h : a < 2 ^ 31) : (nI a < 9) = (a < 9) := ni_lt a 9 h (by decide)
theorem l9_gt (a : Nat) (h : a < 2 ^ 31) : ((9 : Int32) < nI a) = (9 < a) := ni_lt 9 a (by decide) h
theorem l10_m (a : Nat) : (10 : Int32) * nI a = nI (10 * a) := pk_mul 10 a
theorem l10_a (a : Nat) : nI a + 10 = nI (a + 10) := nI_add a 10
theorem l10_b (a : Nat) : (10 : Int32) + nI a = nI (10 + a) := nI_add 10 a
theorem l10_s (a : Nat) (h : 10 ≤ a) : nI a - 10 = nI (a - 10) := pk_sub h
theorem l10_e (a : Nat) (h : a < 2 ^ 31) : (nI a = 10) = (a = 10) := ni_eq a 10 h (by decide)
theorem l10_le (a : Nat) (h : a < 2 ^ 31) : (nI a ≤ 10) = (a ≤ 10) := ni_le a 10 h (by decide)
theorem l10_ge (a : Nat) (h : a < 2 ^ 31) : ((10 : Int32) ≤ nI a) = (10 ≤ a) := ni_le 10 a (by decide) h
theorem l10_lt (a : Nat) (h : a < 2 ^ 31) : (nI a < 10) = (a < 10) := ni_lt a 10 h (by decide)
theorem l10_gt (a : Nat) (h : a < 2 ^ 31) : ((10 : Int32) < nI a) = (10 < a) := ni_lt 10 a (by decide) h
theorem l11_m (a : Nat) : (11 : Int32) * nI a = nI (11 * a) := pk_mul 11 a
theorem l11_a (a : Nat) : nI a + 11 = nI (a + 11) := nI_add a 11
theorem l11_b (a : Nat) : (11 : Int32) + nI a = nI (11 + a) := nI_add 11 a
theorem l11_s (a : Nat) (h : 11 ≤ a) : nI a - 11 = nI (a - 11) := pk_sub h
theorem l11_e (a : Nat) (h : a < 2 ^ 31) : (nI a = 11) = (a = 11) := ni_eq a 11 h (by decide)
theorem l11_le (a : Nat) (h : a < 2 ^ 31) : (nI a ≤ 11) = (a ≤ 11) := ni_le a 11 h (by decide)
theorem l11_ge (a : Nat) (h : a < 2 ^ 31) : ((11 : Int32) ≤ nI a) = (11 ≤ a) := ni_le 11 a (by decide) h
theorem l11_lt (a : Nat) (h : a < 2 ^ 31) : (nI a < 11) = (a < 11) := ni_lt a 11 h (by decide)
theorem l11_gt (a : Nat) (h : a < 2 ^ 31) : ((11 : Int32) < nI a) = (11 < a) := ni_lt 11 a (by decide) h
theorem l12_m (a : Nat) : (12 : Int32) * nI a = nI (12 * a) := pk_mul 12 a
theorem l12_a (a : Nat) : nI a + 12 = nI (a + 12) := nI_add a 12
theorem l12_b (a : Nat) : (12 : Int32) + nI a = nI (12 + a) := nI_add 12 a
theorem l12_s (a : Nat) (h : 12 ≤ a) : nI a - 12 = nI (a - 12) := pk_sub h
theorem l12_e (a : Nat) (h : a < 2 ^ 31) : (nI a = 12) = (a = 12) := ni_eq a 12 h (by decide)
theorem l12_le (a : Nat) (h : a < 2 ^ 31) : (nI a ≤ 12) = (a ≤ 12) := ni_le a 12 h (by decide)
theorem l12_ge (a : Nat) (h : a < 2 ^ 31) : ((12 : Int32) ≤ nI a) = (12 ≤ a) := ni_le 12 a (by decide) h
theorem l12_lt (a : Nat) (h : a < 2 ^ 31) : (nI a < 12) = (a < 12) := ni_lt a 12 h (by decide)
theorem l12_gt (a : Nat) (h : a < 2 ^ 31) : ((12 : Int32) < nI a) = (12 < a) := ni_lt 12 a (by decide) h
theorem l13_m (a : Nat) : (13 : Int32) * nI a = nI (13 * a) := pk_mul 13 a
theorem l13_a (a : Nat) : nI a + 13 = nI (a + 13) := nI_add a 13
theorem l13_b (a : Nat) : (13 : Int32) + nI a = nI (13 + a) := nI_add 13 a
theorem l13_s (a : Nat) (h : 13 ≤ a) : nI a - 13 = nI (a - 13) := pk_sub h
theorem l13_e (a : Nat) (h : a < 2 ^ 31) : (nI a = 13) = (a = 13) := ni_eq a 13 h (by decide)
theorem l13_le (a : Nat) (h : a < 2 ^ 31) : (nI a ≤ 13) = (a ≤ 13) := ni_le a 13 h (by decide)
theorem l13_ge (a : Nat) (h : a < 2 ^ 31) : ((13 : Int32) ≤ nI a) = (13 ≤ a) := ni_le 13 a (by decide) h
theorem l13_lt (a : Nat) (h : a < 2 ^ 31) : (nI a < 13) = (a < 13) := ni_lt a 13 h (by decide)
theorem l13_gt (a : Nat) (h : a < 2 ^ 31) : ((13 : Int32) < nI a) = (13 < a) := ni_lt 13 a (by decide) h
theorem l14_m (a : Nat) : (14 : Int32) * nI a = nI (14 * a) := pk_mul 14 a
theorem l14_a (a : Nat) : nI a + 14 = nI (a + 14) := nI_add a 14
theorem l14_b (a : Nat) : (14 : Int32) + nI a = nI (14 + a) := nI_add 14 a
theorem l14_s (a : Nat) (h : 14 ≤ a) : nI a - 14 = nI (a - 14) := pk_sub h
theorem l14_e (a : Nat) (h : a < 2 ^ 31) : (nI a = 14) = (a = 14) := ni_eq a 14 h (by decide)
theorem l14_le (a : Nat) (h : a < 2 ^ 31) : (nI a ≤ 14) = (a ≤ 14) := ni_le a 14 h (by decide)
theorem l14_ge (a : Nat) (h : a < 2 ^ 31) : ((14 : Int32) ≤ nI a) = (14 ≤ a) := ni_le 14 a (by decide) h
theorem l14_lt (a : Nat) (h : a < 2 ^ 31) : (nI a < 14) = (a < 14) := ni_lt a 14 h (by decide)
theorem l14_gt (a : Nat) (h : a < 2 ^ 31) : ((14 : Int32) < nI a) = (14 < a) := ni_lt 14 a (by decide) h
theorem l15_m (a : Nat) : (15 : Int32) * nI a = nI (15 * a) := pk_mul 15 a
theorem l15_a (a : Nat) : nI a + 15 = nI (a + 15) := nI_add a 15
theorem l15_b (a : Nat) : (15 : Int32) + nI a = nI (15 + a) := nI_add 15 a
theorem l15_s (a : Nat) (h : 15 ≤ a) : nI a - 15 = nI (a - 15) := pk_sub h
theorem l15_e (a : Nat) (h : a < 2 ^ 31) : (nI a = 15) = (a = 15) := ni_eq a 15 h (by decide)
theorem l15_le (a : Nat) (h : a < 2 ^ 31) : (nI a ≤ 15) = (a ≤ 15) := ni_le a 15 h (by decide)
theorem l15_ge (a : Nat) (h : a < 2 ^ 31) : ((15 : Int32) ≤ nI a) = (15 ≤ a) := ni_le 15 a (by decide) h
theorem l15_lt (a : Nat) (h : a < 2 ^ 31) : (nI a < 15) = (a < 15) := ni_lt a 15 h (by decide)
theorem l15_gt (a : Nat) (h : a < 2 ^ 31) : ((15 : Int32) < nI a) = (15 < a) := ni_lt 15 a (by decide) h
theorem l16_m (a : Nat) : (16 : Int32) * nI a = nI (16 * a) := pk_mul 16 a
theorem l16_a (a : Nat) : nI a + 16 = nI (a + 16) := nI_add a 16
theorem l16_b (a : Nat) : (16 : Int32) + nI a = nI (16 + a) := nI_add 16 a
theorem l16_s (a : Nat) (h : 16 ≤ a) : nI a - 16 = nI (a - 16) := pk_sub h
theorem l16_e (a : Nat) (h : a < 2 ^ 31) : (nI a = 16) = (a = 16) := ni_eq a 16 h (by decide)
theorem l16_le (a : Nat) (h : a < 2 ^ 31) : (nI a ≤ 16) = (a ≤ 16) := ni_le a 16 h (by decide)
theorem l16_ge (a : Nat) (h : a < 2 ^ 31) : ((16 : Int32) ≤ nI a) = (16 ≤ a) := ni_le 16 a (by decide) h
theorem l16_lt (a : Nat) (h : a < 2 ^ 31) : (nI a < 16) = (a < 16) := ni_lt a 16 h (by decide)
theorem l16_gt (a : Nat) (h : a < 2 ^ 31) : ((16 : Int32) < nI a) = (16 < a) := ni_lt 16 a (by decide) h
theorem l17_m (a : Nat) : (17 : Int32) * nI a = nI (17 * a) := pk_mul 17 a
theorem l17_a (a : Nat) : nI a + 17 = nI (a + 17) := nI_add a 17
theorem l17_b (a : Nat) : (17 : Int32) + nI a = nI (17 + a) := nI_add 17 a
theorem l17_s (a : Nat) (h : 17 ≤ a) : nI a - 17 = nI (a - 17) := pk_sub h
theorem l17_e (a : Nat) (h : a < 2 ^ 31) : (nI a = 17) = (a = 17) := ni_eq a 17 h (by decide)
theorem l17_le (a : Nat) (h : a < 2 ^ 31) : (nI a ≤ 17) = (a ≤ 17) := ni_le a 17 h (by decide)
theorem l17_ge (a : Nat) (h : a < 2 ^ 31) : ((17 : Int32) ≤ nI a) = (17 ≤ a) := ni_le 17 a (by decide) h
theorem l17_lt (a : Nat) (h : a < 2 ^ 31) : (nI a < 17) = (a < 17) := ni_lt a 17 h (by decide)
theorem l17_gt (a : Nat) (h : a < 2 ^ 31) : ((17 : Int32) < nI a) = (17 < a) := ni_lt 17 a (by decide) h
theorem l18_m (a : Nat) : (18 : Int32) * nI a = nI (18 * a) := pk_mul 18 a
theorem l18_a (a : Nat) : nI a + 18 = nI (a + 18) := nI_add a 18
theorem l18_b (a : Nat) : (18 : Int32) + nI a = nI (18 + a) := nI_add 18 a
theorem l18_s (a : Nat) (h : 18 ≤ a) : nI a - 18 = nI (a - 18) := pk_sub h
theorem l18_e (a : Nat) (h : a < 2 ^ 31) : (nI a = 18) = (a = 18) := ni_eq a 18 h (by decide)
theorem l18_le (a : Nat) (h : a < 2 ^ 31) : (nI a ≤ 18) = (a ≤ 18) := ni_le a 18 h (by decide)
theorem l18_ge (a : Nat) (h : a < 2 ^ 31) : ((18 : Int32) ≤ nI a) = (18 ≤ a) := ni_le 18 a (by decide) h
theorem l18_lt (a : Nat) (h : a < 2 ^ 31) : (nI a < 18) = (a < 18) := ni_lt a 18 h (by decide)
theorem l18_gt (a : Nat) (h : a < 2 ^ 31) : ((18 : Int32) < nI a) = (18 < a) := ni_lt 18 a (by decide) h
theorem l19_m (a : Nat) : (19 : Int32) * nI a = nI (19 * a) := pk_mul 19 a
theorem l19_a (a : Nat) : nI a + 19 = nI (a + 19) := nI_add a 19
theorem l19_b (a : Nat) : (19 : Int32) + nI a = nI (19 + a) := nI_add 19 a
theorem l19_s (a : Nat) (h : 19 ≤ a) : nI a - 19 = nI (a - 19) := pk_sub h
theorem l19_e (a : Nat) (h : a < 2 ^ 31) : (nI a = 19) = (a = 19) := ni_eq a 19 h (by decide)
theorem l19_le (a : Nat) (h : a < 2 ^ 31) : (nI a ≤ 19) = (a ≤ 19) := ni_le a 19 h (by decide)
theorem l19_ge (a : Nat) (h : a < 2 ^ 31) : ((19 : Int32) ≤ nI a) = (19 ≤ a) := ni_le 19 a (by decide) h
theorem l19_lt (a : Nat) (h : a < 2 ^ 31) : (nI a < 19) = (a < 19) := ni_lt a 19 h (by decide)
theorem l19_gt (a : Nat) (h : a < 2 ^ 31) : ((19 : Int32) < nI a) = (19 < a) := ni_lt 19 a (by decide) h
theorem l20_m (a : Nat) : (20 : Int32) * nI a = nI (20 * a) := pk_mul 20 a
theorem l20_a (a : Nat) : nI a + 20 = nI (a + 20) := nI_add a 20
theorem l20_b (a : Nat) : (20 : Int32) + nI a = nI (20 + a) := nI_add 20 a
theorem l20_s (a : Nat) (h : 20 ≤ a) : nI a - 20 = nI (a - 20) := pk_sub h
theorem l20_e (a : Nat) (h : a < 2 ^ 31) : (nI a = 20) = (a = 20) := ni_eq a 20 h (by decide)
theorem l20_le (a : Nat) (h : a < 2 ^ 31) : (nI a ≤ 20) = (a ≤ 20) := ni_le a 20 h (by decide)
theorem l20_ge (a : Nat) (h : a < 2 ^ 31) : ((20 : Int32) ≤ nI a) = (20 ≤ a) := ni_le 20 a (by decide) h
theorem l20_lt (a : Nat) (h : a < 2 ^ 31) : (nI a < 20) = (a < 20) := ni_lt a 20 h (by decide)
theorem l20_gt (a : Nat) (h : a < 2 ^ 31) : ((20 : Int32) < nI a) = (20 < a) := ni_lt 20 a (by decide) h
theorem l21_m (a : Nat) : (21 : Int32) * nI a = nI (21 * a) := pk_mul 21 a
theorem l21_a (a : Nat) : nI a + 21 = nI (a + 21) := nI_add a 21
theorem l21_b (a : Nat) : (21 : Int32) + nI a = nI (21 + a) := nI_add 21 a
theorem l21_s (a : Nat) (h : 21 ≤ a) : nI a - 21 = nI (a - 21) := pk_sub h
theorem l21_e (a : Nat) (h : a < 2 ^ 31) : (nI a = 21) = (a = 21) := ni_eq a 21 h (by decide)
theorem l21_le (a : Nat) (h : a < 2 ^ 31) : (nI a ≤ 21) = (a ≤ 21) := ni_le a 21 h (by decide)
theorem l21_ge (a : Nat) (h : a < 2 ^ 31) : ((21 : Int32) ≤ nI a) = (21 ≤ a) := ni_le 21 a (by decide) h
theorem l21_lt (a : Nat) (h : a < 2 ^ 31) : (nI a < 21) = (a < 21) := ni_lt a 21 h (by decide)
theorem l21_gt (a : Nat) (h : a < 2 ^ 31) : ((21 : Int32) < nI a) = (21 < a) := ni_lt 21 a (by decide) h
theorem l22_m (a : Nat) : (22 : Int32) * nI a = nI (22 * a) := pk_mul 22 a
theorem l22_a (a : Nat) : nI a + 22 = nI (a + 22) := nI_add a 22
theorem l22_b (a : Nat) : (22 : Int32) + nI a = nI (22 + a) := nI_add 22 a
theorem l22_s (a : Nat) (h : 22 ≤ a) : nI a - 22 = nI (a - 22) := pk_sub h
theorem l22_e (a : Nat) (h : a < 2 ^ 31) : (nI a = 22) = (a = 22) := ni_eq a 22 h (by decide)
theorem l22_le (a : Nat) (h : a < 2 ^ 31) : (nI a ≤ 22) = (a ≤ 22) := ni_le a 22 h (by decide)
theorem l22_ge (a : Nat) (h : a < 2 ^ 31) : ((22 : Int32) ≤ nI a) = (22 ≤ a) := ni_le 22 a (by decide) h
theorem l22_lt (a : Nat) (h : a < 2 ^ 31) : (nI a < 22) = (a < 22) := ni_lt a 22 h (by decide)
theorem l22_gt (a : Nat) (h : a < 2 ^ 31) : ((22 : Int32) < nI a) = (22 < a) := ni_lt 22 a (by decide) h
theorem l23_m (a : Nat) : (23 : Int32) * nI a = nI (23 * a) := pk_mul 23 a
theorem l23_a (a : Nat) : nI a + 23 = nI (a + 23) := nI_add a 23
theorem l23_b (a : Nat) : (23 : Int32) + nI a = nI (23 + a) := nI_add 23 a
theorem l23_s (a : Nat) (h : 23 ≤ a) : nI a - 23 = nI (a - 23) := pk_sub h
theorem l23_e (a : Nat) (h : a < 2 ^ 31) : (nI a = 23) = (a = 23) := ni_eq a 23 h (by decide)
theorem l23_le (a : Nat) (h : a < 2 ^ 31) : (nI a ≤ 23) = (a ≤ 23) := ni_le a 23 h (by decide)
theorem l23_ge (a : Nat) (h : a < 2 ^ 31) : ((23 : Int32) ≤ nI a) = (23 ≤ a) := ni_le 23 a (by decide) h
theorem l23_lt (a : Nat) (h : a < 2 ^ 31) : (nI a < 23) = (a < 23) := ni_lt a 23 h (by decide)
theorem l23_gt (a : Nat) (h : a < 2 ^ 31) : ((23 : Int32) < nI a) = (23 < a) := ni_lt 23 a (by decide) h
theorem l24_m (a : Nat) : (24 : Int32) * nI a = nI (24 * a) := pk_mul 24 a
theorem l24_a (a : Nat) : nI a + 24 = nI (a + 24) := nI_add a 24
theorem l24_b (a : Nat) : (24 : Int32) + nI a = nI (24 + a) := nI_add 24 a
theorem l24_s (a : Nat) (h : 24 ≤ a) : nI a - 24 = nI (a - 24) := pk_sub h
theorem l24_e (a : Nat) (h : a < 2 ^ 31) : (nI a = 24) = (a = 24) := ni_eq a 24 h (by decide)
theorem l24_le (a : Nat) (h : a < 2 ^ 31) : (nI a ≤ 24) = (a ≤ 24) := ni_le a 24 h (by decide)
theorem l24_ge (a : Nat) (h : a < 2 ^ 31) : ((24 : Int32) ≤ nI a) = (24 ≤ a) := ni_le 24 a (by decide) h
theorem l24_lt (a : Nat) (h : a < 2 ^ 31) : (nI a < 24) = (a < 24) := ni_lt a 24 h (by decide)
theorem l24_gt (a : Nat) (h : a < 2 ^ 31) : ((24 : Int32) < nI a) = (24 < a) := ni_lt 24 a (by decide) h
theorem l25_m (a : Nat) : (25 : Int32) * nI a = nI (25 * a) := pk_mul 25 a
theorem l25_a (a : Nat) : nI a + 25 = nI (a + 25) := nI_add a 25
theorem l25_b (a : Nat) : (25 : Int32) + nI a = nI (25 + a) := nI_add 25 a
theorem l25_s (a : Nat) (h : 25 ≤ a) : nI a - 25 = nI (a - 25) := pk_sub h
theorem l25_e (a : Nat) (h : a < 2 ^ 31) : (nI a = 25) = (a = 25) := ni_eq a 25 h (by decide)
theorem l25_le (a : Nat) (h : a < 2 ^ 31) : (nI a ≤ 25) = (a ≤ 25) := ni_le a 25 h (by decide)
theorem l25_ge (a : Nat) (h : a < 2 ^ 31) : ((25 : Int32) ≤ nI a) = (25 ≤ a) := ni_le 25 a (by decide) h
theorem l25_lt (a : Nat) (h : a < 2 ^ 31) : (nI a < 25) = (a < 25) := ni_lt a 25 h (by decide)
theorem l25_gt (a : Nat) (h : a < 2 ^ 31) : ((25 : Int32) < nI a) = (25 < a) := ni_lt 25 a (by decide) h
theorem l26_m (a : Nat) : (26 : Int32) * nI a = nI (26 * a) := pk_mul 26 a
theorem l26_a (a : Nat) : nI a + 26 = nI (a + 26) := nI_add a 26
theorem l26_b (a : Nat) : (26 : Int32) + nI a = nI (26 + a) := nI_add 26 a
theorem l26_s (a : Nat) (h : 26 ≤ a) : nI a - 26 = nI (a - 26) := pk_sub h
theorem l26_e (a : Nat) (h : a < 2 ^ 31) : (nI a = 26) = (a = 26) := ni_eq a 26 h (by decide)
theorem l26_le (a : Nat) (h : a < 2 ^ 31) : (nI a ≤ 26) = (a ≤ 26) := ni_le a 26 h (by decide)
theorem l26_ge (a : Nat) (h : a < 2 ^ 31) : ((26 : Int32) ≤ nI a) = (26 ≤ a) := ni_le 26 a (by decide) h
theorem l26_lt (a : Nat) (h : a < 2 ^ 31) : (nI a < 26) = (a < 26) := ni_lt a 26 h (by decide)
theorem l26_gt (a : Nat) (h : a < 2 ^ 31) : ((26 : Int32) < nI a) = (26 < a) := ni_lt 26 a (by decide) h
theorem l27_m (a : Nat) : (27 : Int32) * nI a = nI (27 * a) := pk_mul 27 a
theorem l27_a (a : Nat) : nI a + 27 = nI (a + 27) := nI_add a 27
theorem l27_b (a : Nat) : (27 : Int32) + nI a = nI (27 + a) := nI_add 27 a
theorem l27_s (a : Nat) (h : 27 ≤ a) : nI a - 27 = nI (a - 27) := pk_sub h
theorem l27_e (a : Nat) (h : a < 2 ^ 31) : (nI a = 27) = (a = 27) := ni_eq a 27 h (by decide)
theorem l27_le (a : Nat) (h : a < 2 ^ 31) : (nI a ≤ 27) = (a ≤ 27) := ni_le a 27 h (by decide)
theorem l27_ge (a : Nat) (h : a < 2 ^ 31) : ((27 : Int32) ≤ nI a) = (27 ≤ a) := ni_le 27 a (by decide) h
theorem l27_lt (a : Nat) (h : a < 2 ^ 31) : (nI a < 27) = (a < 27) := ni_lt a 27 h (by decide)
theorem l27_gt (a : Nat) (h : a < 2 ^ 31) : ((27 : Int32) < nI a) = (27 < a) := ni_lt 27 a (by decide) h
theorem l28_m (a : Nat) : (28 : Int32) * nI a = nI (28 * a) := pk_mul 28 a
theorem l28_a (a : Nat) : nI a + 28 = nI (a + 28) := nI_add a 28
theorem l28_b (a : Nat) : (28 : Int32) + nI a = nI (28 + a) := nI_add 28 a
theorem l28_s (a : Nat) (h : 28 ≤ a) : nI a - 28 = nI (a - 28) := pk_sub h
theorem l28_e (a : Nat) (h : a < 2 ^ 31) : (nI a = 28) = (a = 28) := ni_eq a 28 h (by decide)
theorem l28_le (a : Nat) (h : a < 2 ^ 31) : (nI a ≤ 28) = (a ≤ 28) := ni_le a 28 h (by decide)
theorem l28_ge (a : Nat) (h : a < 2 ^ 31) : ((28 : Int32) ≤ nI a) = (28 ≤ a) := ni_le 28 a (by decide) h
theorem l28_lt (a : Nat) (h : a < 2 ^ 31) : (nI a < 28) = (a < 28) := ni_lt a 28 h (by decide)
theorem l28_gt (a : Nat) (h : a < 2 ^ 31) : ((28 : Int32) < nI a) = (28 < a) := ni_lt 28 a (by decide) h
theorem l29_m (a : Nat) : (29 : Int32) * nI a = nI (29 * a) := pk_mul 29 a
theorem l29_a (a : Nat) : nI a + 29 = nI (a + 29) := nI_add a 29
theorem l29_b (a : Nat) : (29 : Int32) + nI a = nI (29 + a) := nI_add 29 a
theorem l29_s (a : Nat) (h : 29 ≤ a) : nI a - 29 = nI (a - 29) := pk_sub h
theorem l29_e (a : Nat) (h : a < 2 ^ 31) : (nI a = 29) = (a = 29) := ni_eq a 29 h (by decide)
theorem l29_le (a : Nat) (h : a < 2 ^ 31) : (nI a ≤ 29) = (a ≤ 29) := ni_le a 29 h (by decide)
theorem l29_ge (a : Nat) (h : a < 2 ^ 31) : ((29 : Int32) ≤ nI a) = (29 ≤ a) := ni_le 29 a (by decide) h
theorem l29_lt (a : Nat) (h : a < 2 ^ 31) : (nI a < 29) = (a < 29) := ni_lt a 29 h (by decide)
theorem l29_gt (a : Nat) (h : a < 2 ^ 31) : ((29 : Int32) < nI a) = (29 < a) := ni_lt 29 a (by decide) h
theorem l30_m (a : Nat) : (30 : Int32) * nI a = nI (30 * a) := pk_mul 30 a
theorem l30_a (a : Nat) : nI a + 30 = nI (a + 30) := nI_add a 30
theorem l30_b (a : Nat) : (30 : Int32) + nI a = nI (30 + a) := nI_add 30 a
theorem l30_s (a : Nat) (h : 30 ≤ a) : nI a - 30 = nI (a - 30) := pk_sub h
theorem l30_e (a : Nat) (h : a < 2 ^ 31) : (nI a = 30) = (a = 30) := ni_eq a 30 h (by decide)
theorem l30_le (a : Nat) (h : a < 2 ^ 31) : (nI a ≤ 30) = (a ≤ 30) := ni_le a 30 h (by decide)
theorem l30_ge (a : Nat) (h : a < 2 ^ 31) : ((30 : Int32) ≤ nI a) = (30 ≤ a) := ni_le 30 a (by decide) h
theorem l30_lt (a : Nat) (h : a < 2 ^ 31) : (nI a < 30) = (a < 30) := ni_lt a 30 h (by decide)
theorem l30_gt (a : Nat) (h : a < 2 ^ 31) : ((30 : Int32) < nI a) = (30 < a) := ni_lt 30 a (by decide) h
theorem l31_m (a : Nat) : (31 : Int32) * nI a = nI (31 * a) := pk_mul 31 a
theorem l31_a (a : Nat) : nI a + 31 = nI (a + 31) := nI_add a 31
theorem l31_b (a : Nat) : (31 : Int32) + nI a = nI (31 + a) := nI_add 31 a
theorem l31_s (a : Nat) (h : 31 ≤ a) : nI a - 31 = nI (a - 31) := pk_sub h
theorem l31_e (a : Nat) (h : a < 2 ^ 31) : (nI a = 31) = (a = 31) := ni_eq a 31 h (by decide)
theorem l31_le (a : Nat) (h : a < 2 ^ 31) : (nI a ≤ 31) = (a ≤ 31) := ni_le a 31 h (by decide)
theorem l31_ge (a : Nat) (h : a < 2 ^ 31) : ((31 : Int32) ≤ nI a) = (31 ≤ a) := ni_le 31 a (by decide) h
theorem l31_lt (a : Nat) (h : a < 2 ^ 31) : (nI a < 31) = (a < 31) := ni_lt a 31 h (by decide)
theorem l31_gt (a : Nat) (h : a < 2 ^ 31) : ((31 : Int32) < nI a) = (31 < a) := ni_lt 31 a (by decide) h
theorem l32_m (a : Nat) : (32 : Int32) * nI a = nI (32 * a) := pk_mul 32 a
theorem l32_a (a : Nat) : nI a + 32 = nI (a + 32) := nI_add a 32
theorem l32_b (a : Nat) : (32 : Int32) + nI a = nI (32 + a) := nI_add 32 a
theorem l32_s (a : Nat) (h : 32 ≤ a) : nI a - 32 = nI (a - 32) := pk_sub h
theorem l32_e (a : Nat) (h : a < 2 ^ 31) : (nI a = 32) = (a = 32) := ni_eq a 32 h (by decide)
theorem l32_le (a : Nat) (h : a < 2 ^ 31) : (nI a ≤ 32) = (a ≤ 32) := ni_le a 32 h (by decide)
theorem l32_ge (a : Nat) (h : a < 2 ^ 31) : ((32 : Int32) ≤ nI a) = (32 ≤ a) := ni_le 32 a (by decide) h
theorem l32_lt (a : Nat) (h : a < 2 ^ 31) : (nI a < 32) = (a < 32) := ni_lt a 32 h (by decide)
theorem l32_gt (a : Nat) (h : a < 2 ^ 31) : ((32 : Int32) < nI a) = (32 < a) := ni_lt 32 a (by decide) h
theorem l33_m (a : Nat) : (33 : Int32) * nI a = nI (33 * a) := pk_mul 33 a
theorem l33_a (a : Nat) : nI a + 33 = nI (a + 33) := nI_add a 33
theorem l33_b (a : Nat) : (33 : Int32) + nI a = nI (33 + a) := nI_add 33 a
theorem l33_s (a : Nat) (h : 33 ≤ a) : nI a - 33 = nI (a - 33) := pk_sub h
theorem l33_e (a : Nat) (h : a < 2 ^ 31) : (nI a = 33) = (a = 33) := ni_eq a 33 h (by decide)
theorem l33_le (a : Nat) (h : a < 2 ^ 31) : (nI a ≤ 33) = (a ≤ 33) := ni_le a 33 h (by decide)
theorem l33_ge (a : Nat) (h : a < 2 ^ 31) : ((33 : Int32) ≤ nI a) = (33 ≤ a) := ni_le 33 a (by decide) h
theorem l33_lt (a : Nat) (h : a < 2 ^ 31) : (nI a < 33) = (a < 33) := ni_lt a 33 h (by decide)
theorem l33_gt (a : Nat) (h : a < 2 ^ 31) : ((33 : Int32) < nI a) = (33 < a) := ni_lt 33 a (by decide) h
theorem l34_m (a : Nat) : (34 : Int32) * nI a = nI (34 * a) := pk_mul 34 a
theorem l34_a (a : Nat) : nI a + 34 = nI (a + 34) := nI_add a 34
theorem l34_b (a : Nat) : (34 : Int32) + nI a = nI (34 + a) := nI_add 34 a
theorem l34_s (a : Nat) (h : 34 ≤ a) : nI a - 34 = nI (a - 34) := pk_sub h
theorem l34_e (a : Nat) (h : a < 2 ^ 31) : (nI a = 34) = (a = 34) := ni_eq a 34 h (by decide)
theorem l34_le (a : Nat) (h : a < 2 ^ 31) : (nI a ≤ 34) = (a ≤ 34) := ni_le a 34 h (by decide)
theorem l34_ge (a : Nat) (h : a < 2 ^ 31) : ((34 : Int32) ≤ nI a) = (34 ≤ a) := ni_le 34 a (by decide) h
theorem l34_lt (a : Nat) (h : a < 2 ^ 31) : (nI a < 34) = (a < 34) := ni_lt a 34 h (by decide)
theorem l34_gt (a : Nat) (h : a < 2 ^ 31) : ((34 : Int32) < nI a) = (34 < a) := ni_lt 34 a (by decide) h
theorem l35_m (a : Nat) : (35 : Int32) * nI a = nI (35 * a) := pk_mul 35 a
theorem l35_a (a : Nat) : nI a + 35 = nI (a + 35) := nI_add a 35
theorem l35_b (a : Nat) : (35 : Int32) + nI a = nI (35 + a) := nI_add 35 a
theorem l35_s (a : Nat) (h : 35 ≤ a) : nI a - 35 = nI (a - 35) := pk_sub h
theorem l35_e (a : Nat) (h : a < 2 ^ 31) : (nI a = 35) = (a = 35) := ni_eq a 35 h (by decide)
theorem l35_le (a : Nat) (h : a < 2 ^ 31) : (nI a ≤ 35) = (a ≤ 35) := ni_le a 35 h (by decide)
theorem l35_ge (a : Nat) (h : a < 2 ^ 31) : ((35 : Int32) ≤ nI a) = (35 ≤ a) := ni_le 35 a (by decide) h
theorem l35_lt (a : Nat) (h : a < 2 ^ 31) : (nI a < 35) = (a < 35) := ni_lt a 35 h (by decide)
theorem l35_gt (a : Nat) (h : a < 2 ^ 31) : ((35 : Int32) < nI a) = (35 < a) := ni_lt 35 a (by decide) h
theorem l36_m (a : Nat) : (36 : Int32) * nI a = nI (36 * a) := pk_mul 36 a
theorem l36_a (a : Nat) : nI a + 36 = nI (a + 36) := nI_add a 36
theorem l36_b (a : Nat) : (36 : Int32) + nI a = nI (36 + a) := nI_add 36 a
theorem l36_s (a : Nat) (h : 36 ≤ a) : nI a - 36 = nI (a - 36) := pk_sub h
theorem l36_e (a : Nat) (h : a < 2 ^ 31) : (nI a = 36) = (a = 36) := ni_eq a 36 h (by decide)
theorem l36_le (a : Nat) (h : a < 2 ^ 31) : (nI a ≤ 36) = (a ≤ 36) := ni_le a 36 h (by decide)
theorem l36_ge (a : Nat) (h : a < 2 ^ 31) : ((36 : Int32) ≤ nI a) = (36 ≤ a) := ni_le 36 a (by decide) h
theorem l36_lt (a : Nat) (h : a < 2 ^ 31) : (nI a < 36) = (a < 36) := ni_lt a 36 h (by decide)
theorem l36_gt (a : Nat) (h : a < 2 ^ 31) : ((36 : Int32) < nI a) = (36 < a) := ni_lt 36 a (by decide) h
theorem l37_m (a : Nat) : (37 : Int32) * nI a = nI (37 * a) := pk_mul 37 a
theorem l37_a (a : Nat) : nI a + 37 = nI (a + 37) := nI_add a 37
theorem l37_b (a : Nat) : (37 : Int32) + nI a = nI (37 + a) := nI_add 37 a
theorem l37_s (a : Nat) (h : 37 ≤ a) : nI a - 37 = nI (a - 37) := pk_sub h
theorem l37_e (a : Nat) (h : a < 2 ^ 31) : (nI a = 37) = (a = 37) := ni_eq a 37 h (by decide)
theorem l37_le (a : Nat) (h : a < 2 ^ 31) : (nI a ≤ 37) = (a ≤ 37) := ni_le a 37 h (by decide)
theorem l37_ge (a : Nat) (h : a < 2 ^ 31) : ((37 : Int32) ≤ nI a) = (37 ≤ a) := ni_le 37 a (by decide) h
theorem l37_lt (a : Nat) (h : a < 2 ^ 31) : (nI a < 37) = (a < 37) := ni_lt a 37 h (by decide)
theorem l37_gt (a : Nat) (h : a < 2 ^ 31) : ((37 : Int32) < nI a) = (37 < a) := ni_lt 37 a (by decide) h
theorem l38_m (a : Nat) : (38 : Int32) * nI a = nI (38 * a) := pk_mul 38 a
theorem l38_a (a : Nat) : nI a + 38 = nI (a + 38) := nI_add a 38
theorem l38_b (a : Nat) : (38 : Int32) + nI a = nI (38 + a) := nI_add 38 a
theorem l38_s (a : Nat) (h : 38 ≤ a) : nI a - 38 = nI (a - 38) := pk_sub h
theorem l38_e (a : Nat) (h : a < 2 ^ 31) : (nI a = 38) = (a = 38) := ni_eq a 38 h (by decide)
theorem l38_le (a : Nat) (h : a < 2 ^ 31) : (nI a ≤ 38) = (a ≤ 38) := ni_le a 38 h (by decide)
theorem l38_ge (a : Nat) (h : a < 2 ^ 31) : ((38 : Int32) ≤ nI a) = (38 ≤ a) := ni_le 38 a (by decide) h
theorem l38_lt (a : Nat) (h : a < 2 ^ 31) : (nI a < 38) = (a < 38) := ni_lt a 38 h (by decide)
theorem l38_gt (a : Nat) (h : a < 2 ^ 31) : ((38 : Int32) < nI a) = (38 < a) := ni_lt 38 a (by decide) h
theorem l39_m (a : Nat) : (39 : Int32) * nI a = nI (39 * a) := pk_mul 39 a
theorem l39_a (a : Nat) : nI a + 39 = nI (a + 39) := nI_add a 39
theorem l39_b (a : Nat) : (39 : Int32) + nI a = nI (39 + a) := nI_add 39 a
theorem l39_s (a : Nat) (h : 39 ≤ a) : nI a - 39 = nI (a - 39) := pk_sub h
theorem l39_e (a : Nat) (h : a < 2 ^ 31) : (nI a = 39) = (a = 39) := ni_eq a 39 h (by decide)
theorem l39_le (a : Nat) (h : a < 2 ^ 31) : (nI a ≤ 39) = (a ≤ 39) := ni_le a 39 h (by decide)
theorem l39_ge (a : Nat) (h : a < 2 ^ 31) : ((39 : Int32) ≤ nI a) = (39 ≤ a) := ni_le 39 a (by decide) h
theorem l39_lt (a : Nat) (h : a < 2 ^ 31) : (nI a < 39) = (a < 39) := ni_lt a 39 h (by decide)
theorem l39_gt (a : Nat) (h : a < 2 ^ 31) : ((39 : Int32) < nI a) = (39 < a) := ni_lt 39 a (by decide) h
theorem l40_m (a : Nat) : (40 : Int32) * nI a = nI (40 * a) := pk_mul 40 a
theorem l40_a (a : Nat) : nI a + 40 = nI (a + 40) := nI_add a 40
theorem l40_b (a : Nat) : (40 : Int32) + nI a = nI (40 + a) := nI_add 40 a
theorem l40_s (a : Nat) (h : 40 ≤ a) : nI a - 40 = nI (a - 40) := pk_sub h
theorem l40_e (a : Nat) (h : a < 2 ^ 31) : (nI a = 40) = (a = 40) := ni_eq a 40 h (by decide)
theorem l40_le (a : Nat) (h : a < 2 ^ 31) : (nI a ≤ 40) = (a ≤ 40) := ni_le a 40 h (by decide)
theorem l40_ge (a : Nat) (h : a < 2 ^ 31) : ((40 : Int32) ≤ nI a) = (40 ≤ a) := ni_le 40 a (by decide) h
theorem l40_lt (a : Nat) (h : a < 2 ^ 31) : (nI a < 40) = (a < 40) := ni_lt a 40 h (by decide)
theorem l40_gt (a : Nat) (h : a < 2 ^ 31) : ((40 : Int32) < nI a) = (40 < a) := ni_lt 40 a (by decide) h
theorem l41_m (a : Nat) : (41 : Int32) * nI a = nI (41 * a) := pk_mul 41 a
theorem l41_a (a : Nat) : nI a + 41 = nI (a + 41) := nI_add a 41
theorem l41_b (a : Nat) : (41 : Int32) + nI a = nI (41 + a) := nI_add 41 a
theorem l41_s (a : Nat) (h : 41 ≤ a) : nI a - 41 = nI (a - 41) := pk_sub h
theorem l41_e (a : Nat) (h : a < 2 ^ 31) : (nI a = 41) = (a = 41) := ni_eq a 41 h (by decide)
theorem l41_le (a : Nat) (h : a < 2 ^ 31) : (nI a ≤ 41) = (a ≤ 41) := ni_le a 41 h (by decide)
theorem l41_ge (a : Nat) (h : a < 2 ^ 31) : ((41 : Int32) ≤ nI a) = (41 ≤ a) := ni_le 41 a (by decide) h
theorem l41_lt (a : Nat) (h : a < 2 ^ 31) : (nI a < 41) = (a < 41) := ni_lt a 41 h (by decide)
theorem l41_gt (a : Nat) (h : a < 2 ^ 31) : ((41 : Int32) < nI a) = (41 < a) := ni_lt 41 a (by decide) h
theorem l42_m (a : Nat) : (42 : Int32) * nI a = nI (42 * a) := pk_mul 42 a
theorem l42_a (a : Nat) : nI a + 42 = nI (a + 42) := nI_add a 42
theorem l42_b (a : Nat) : (42 : Int32) + nI a = nI (42 + a) := nI_add 42 a
theorem l42_s (a : Nat) (h : 42 ≤ a) : nI a - 42 = nI (a - 42) := pk_sub h
theorem l42_e (a : Nat) (h : a < 2 ^ 31) : (nI a = 42) = (a = 42) := ni_eq a 42 h (by decide)
theorem l42_le (a : Nat) (h : a < 2 ^ 31) : (nI a ≤ 42) = (a ≤ 42) := ni_le a 42 h (by decide)
theorem l42_ge (a : Nat) (h : a < 2 ^ 31) : ((42 : Int32) ≤ nI a) = (42 ≤ a) := ni_le 42 a (by decide) h
theorem l42_lt (a : Nat) (h : a < 2 ^ 31) : (nI a < 42) = (a < 42) := ni_lt a 42 h (by decide)
theorem l42_gt (a : Nat) (h : a < 2 ^ 31) : ((42 : Int32) < nI a) = (42 < a) := ni_lt 42 a (by decide) h
theorem l43_m (a : Nat) : (43 : Int32) * nI a = nI (43 * a) := pk_mul 43 a
theorem l43_a (a : Nat) : nI a + 43 = nI (a + 43) := nI_add a 43
theorem l43_b (a : Nat) : (43 : Int32) + nI a = nI (43 + a) := nI_add 43 a
theorem l43_s (a : Nat) (h : 43 ≤ a) : nI a - 43 = nI (a - 43) := pk_sub h
theorem l43_e (a : Nat) (h : a < 2 ^ 31) : (nI a = 43) = (a = 43) := ni_eq a 43 h (by decide)
theorem l43_le (a : Nat) (h : a < 2 ^ 31) : (nI a ≤ 43) = (a ≤ 43) := ni_le a 43 h (by decide)
theorem l43_ge (a : Nat) (h : a < 2 ^ 31) : ((43 : Int32) ≤ nI a) = (43 ≤ a) := ni_le 43 a (by decide) h
theorem l43_lt (a : Nat) (h : a < 2 ^ 31) : (nI a < 43) = (a < 43) := ni_lt a 43 h (by decide)
theorem l43_gt (a : Nat) (h : a < 2 ^ 31) : ((43 : Int32) < nI a) = (43 < a) := ni_lt 43 a (by decide) h
theorem l44_m (a : Nat) : (44 : Int32) * nI a = nI (44 * a) := pk_mul 44 a
theorem l44_a (a : Nat) : nI a + 44 = nI (a + 44) := nI_add a 44
theorem l44_b (a : Nat) : (44 : Int32) + nI a = nI (44 + a) := nI_add 44 a
theorem l44_s (a : Nat) (h : 44 ≤ a) : nI a - 44 = nI (a - 44) := pk_sub h
theorem l44_e (a : Nat) (h : a < 2 ^ 31) : (nI a = 44) = (a = 44) := ni_eq a 44 h (by decide)
theorem l44_le (a : Nat) (h : a < 2 ^ 31) : (nI a ≤ 44) = (a ≤ 44) := ni_le a 44 h (by decide)
theorem l44_ge (a : Nat) (h : a < 2 ^ 31) : ((44 : Int32) ≤ nI a) = (44 ≤ a) := ni_le 44 a (by decide) h
theorem l44_lt (a : Nat) (h : a < 2 ^ 31) : (nI a < 44) = (a < 44) := ni_lt a 44 h (by decide)
theorem l44_gt (a : Nat) (h : a < 2 ^ 31) : ((44 : Int32) < nI a) = (44 < a) := ni_lt 44 a (by decide) h
theorem l45_m (a : Nat) : (45 : Int32) * nI a = nI (45 * a) := pk_mul 45 a
theorem l45_a (a : Nat) : nI a + 45 = nI (a + 45) := nI_add a 45
theorem l45_b (a : Nat) : (45 : Int32) + nI a = nI (45 + a) := nI_add 45 a
theorem l45_s (a : Nat) (h : 45 ≤ a) : nI a - 45 = nI (a - 45) := pk_sub h
theorem l45_e (a : Nat) (h : a < 2 ^ 31) : (nI a = 45) = (a = 45) := ni_eq a 45 h (by decide)
theorem l45_le (a : Nat) (h : a < 2 ^ 31) : (nI a ≤ 45) = (a ≤ 45) := ni_le a 45 h (by decide)
theorem l45_ge (a : Nat) (h : a < 2 ^ 31) : ((45 : Int32) ≤ nI a) = (45 ≤ a) := ni_le 45 a (by decide) h
theorem l45_lt (a : Nat) (h : a < 2 ^ 31) : (nI a < 45) = (a < 45) := ni_lt a 45 h (by decide)
theorem l45_gt (a : Nat) (h : a < 2 ^ 31) : ((45 : Int32) < nI a) = (45 < a) := ni_lt 45 a (by decide) h
theorem l46_m (a : Nat) : (46 : Int32) * nI a = nI (46 * a) := pk_mul 46 a
theorem l46_a (a : Nat) : nI a + 46 = nI (a + 46) := nI_add a 46
theorem l46_b (a : Nat) : (46 : Int32) + nI a = nI (46 + a) := nI_add 46 a
theorem l46_s (a : Nat) (h : 46 ≤ a) : nI a - 46 = nI (a - 46) := pk_sub h
theorem l46_e (a : Nat) (h : a < 2 ^ 31) : (nI a = 46) = (a = 46) := ni_eq a 46 h (by decide)
theorem l46_le (a : Nat) (h : a < 2 ^ 31) : (nI a ≤ 46) = (a ≤ 46) := ni_le a 46 h (by decide)
theorem l46_ge (a : Nat) (h : a < 2 ^ 31) : ((46 : Int32) ≤ nI a) = (46 ≤ a) := ni_le 46 a (by decide) h
theorem l46_lt (a : Nat) (h : a < 2 ^ 31) : (nI a < 46) = (a < 46) := ni_lt a 46 h (by decide)
theorem l46_gt (a : Nat) (h : a < 2 ^ 31) : ((46 : Int32) < nI a) = (46 < a) := ni_lt 46 a (by decide) h
theorem l47_m (a : Nat) : (47 : Int32) * nI a = nI (47 * a) := pk_mul 47 a
theorem l47_a (a : Nat) : nI a + 47 = nI (a + 47) := nI_add a 47
theorem l47_b (a : Nat) : (47 : Int32) + nI a = nI (47 + a) := nI_add 47 a
theorem l47_s (a : Nat) (h : 47 ≤ a) : nI a - 47 = nI (a - 47) := pk_sub h
theorem l47_e (a : Nat) (h : a < 2 ^ 31) : (nI a = 47) = (a = 47) := ni_eq a 47 h (by decide)
theorem l47_le (a : Nat) (h : a < 2 ^ 31) : (nI a ≤ 47) = (a ≤ 47) := ni_le a 47 h (by decide)
theorem l47_ge (a : Nat) (h : a < 2 ^ 31) : ((47 : Int32) ≤ nI a) = (47 ≤ a) := ni_le 47 a (by decide) h
theorem l47_lt (a : Nat) (h : a < 2 ^ 31) : (nI a < 47) = (a < 47) := ni_lt a 47 h (by decide)
theorem l47_gt (a : Nat) (h : a < 2 ^ 31) : ((47 : Int32) < nI a) = (47 < a) := ni_lt 47 a (by decide) h
theorem l48_m (a : Nat) : (48 : Int32) * nI a = nI (48 * a) := pk_mul 48 a
theorem l48_a (a : Nat) : nI a + 48 = nI (a + 48) := nI_add a 48
theorem l48_b (a : Nat) : (48 : Int32) + nI a = nI (48 + a) := nI_add 48 a
theorem l48_s (a : Nat) (h : 48 ≤ a) : nI a - 48 = nI (a - 48) := pk_sub h
theorem l48_e (a : Nat) (h : a < 2 ^ 31) : (nI a = 48) = (a = 48) := ni_eq a 48 h (by decide)
theorem l48_le (a : Nat) (h : a < 2 ^ 31) : (nI a ≤ 48) = (a ≤ 48) := ni_le a 48 h (by decide)
theorem l48_ge (a : Nat) (h : a < 2 ^ 31) : ((48 : Int32) ≤ nI a) = (48 ≤ a) := ni_le 48 a (by decide) h
theorem l48_lt (a : Nat) (h : a < 2 ^ 31) : (nI a < 48) = (a < 48) := ni_lt a 48 h (by decide)
theorem l48_gt (a : Nat) (h : a < 2 ^ 31) : ((48 : Int32) < nI a) = (48 < a) := ni_lt 48 a (by decide) h
theorem l71_m (a : Nat) : (71 : Int32) * nI a = nI (71 * a) := pk_mul 71 a
theorem l71_a (a : Nat) : nI a + 71 = nI (a + 71) := nI_add a 71
theorem l71_b (a : Nat) : (71 : Int32) + nI a = nI (71 + a) := nI_add 71 a
theorem l71_s (a : Nat) (h : 71 ≤ a) : nI a - 71 = nI (a - 71) := pk_sub h
theorem l71_e (a : Nat) (h : a < 2 ^ 31) : (nI a = 71) = (a = 71) := ni_eq a 71 h (by decide)
theorem l71_le (a : Nat) (h : a < 2 ^ 31) : (nI a ≤ 71) = (a ≤ 71) := ni_le a 71 h (by decide)
theorem l71_ge (a : Nat) (h : a < 2 ^ 31) : ((71 : Int32) ≤ nI a) = (71 ≤ a) := ni_le 71 a (by decide) h
theorem l71_lt (a : Nat) (h : a < 2 ^ 31) : (nI a < 71) = (a < 71) := ni_lt a 71 h (by decide)
theorem l71_gt (a : Nat) (h : a < 2 ^ 31) : ((71 : Int32) < nI a) = (71 < a) := ni_lt 71 a (by decide) h
theorem l72_m (a : Nat) : (72 : Int32) * nI a = nI (72 * a) := pk_mul 72 a
theorem l72_a (a : Nat) : nI a + 72 = nI (a + 72) := nI_add a 72
theorem l72_b (a : Nat) : (72 : Int32) + nI a = nI (72 + a) := nI_add 72 a
theorem l72_s (a : Nat) (h : 72 ≤ a) : nI a - 72 = nI (a - 72) := pk_sub h
theorem l72_e (a : Nat) (h : a < 2 ^ 31) : (nI a = 72) = (a = 72) := ni_eq a 72 h (by decide)
theorem l72_le (a : Nat) (h : a < 2 ^ 31) : (nI a ≤ 72) = (a ≤ 72) := ni_le a 72 h (by decide)
theorem l72_ge (a : Nat) (h : a < 2 ^ 31) : ((72 : Int32) ≤ nI a) = (72 ≤ a) := ni_le 72 a (by decide) h
theorem l72_lt (a : Nat) (h : a < 2 ^ 31) : (nI a < 72) = (a < 72) := ni_lt a 72 h (by decide)
theorem l72_gt (a : Nat) (h : a < 2 ^ 31) : ((72 : Int32) < nI a) = (72 < a) := ni_lt 72 a (by decide) h
theorem l75_m (a : Nat) : (75 : Int32) * nI a = nI (75 * a) := pk_mul 75 a
theorem l75_a (a : Nat) : nI a + 75 = nI (a + 75) := nI_add a 75
theorem l75_b (a : Nat) : (75 : Int32) + nI a = nI (75 + a) := nI_add 75 a
theorem l75_s (a : Nat) (h : 75 ≤ a) : nI a - 75 = nI (a - 75) := pk_sub h
theorem l75_e (a : Nat) (h : a < 2 ^ 31) : (nI a = 75) = (a = 75) := ni_eq a 75 h (by decide)
theorem l75_le (a : Nat) (h : a < 2 ^ 31) : (nI a ≤ 75) = (a ≤ 75) := ni_le a 75 h (by decide)
theorem l75_ge (a : Nat) (h : a < 2 ^ 31) : ((75 : Int32) ≤ nI a) = (75 ≤ a) := ni_le 75 a (by decide) h
theorem l75_lt (a : Nat) (h : a < 2 ^ 31) : (nI a < 75) = (a < 75) := ni_lt a 75 h (by decide)
theorem l75_gt (a : Nat) (h : a < 2 ^ 31) : ((75 : Int32) < nI a) = (75 < a) := ni_lt 75 a (by decide) h
theorem l255_m (a : Nat) : (255 : Int32) * nI a = nI (255 * a) := pk_mul 255 a
theorem l255_a (a : Nat) : nI a + 255 = nI (a + 255) := nI_add a 255
theorem l255_b (a : Nat) : (255 : Int32) + nI a = nI (255 + a) := nI_add 255 a
theorem l255_s (a : Nat) (h : 255 ≤ a) : nI a - 255 = nI (a - 255) := pk_sub h
theorem l255_e (a : Nat) (h : a < 2 ^ 31) : (nI a = 255) = (a = 255) := ni_eq a 255 h (by decide)
theorem l255_le (a : Nat) (h : a < 2 ^ 31) : (nI a ≤ 255) = (a ≤ 255) := ni_le a 255 h (by decide)
theorem l255_ge (a : Nat) (h : a < 2 ^ 31) : ((255 : Int32) ≤ nI a) = (255 ≤ a) := ni_le 255 a (by decide) h
theorem l255_lt (a : Nat) (h : a < 2 ^ 31) : (nI a < 255) = (a < 255) := ni_lt a 255 h (by decide)
theorem l255_gt (a : Nat) (h : a < 2 ^ 31) : ((255 : Int32) < nI a) = (255 < a) := ni_lt 255 a (by decide) h
theorem l864_m (a : Nat) : (864 : Int32) * nI a = nI (864 * a) := pk_mul 864 a
theorem l864_a (a : Nat) : nI a + 864 = nI (a + 864) := nI_add a 864
theorem l864_b (a : Nat) : (864 : Int32) + nI a = nI (864 + a) := nI_add 864 a
theorem l864_s (a : Nat) (h : 864 ≤ a) : nI a - 864 = nI (a - 864) := pk_sub h
theorem l864_e (a : Nat) (h : a < 2 ^ 31) : (nI a = 864) = (a = 864) := ni_eq a 864 h (by decide)
theorem l864_le (a : Nat) (h : a < 2 ^ 31) : (nI a ≤ 864) = (a ≤ 864) := ni_le a 864 h (by decide)
theorem l864_ge (a : Nat) (h : a < 2 ^ 31) : ((864 : Int32) ≤ nI a) = (864 ≤ a) := ni_le 864 a (by decide) h
theorem l864_lt (a : Nat) (h : a < 2 ^ 31) : (nI a < 864) = (a < 864) := ni_lt a 864 h (by decide)
theorem l864_gt (a : Nat) (h : a < 2 ^ 31) : ((864 : Int32) < nI a) = (864 < a) := ni_lt 864 a (by decide) h
def cIn (lo hi v : Int32) : Bool := decide (lo ≤ v) && decide (v < hi)
theorem cIn_nI {lo hi a : Nat} (h1 : lo < 2 ^ 31) (h2 : hi < 2 ^ 31) (h3 : a < 2 ^ 31) : cIn (nI lo) (nI hi) (nI a) = (decide (lo ≤ a) && decide (a < hi)) := by
  unfold cIn
  simp only [ni_le lo a h1 h3, ni_lt a hi h3 h2]
theorem cIn_i {lo hi v : Int32} : (if v < lo then some (0 : Int32) else if hi ≤ v then some 0 else some 1) = some (b2 (cIn lo hi v)) := by
  unfold cIn
  by_cases h1 : v < lo
  · have : ¬ lo ≤ v := Int32.not_le.mpr h1
    simp [h1, this, b2]
  · have : lo ≤ v := Int32.not_lt.mp h1
    by_cases h2 : hi ≤ v
    · have h3 : ¬ v < hi := Int32.not_lt.mpr h2
      simp [h1, this, h2, h3, b2]
    · have h3 : v < hi := Int32.not_le.mp h2
      simp [h1, this, h2, h3, b2]
theorem cIn_j {lo hi v : Int32} : (if v < lo then some (0 : Int32) else if hi < v then some 0 else some 1) = some (b2 (decide (lo ≤ v) && decide (v ≤ hi))) := by
  by_cases h1 : v < lo
  · have : ¬ lo ≤ v := Int32.not_le.mpr h1
    simp [h1, this, b2]
  · have : lo ≤ v := Int32.not_lt.mp h1
    by_cases h2 : hi < v
    · have h3 : ¬ v ≤ hi := Int32.not_le.mpr h2
      simp [h1, this, h2, h3, b2]
    · have h3 : v ≤ hi := Int32.not_lt.mp h2
      simp [h1, this, h2, h3, b2]
section ref
variable {S : gS} {d : gD} {m : Nat} {s : Nat → Nat → Nat}
theorem r_isClass (h : RI S d m s) (v : Int32) : f_R_isClass S d m v = some (b2 (cIn 8 (nI (s 3 0)) v)) := by
  simp only [f_R_isClass, kd_t h.rs.1, lt_t, ri_3 h]
  exact cIn_i
theorem r_isFace (h : RI S d m s) (v : Int32) : f_R_isFace S d m v = some (b2 (cIn 24 (nI (24 + s 5 0)) v)) := by
  simp only [f_R_isFace, kd_t h.rs.1, lt_t, ri_5 h, show (24 : Int32) + nI (s 5 0) = nI (24 + s 5 0) from nI_add 24 _]
  exact cIn_i
theorem r_isPlain (v : Int32) : f_R_isPlain S d v = some (b2 (decide (1 ≤ v) && decide (v ≤ 6))) := by
  simp only [f_R_isPlain, lt_t]
  exact cIn_j
theorem r_isBox (v : Int32) : f_R_isBox S d v = some (b2 (decide (41 ≤ v) && decide (v ≤ 46))) := by
  simp only [f_R_isBox, lt_t]
  exact cIn_j
def mkHit (s : Nat → Nat → Nat) (l : Nat) (nm pk : Int32) (f : Nat) : Bool := decide (s 6 f = l) && (decide (nI (s 7 f) = nm) && decide (nI (s 8 f) = pk))
def oi : Option Nat → Int32
  | none => -1
  | some f => nI f
def fo (p : Nat → Bool) (n : Nat) : Option Nat := if fst p n < n then some (fst p n) else none
def mk (s : Nat → Nat → Nat) (l : Nat) (nm pk : Int32) : Option Nat := fo (mkHit s l nm pk) (s 5 0)
theorem r_madeBy (h : RI S d m s) (b : BI s) (l : Nat) (hl : l < 2 ^ 31) (nm pk : Int32) : f_R_madeBy S d m (nI l) nm pk = some (oi (mk s l nm pk)) := by
  have hf := b.faces
  unfold f_R_madeBy
  refine itr_f (B := f_R_madeBy_B3 S d m) (fun k K => K (nI l) nm pk (nI k)) (mkHit s l nm pk) (s 5 0) _ (by omega) ?_ ?_ ?_
  · intro k hk hp K hK
    have h6 := b.lt 6 k
    simp (maxSteps := 1000000) (disch := omega) only [f_R_madeBy_B3, f_R_madeBy_J48, kd_t h.rs.1, rs_P6 h.rs, kd_t (rs_K6 h.rs), rs_N6 h.rs, ri_6 h, rs_P7 h.rs, kd_t (rs_K7 h.rs), rs_N7 h.rs, ri_7 h, rs_P8 h.rs, kd_t (rs_K8 h.rs), rs_N8 h.rs, ri_8 h, ri_5 h, l1_m, l1_a, l1_b, l1_s, l1_e, l1_le, l1_ge, l1_lt, l1_gt, lt_t, nn_t, bd_t, bdD_t, bdP_t, nI_clamp, gi_n, nI_add, nI_1, pk_mul, b2_eq0, b2_01, nb_t, if_true, if_false, ni_le, ni_eq, ni_lt]
    rw [if_neg (by omega)]
    unfold mkHit at hp
    by_cases q1 : s 6 k = l
    · rw [if_pos q1]
      by_cases q2 : nI (s 7 k) = nm
      · rw [if_pos q2]
        by_cases q3 : nI (s 8 k) = pk
        · simp [q1, q2, q3] at hp
        · rw [if_neg q3]; exact hK
      · rw [if_neg q2]; exact hK
    · rw [if_neg q1]; exact hK
  · intro k hk hp he K
    have h6 := b.lt 6 k
    simp (maxSteps := 1000000) (disch := omega) only [f_R_madeBy_B3, f_R_madeBy_J48, kd_t h.rs.1, rs_P6 h.rs, kd_t (rs_K6 h.rs), rs_N6 h.rs, ri_6 h, rs_P7 h.rs, kd_t (rs_K7 h.rs), rs_N7 h.rs, ri_7 h, rs_P8 h.rs, kd_t (rs_K8 h.rs), rs_N8 h.rs, ri_8 h, ri_5 h, l1_m, l1_a, l1_b, l1_s, l1_e, l1_le, l1_ge, l1_lt, l1_gt, lt_t, nn_t, bd_t, bdD_t, bdP_t, nI_clamp, gi_n, nI_add, nI_1, pk_mul, b2_eq0, b2_01, nb_t, if_true, if_false, ni_le, ni_eq, ni_lt]
    rw [if_neg (by omega)]
    simp only [mkHit, Bool.and_eq_true, decide_eq_true_iff] at hp
    rw [if_pos hp.1, if_pos hp.2.1, if_pos hp.2.2, mk, fo, he, if_pos hk]; rfl
  · intro he K
    simp (maxSteps := 1000000) (disch := omega) only [f_R_madeBy_B3, kd_t h.rs.1, rs_P6 h.rs, kd_t (rs_K6 h.rs), rs_N6 h.rs, ri_6 h, rs_P7 h.rs, kd_t (rs_K7 h.rs), rs_N7 h.rs, ri_7 h, rs_P8 h.rs, kd_t (rs_K8 h.rs), rs_N8 h.rs, ri_8 h, ri_5 h, lt_t, nn_t, bd_t, bdD_t, bdP_t, nI_clamp, gi_n, nI_add, nI_1, pk_mul, b2_eq0, b2_01, nb_t, if_true, if_false, ni_le, ni_eq, ni_lt]
    rw [if_pos (Nat.le_refl _), mk, fo, he, if_neg (Nat.lt_irrefl _)]; rfl
end ref
