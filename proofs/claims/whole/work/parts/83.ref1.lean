def b2 (b : Bool) : Int32 := if b then 1 else 0
theorem b2_01 (b : Bool) : b2 b = 0 ∨ b2 b = 1 := by cases b <;> simp [b2]
theorem b2_eq0 (b : Bool) : (b2 b = 0) = (b = false) := by cases b <;> simp [b2]
theorem b2_t {b : Bool} (h : b = true) : b2 b = 1 := by rw [h]; rfl
theorem b2_f {b : Bool} (h : b = false) : b2 b = 0 := by rw [h]; rfl
theorem b2_iff {p : Prop} [Decidable p] : (if p then (some (1 : Int32)) else some 0) = some (b2 (decide p)) := by
  by_cases h : p
  · simp [h, b2]
  · simp [h, b2]
theorem b2_ifn {p : Prop} [Decidable p] : (if p then (some (0 : Int32)) else some 1) = some (b2 (!decide p)) := by
  by_cases h : p
  · simp [h, b2]
  · simp [h, b2]
def fst (p : Nat → Bool) : Nat → Nat
  | 0 => 0
  | n + 1 => if fst p n < n then fst p n else if p n then n else n + 1
theorem fst_le (p : Nat → Bool) (n : Nat) : fst p n ≤ n := by
  induction n with
  | zero => exact Nat.le_refl _
  | succ n ih =>
    unfold fst
    split
    · omega
    · split <;> omega
theorem fst_no (p : Nat → Bool) (n : Nat) : ∀ j, j < fst p n → p j = false := by
  induction n with
  | zero => intro j hj; exact absurd hj (Nat.not_lt_zero _)
  | succ n ih =>
    intro j hj
    have hle := fst_le p n
    unfold fst at hj
    split at hj
    · exact ih j hj
    · have e : fst p n = n := by omega
      split at hj
      · exact ih j (by omega)
      · by_cases q : j = n
        · subst q
          rename_i h2
          exact Bool.eq_false_iff.mpr h2
        · exact ih j (by omega)
theorem fst_yes (p : Nat → Bool) (n : Nat) (h : fst p n < n) : p (fst p n) = true := by
  induction n with
  | zero => exact absurd h (Nat.not_lt_zero _)
  | succ n ih =>
    unfold fst at h ⊢
    by_cases q : fst p n < n
    · rw [if_pos q]; exact ih q
    · rw [if_neg q] at h ⊢
      by_cases r : p n = true
      · rw [if_pos r]; exact r
      · rw [if_neg r] at h; omega
theorem fst_hit (p : Nat → Bool) (n j : Nat) (hj : j < n) (h : p j = true) : fst p n ≤ j := by
  rcases Nat.lt_or_ge j (fst p n) with q | q
  · rw [fst_no p n j q] at h; exact absurd h (by decide)
  · exact q
theorem fst_all (p : Nat → Bool) (n : Nat) (h : ∀ j, j < n → p j = false) : fst p n = n := by
  have hle := fst_le p n
  rcases Nat.lt_or_ge (fst p n) n with q | q
  · have e := fst_yes p n q
    rw [h _ q] at e; exact absurd e (by decide)
  · omega
theorem fst_eq (p : Nat → Bool) (n k : Nat) (hk : k ≤ n) (h : ∀ j, j < k → p j = false) (hp : k < n → p k = true) : fst p n = k := by
  have hle := fst_le p n
  rcases Nat.lt_or_ge k n with q | q
  · have a := fst_hit p n k q (hp q)
    rcases Nat.lt_or_ge (fst p n) k with r | r
    · have e := fst_yes p n (by omega)
      rw [h _ r] at e; exact absurd e (by decide)
    · omega
  · have e : k = n := by omega
    subst e
    exact fst_all p k h
theorem fst_congr {p q : Nat → Bool} {n : Nat} (h : ∀ j, j < n → p j = q j) : fst p n = fst q n := by
  have hle := fst_le q n
  exact fst_eq p n _ hle (fun j hj => by rw [h j (by omega)]; exact fst_no q n j hj) (fun hj => by rw [h _ hj]; exact fst_yes q n hj)
def anyb (p : Nat → Bool) (n : Nat) : Bool := decide (fst p n < n)
theorem anyb_iff (p : Nat → Bool) (n : Nat) : anyb p n = true ↔ ∃ j, j < n ∧ p j = true := by
  unfold anyb
  rw [decide_eq_true_iff]
  constructor
  · intro h; exact ⟨_, h, fst_yes p n h⟩
  · rintro ⟨j, hj, hp⟩; exact Nat.lt_of_le_of_lt (fst_hit p n j hj hp) hj
theorem itr_f {α ρ : Type} {B : α → α} {z : α} (ap : Nat → α → ρ) (p : Nat → Bool) (n : Nat) (r : ρ) (hn : n < 6000) (hs : ∀ k, k < n → p k = false → ∀ K : α, ap (k + 1) K = r → ap k (B K) = r) (hh : ∀ k, k < n → p k = true → fst p n = k → ∀ K : α, ap k (B K) = r) (he : fst p n = n → ∀ K : α, ap n (B K) = r) : ap 0 (itr B z fu) = r := by
  have hle := fst_le p n
  apply itr_0 ap r (fst p n) (by omega)
  · intro k hk K hK
    exact hs k (by omega) (fst_no p n k hk) K hK
  · intro K
    rcases Nat.lt_or_ge (fst p n) n with q | q
    · exact hh _ q (fst_yes p n q) rfl K
    · have e : fst p n = n := by omega
      have := he e K
      rw [← e] at this
      exact this
theorem pe_of {p : Prop} {c : Bool} [Decidable p] (h : decide p = c) : (p ↔ c = true) := by
  rw [← h]; exact (decide_eq_true_iff).symm
def BI (s : Nat → Nat → Nat) : Prop := (∀ k i, s k i < 2 ^ 31) ∧ (1 ≤ s 1 0 ∧ s 1 0 ≤ 4) ∧ (∀ i, 0 < i → i < s 1 0 → s 2 i < i) ∧ (11 ≤ s 3 0 ∧ s 3 0 ≤ 24) ∧ (∀ i, 8 ≤ i → i < s 3 0 → 7 ≤ s 4 i ∧ s 4 i < i) ∧ (s 5 0 ≤ 12) ∧ (∀ i, i < s 5 0 → s 6 i < s 1 0) ∧ (∀ i, i < s 5 0 → s 8 i < 4) ∧ (∀ i, s 9 i ≤ 1) ∧ (∀ i, s 11 i ≤ 2) ∧ (∀ i, s 5 0 ≤ i → s 11 i = 0) ∧ (∀ i p, p < s 11 i → s 10 (2 * i + p) < i) ∧ (∀ i, s 12 i ≤ 6) ∧ (∀ i, s 5 0 ≤ i → s 12 i = 0) ∧ (∀ i, s 16 i ≤ 3) ∧ (s 18 0 ≤ 32) ∧ (s 21 0 ≤ 16)
theorem BI.lt {s : Nat → Nat → Nat} (h : BI s) : ∀ k i, s k i < 2 ^ 31 := h.1
theorem BI.loaders {s : Nat → Nat → Nat} (h : BI s) : 1 ≤ s 1 0 ∧ s 1 0 ≤ 4 := h.2.1
theorem BI.parentL {s : Nat → Nat → Nat} (h : BI s) : ∀ i, 0 < i → i < s 1 0 → s 2 i < i := h.2.2.1
theorem BI.classes {s : Nat → Nat → Nat} (h : BI s) : 11 ≤ s 3 0 ∧ s 3 0 ≤ 24 := h.2.2.2.1
theorem BI.parentC {s : Nat → Nat → Nat} (h : BI s) : ∀ i, 8 ≤ i → i < s 3 0 → 7 ≤ s 4 i ∧ s 4 i < i := h.2.2.2.2.1
theorem BI.faces {s : Nat → Nat → Nat} (h : BI s) : s 5 0 ≤ 12 := h.2.2.2.2.2.1
theorem BI.faceL {s : Nat → Nat → Nat} (h : BI s) : ∀ i, i < s 5 0 → s 6 i < s 1 0 := h.2.2.2.2.2.2.1
theorem BI.facePack {s : Nat → Nat → Nat} (h : BI s) : ∀ i, i < s 5 0 → s 8 i < 4 := h.2.2.2.2.2.2.2.1
theorem BI.faceOpen {s : Nat → Nat → Nat} (h : BI s) : ∀ i, s 9 i ≤ 1 := h.2.2.2.2.2.2.2.2.1
theorem BI.parentN {s : Nat → Nat → Nat} (h : BI s) : ∀ i, s 11 i ≤ 2 := h.2.2.2.2.2.2.2.2.2.1
theorem BI.parentN0 {s : Nat → Nat → Nat} (h : BI s) : ∀ i, s 5 0 ≤ i → s 11 i = 0 := h.2.2.2.2.2.2.2.2.2.2.1
theorem BI.parentF {s : Nat → Nat → Nat} (h : BI s) : ∀ i p, p < s 11 i → s 10 (2 * i + p) < i := h.2.2.2.2.2.2.2.2.2.2.2.1
theorem BI.ownN {s : Nat → Nat → Nat} (h : BI s) : ∀ i, s 12 i ≤ 6 := h.2.2.2.2.2.2.2.2.2.2.2.2.1
theorem BI.ownN0 {s : Nat → Nat → Nat} (h : BI s) : ∀ i, s 5 0 ≤ i → s 12 i = 0 := h.2.2.2.2.2.2.2.2.2.2.2.2.2.1
theorem BI.throwN {s : Nat → Nat → Nat} (h : BI s) : ∀ i, s 16 i ≤ 3 := h.2.2.2.2.2.2.2.2.2.2.2.2.2.2.1
theorem BI.objects {s : Nat → Nat → Nat} (h : BI s) : s 18 0 ≤ 32 := h.2.2.2.2.2.2.2.2.2.2.2.2.2.2.2.1
theorem BI.stands {s : Nat → Nat → Nat} (h : BI s) : s 21 0 ≤ 16 := h.2.2.2.2.2.2.2.2.2.2.2.2.2.2.2.2
theorem ni_0 (x : Nat) (h : x < 2 ^ 31) : (nI x = 0) = (x = 0) := by
  have := @nI_eq x 0 h (by decide)
  rw [nI_0] at this
  exact propext this
theorem ni_1 (x : Nat) (h : x < 2 ^ 31) : (nI x = 1) = (x = 1) := by
  have := @nI_eq x 1 h (by decide)
  exact propext this
theorem ni_neg (x : Nat) (h : x < 2 ^ 31) : (nI x < 0) = False := eq_false (nI_pos h)
theorem ni_eq (a b : Nat) (ha : a < 2 ^ 31) (hb : b < 2 ^ 31) : (nI a = nI b) = (a = b) := propext (nI_eq ha hb)
theorem ni_le (a b : Nat) (ha : a < 2 ^ 31) (hb : b < 2 ^ 31) : (nI a ≤ nI b) = (a ≤ b) := propext (nI_leI ha hb)
theorem ni_lt (a b : Nat) (ha : a < 2 ^ 31) (hb : b < 2 ^ 31) : (nI a < nI b) = (a < b) := propext (nI_ltI ha hb)
def cIn (lo hi v : Int32) : Bool := decide (lo ≤ v) && decide (v < hi)
theorem cIn_nI {lo hi a : Nat} (h1 : lo < 2 ^ 31) (h2 : hi < 2 ^ 31) (h3 : a < 2 ^ 31) : cIn (nI lo) (nI hi) (nI a) = (decide (lo ≤ a) && decide (a < hi)) := by
  unfold cIn
  simp only [ni_le lo a h1 h3, ni_lt a hi h3 h2]
theorem cIn_i {lo hi v : Int32} : (if v < lo then some (0 : Int32) else if hi ≤ v then some 0 else some 1) = some (b2 (cIn lo hi v)) := by
  unfold cIn
  by_cases h1 : v < lo
  · have : ¬ lo ≤ v := Int32.not_le.mpr h1
    simp [h1, this, b2]
  · have : lo ≤ v := Int32.not_lt.mp h1
    by_cases h2 : hi ≤ v
    · have h3 : ¬ v < hi := Int32.not_lt.mpr h2
      simp [h1, this, h2, h3, b2]
    · have h3 : v < hi := Int32.not_le.mp h2
      simp [h1, this, h2, h3, b2]
theorem cIn_j {lo hi v : Int32} : (if v < lo then some (0 : Int32) else if hi < v then some 0 else some 1) = some (b2 (decide (lo ≤ v) && decide (v ≤ hi))) := by
  by_cases h1 : v < lo
  · have : ¬ lo ≤ v := Int32.not_le.mpr h1
    simp [h1, this, b2]
  · have : lo ≤ v := Int32.not_lt.mp h1
    by_cases h2 : hi < v
    · have h3 : ¬ v ≤ hi := Int32.not_le.mpr h2
      simp [h1, this, h2, h3, b2]
    · have h3 : v ≤ hi := Int32.not_lt.mp h2
      simp [h1, this, h2, h3, b2]
section ref
variable {S : gS} {d : gD} {m : Nat} {s : Nat → Nat → Nat}
theorem r_isClass (h : RI S d m s) (v : Int32) : f_R_isClass S d m v = some (b2 (cIn 8 (nI (s 3 0)) v)) := by
  simp only [f_R_isClass, kd_t h.rs.1, lt_t, ri_3 h]
  exact cIn_i
theorem r_isFace (h : RI S d m s) (v : Int32) : f_R_isFace S d m v = some (b2 (cIn 24 (nI (24 + s 5 0)) v)) := by
  simp only [f_R_isFace, kd_t h.rs.1, lt_t, ri_5 h, show (24 : Int32) + nI (s 5 0) = nI (24 + s 5 0) from nI_add 24 _]
  exact cIn_i
theorem r_isPlain (v : Int32) : f_R_isPlain S d v = some (b2 (decide (1 ≤ v) && decide (v ≤ 6))) := by
  simp only [f_R_isPlain, lt_t]
  exact cIn_j
theorem r_isBox (v : Int32) : f_R_isBox S d v = some (b2 (decide (41 ≤ v) && decide (v ≤ 46))) := by
  simp only [f_R_isBox, lt_t]
  exact cIn_j
def mkHit (s : Nat → Nat → Nat) (l : Nat) (nm pk : Int32) (f : Nat) : Bool := decide (s 6 f = l) && (decide (nI (s 7 f) = nm) && decide (nI (s 8 f) = pk))
theorem r_madeBy (h : RI S d m s) (b : BI s) (l : Nat) (hl : l < 2 ^ 31) (nm pk : Int32) : f_R_madeBy S d m (nI l) nm pk = some (if fst (mkHit s l nm pk) (s 5 0) < s 5 0 then nI (fst (mkHit s l nm pk) (s 5 0)) else -1) := by
  have hf := b.faces
  unfold f_R_madeBy
  refine itr_f (B := f_R_madeBy_B3 S d m) (fun k K => K (nI l) nm pk (nI k)) (mkHit s l nm pk) (s 5 0) _ (by omega) ?_ ?_ ?_
  · intro k hk hp K hK
    have h6 := b.lt 6 k
    simp (disch := omega) only [f_R_madeBy_B3, f_R_madeBy_J48, kd_t h.rs.1, rs_P6 h.rs, kd_t (rs_K6 h.rs), rs_N6 h.rs, ri_6 h, rs_P7 h.rs, kd_t (rs_K7 h.rs), rs_N7 h.rs, ri_7 h, rs_P8 h.rs, kd_t (rs_K8 h.rs), rs_N8 h.rs, ri_8 h, ri_5 h, lt_t, nn_t, bd_t, bdD_t, bdP_t, nI_clamp, gi_n, nI_add, nI_1, pk_mul, b2_eq0, b2_01, nb_t, if_true, if_false, ni_le, ni_eq]
    rw [if_neg (by omega)]
    unfold mkHit at hp
    by_cases q1 : s 6 k = l
    · rw [if_pos q1]
      by_cases q2 : nI (s 7 k) = nm
      · rw [if_pos q2]
        by_cases q3 : nI (s 8 k) = pk
        · simp [q1, q2, q3] at hp
        · rw [if_neg q3]; exact hK
      · rw [if_neg q2]; exact hK
    · rw [if_neg q1]; exact hK
  · intro k hk hp he K
    have h6 := b.lt 6 k
    simp (disch := omega) only [f_R_madeBy_B3, f_R_madeBy_J48, kd_t h.rs.1, rs_P6 h.rs, kd_t (rs_K6 h.rs), rs_N6 h.rs, ri_6 h, rs_P7 h.rs, kd_t (rs_K7 h.rs), rs_N7 h.rs, ri_7 h, rs_P8 h.rs, kd_t (rs_K8 h.rs), rs_N8 h.rs, ri_8 h, ri_5 h, lt_t, nn_t, bd_t, bdD_t, bdP_t, nI_clamp, gi_n, nI_add, nI_1, pk_mul, b2_eq0, b2_01, nb_t, if_true, if_false, ni_le, ni_eq]
    rw [if_neg (by omega)]
    simp only [mkHit, Bool.and_eq_true, decide_eq_true_iff] at hp
    rw [if_pos hp.1, if_pos hp.2.1, if_pos hp.2.2, he, if_pos hk]
  · intro he K
    simp (disch := omega) only [f_R_madeBy_B3, kd_t h.rs.1, rs_P6 h.rs, kd_t (rs_K6 h.rs), rs_N6 h.rs, ri_6 h, rs_P7 h.rs, kd_t (rs_K7 h.rs), rs_N7 h.rs, ri_7 h, rs_P8 h.rs, kd_t (rs_K8 h.rs), rs_N8 h.rs, ri_8 h, ri_5 h, lt_t, nn_t, bd_t, bdD_t, bdP_t, nI_clamp, gi_n, nI_add, nI_1, pk_mul, b2_eq0, b2_01, nb_t, if_true, if_false, ni_le, ni_eq]
    rw [if_pos (Nat.le_refl _), he, if_neg (Nat.lt_irrefl _)]
end ref
