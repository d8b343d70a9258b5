theorem itr_q {α ρ σ : Type} {B : α → α} {z : α} (ap : σ → α → ρ) (Q : ρ → Prop) (J : Nat → σ → Prop) (N : Nat) (hN : N < 6000) (hs : ∀ k, k < N → ∀ x, J k x → ∀ K : α, (∀ y, J (k + 1) y → Q (ap y K)) → Q (ap x (B K))) (he : ∀ x, J N x → ∀ K : α, Q (ap x (B K))) {x : σ} (hx : J 0 x) : Q (ap x (itr B z fu)) := by
  have key : ∀ j k, k + j = N → ∀ n, j < n → ∀ x, J k x → Q (ap x (itr B z n)) := by
    intro j
    induction j with
    | zero =>
      intro k hk n hn x hx
      obtain ⟨n, rfl⟩ : ∃ i, n = i + 1 := ⟨n - 1, by omega⟩
      have e : k = N := by omega
      subst e
      exact he x hx _
    | succ j ih =>
      intro k hk n hn x hx
      obtain ⟨n, rfl⟩ : ∃ i, n = i + 1 := ⟨n - 1, by omega⟩
      exact hs k (by omega) x hx _ (fun y hy => ih (k + 1) (by omega) n (by omega) y hy)
  exact key N 0 (by omega) fu (by show _ < 6000; omega) x hx
def Ch (P : Nat → Nat → Prop) (d e : gD) : Prop := (∀ a j, dL e a j = dL d a j) ∧ ∀ a j, ¬ P a j → dI e a j = dI d a j
theorem ch_r {P : Nat → Nat → Prop} {d : gD} : Ch P d d := ⟨fun _ _ => rfl, fun _ _ _ => rfl⟩
theorem ch_t {P : Nat → Nat → Prop} {d e f : gD} (h : Ch P d e) (g : Ch P e f) : Ch P d f := ⟨fun a j => (g.1 a j).trans (h.1 a j), fun a j n => (g.2 a j n).trans (h.2 a j n)⟩
theorem ch_m {P Q : Nat → Nat → Prop} {d e : gD} (h : Ch P d e) (i : ∀ a j, P a j → Q a j) : Ch Q d e := ⟨h.1, fun a j n => h.2 a j (fun p => n (i a j p))⟩
theorem ch_w {P : Nat → Nat → Prop} {d : gD} {a k : Nat} {v : Int32} (h : P a k) : Ch P d (wI d a k v) := ⟨fun _ _ => rfl, fun b j n => by rw [dI_wI, if_neg]; rintro ⟨rfl, rfl⟩; exact n h⟩
theorem ch_s {P : Nat → Nat → Prop} {d e : gD} {a k : Nat} {v : Int32} (g : Ch P d e) (h : P a k) : Ch P d (wI e a k v) := ch_t g (ch_w h)
def Row (d : gD) (a o : Nat) (l : List Nat) : Prop := ∀ i, i < l.length → dI d a (o + i) = nI (l.getD i 0)
theorem row_n {d : gD} {a o : Nat} : Row d a o [] := fun i h => absurd h (Nat.not_lt_zero _)
theorem row_ch {P : Nat → Nat → Prop} {d e : gD} {a o : Nat} {l : List Nat} (h : Row d a o l) (g : Ch P d e) (n : ∀ i, i < l.length → ¬ P a (o + i)) : Row e a o l := fun i hi => (g.2 _ _ (n i hi)).trans (h i hi)
theorem getD_app {l : List Nat} {v i : Nat} : (l ++ [v]).getD i 0 = if i = l.length then v else l.getD i 0 := by
  rw [List.getD_eq_getElem?_getD, List.getD_eq_getElem?_getD, List.getElem?_append]
  by_cases h : i < l.length
  · rw [if_pos h, if_neg (by omega)]
  · rw [if_neg h]
    by_cases e : i = l.length
    · rw [if_pos e, e, Nat.sub_self]; rfl
    · rw [if_neg e, List.getElem?_eq_none (by simp; omega), List.getElem?_eq_none (by omega)]
theorem getD_mem {l : List Nat} {i : Nat} (h : i < l.length) : l.getD i 0 ∈ l := by
  rw [List.getD_eq_getElem?_getD, List.getElem?_eq_getElem h]
  exact List.getElem_mem h
theorem mem_getD {l : List Nat} {x : Nat} (h : x ∈ l) : ∃ i, i < l.length ∧ l.getD i 0 = x := by
  obtain ⟨i, hi, e⟩ := List.mem_iff_getElem.mp h
  refine ⟨i, hi, ?_⟩
  rw [List.getD_eq_getElem?_getD, List.getElem?_eq_getElem hi]
  exact e
theorem row_w {d : gD} {a o v : Nat} {l : List Nat} (h : Row d a o l) : Row (wI d a (o + l.length) (nI v)) a o (l ++ [v]) := by
  intro i hi
  rw [dI_wI, getD_app]
  rw [List.length_append, List.length_singleton] at hi
  by_cases e : i = l.length
  · rw [if_pos ⟨rfl, by omega⟩, if_pos e]
  · rw [if_neg (by omega), if_neg e]
    exact h i (by omega)
theorem row_w0 {d : gD} {a o p v : Nat} {l : List Nat} {x : Int32} (h : Row d a o l) (e : p = o + l.length) (q : x = nI v) : Row (wI d a p x) a o (l ++ [v]) := by
  subst e; subst q; exact row_w h
def nd : List Nat → Prop
  | [] => True
  | x :: l => x ∉ l ∧ nd l
theorem nd_len : ∀ (n : Nat) (l : List Nat), nd l → (∀ x, x ∈ l → x < n) → l.length ≤ n := by
  intro n
  induction n with
  | zero =>
    intro l _ h
    cases l with
    | nil => exact Nat.le_refl _
    | cons x l => exact absurd (h x (List.mem_cons_self ..)) (Nat.not_lt_zero _)
  | succ n ih =>
    intro l hl h
    have key : ∀ l : List Nat, nd l → (l.filter (fun x => decide (x ≠ n))).length + 1 ≥ l.length ∧ (n ∉ l → (l.filter (fun x => decide (x ≠ n))).length = l.length) ∧ nd (l.filter (fun x => decide (x ≠ n))) := by
      intro l
      induction l with
      | nil => intro _; exact ⟨by simp, fun _ => rfl, trivial⟩
      | cons x l ih2 =>
        intro hn
        have := ih2 hn.2
        by_cases e : x = n
        · subst e
          rw [List.filter_cons_of_neg (by simp)]
          refine ⟨?_, fun q => absurd (List.mem_cons_self ..) q, this.2.2⟩
          rw [this.2.1 hn.1]
          exact Nat.le_refl _
        · rw [List.filter_cons_of_pos (by simpa using e)]
          refine ⟨by simp only [List.length_cons]; omega, fun q => ?_, ?_, this.2.2⟩
          · simp only [List.length_cons]
            rw [this.2.1 (fun w => q (List.mem_cons_of_mem _ w))]
          · intro w
            exact hn.1 (List.mem_filter.mp w).1
    have k := key l hl
    have := ih _ k.2.2 (fun x hx => by
      have := List.mem_filter.mp hx
      have h1 := h x this.1
      have h2 : x ≠ n := by simpa using this.2
      omega)
    omega
theorem nd_app {l : List Nat} {v : Nat} (h : nd l) (n : v ∉ l) : nd (l ++ [v]) := by
  induction l with
  | nil => exact ⟨List.not_mem_nil, trivial⟩
  | cons x l ih =>
    refine ⟨?_, ih h.2 (fun w => n (List.mem_cons_of_mem _ w))⟩
    intro w
    have w : x ∈ l ++ [v] := w
    rw [List.mem_append, List.mem_singleton] at w
    rcases w with w | w
    · exact h.1 w
    · exact n (by rw [← w]; exact List.mem_cons_self ..)
theorem nd_filter {l : List Nat} (p : Nat → Bool) (h : nd l) : nd (l.filter p) := by
  induction l with
  | nil => exact trivial
  | cons x l ih =>
    cases e : p x with
    | true =>
      rw [List.filter_cons_of_pos e]
      exact ⟨fun w => h.1 (List.mem_filter.mp w).1, ih h.2⟩
    | false =>
      rw [List.filter_cons_of_neg (by simp [e])]
      exact ih h.2
def own (s : Nat → Nat → Nat) (f : Nat) : Nat → List Nat
  | 0 => []
  | k + 1 => own s f k ++ [6 * f + k]
theorem own_len (s : Nat → Nat → Nat) (f k : Nat) : (own s f k).length = k := by
  induction k with
  | zero => rfl
  | succ k ih => unfold own; rw [List.length_append, ih]; rfl
theorem own_mem {s : Nat → Nat → Nat} {f k x : Nat} : x ∈ own s f k ↔ ∃ i, i < k ∧ x = 6 * f + i := by
  induction k with
  | zero =>
    constructor
    · intro h; exact absurd h List.not_mem_nil
    · rintro ⟨i, hi, _⟩; omega
  | succ k ih =>
    unfold own
    rw [List.mem_append, ih, List.mem_singleton]
    constructor
    · rintro (⟨i, hi, e⟩ | e)
      · exact ⟨i, by omega, e⟩
      · exact ⟨k, by omega, e⟩
    · rintro ⟨i, hi, e⟩
      by_cases q : i = k
      · exact .inr (by rw [e, q])
      · exact .inl ⟨i, by omega, e⟩
theorem own_nd (s : Nat → Nat → Nat) (f k : Nat) : nd (own s f k) := by
  induction k with
  | zero => exact trivial
  | succ k ih =>
    unfold own
    refine nd_app ih (fun w => ?_)
    obtain ⟨i, hi, e⟩ := own_mem.mp w
    omega
def hid (s : Nat → Nat → Nat) (f x : Nat) : Bool := anyb (fun j => sg s (6 * f + j) x) (s 12 f)
def inh1 (s : Nat → Nat → Nat) (f : Nat) (acc : List Nat) (x : Nat) : List Nat := if hid s f x || decide (x ∈ acc) then acc else acc ++ [x]
def inhL (s : Nat → Nat → Nat) (f : Nat) (acc l : List Nat) : Nat → List Nat
  | 0 => acc
  | k + 1 => inh1 s f (inhL s f acc l k) (l.getD k 0)
def inh (s : Nat → Nat → Nat) (f : Nat) (T : Nat → List Nat) : Nat → List Nat
  | 0 => own s f (s 12 f)
  | p + 1 => inhL s f (inh s f T p) (T (s 10 (2 * f + p))) (T (s 10 (2 * f + p))).length
def tab (s : Nat → Nat → Nat) : Nat → Nat → List Nat
  | 0, _ => []
  | f + 1, g => if g = f then inh s f (tab s f) (s 11 f) else tab s f g
def lst (s : Nat → Nat → Nat) (f : Nat) : List Nat := tab s (f + 1) f
theorem tab_lst (s : Nat → Nat → Nat) : ∀ n f, f < n → tab s n f = lst s f := by
  intro n
  induction n with
  | zero => intro f h; omega
  | succ n ih =>
    intro f h
    by_cases e : f = n
    · subst e; rfl
    · show (if f = n then _ else tab s n f) = _
      rw [if_neg e]; exact ih f (by omega)
theorem inh_congr {s : Nat → Nat → Nat} (b : BI s) {f : Nat} {T U : Nat → List Nat} (h : ∀ g, g < f → T g = U g) : ∀ p, p ≤ s 11 f → inh s f T p = inh s f U p := by
  intro p
  induction p with
  | zero => intro _; rfl
  | succ p ih =>
    intro hp
    unfold inh
    rw [ih (by omega), h _ (b.parentF f p (by omega))]
theorem lst_eq {s : Nat → Nat → Nat} (b : BI s) (f : Nat) : lst s f = inh s f (lst s) (s 11 f) := by
  show (if f = f then _ else _) = _
  rw [if_pos rfl]
  exact inh_congr b (fun g hg => tab_lst s f g hg) _ (Nat.le_refl _)
def vm (s : Nat → Nat → Nat) (x : Nat) : Prop := x / 6 < s 5 0 ∧ x % 6 < s 12 (x / 6)
def gl (s : Nat → Nat → Nat) (l : List Nat) : Prop := nd l ∧ ∀ x, x ∈ l → vm s x
theorem gl_len {s : Nat → Nat → Nat} (b : BI s) {l : List Nat} (h : gl s l) : l.length ≤ 72 :=
  nd_len 72 l h.1 (fun x hx => by have := (h.2 x hx).1; have := b.faces; omega)
theorem gl_inh1 {s : Nat → Nat → Nat} {f : Nat} {acc : List Nat} {x : Nat} (h : gl s acc) (hx : vm s x) : gl s (inh1 s f acc x) := by
  unfold inh1
  by_cases q : (hid s f x || decide (x ∈ acc)) = true
  · rw [if_pos q]; exact h
  · rw [if_neg q]
    have : x ∉ acc := fun w => q (by simp [w])
    refine ⟨nd_app h.1 this, fun y hy => ?_⟩
    rw [List.mem_append, List.mem_singleton] at hy
    rcases hy with hy | hy
    · exact h.2 y hy
    · rw [hy]; exact hx
theorem gl_inhL {s : Nat → Nat → Nat} {f : Nat} {acc l : List Nat} (h : gl s acc) (g : gl s l) : ∀ k, k ≤ l.length → gl s (inhL s f acc l k) := by
  intro k
  induction k with
  | zero => intro _; exact h
  | succ k ih =>
    intro hk
    exact gl_inh1 (ih (by omega)) (g.2 _ (getD_mem (by omega)))
theorem gl_own {s : Nat → Nat → Nat} (b : BI s) {f : Nat} (hf : f < s 5 0) : ∀ k, k ≤ s 12 f → gl s (own s f k) := by
  intro k hk
  refine ⟨own_nd s f k, fun x hx => ?_⟩
  obtain ⟨i, hi, rfl⟩ := own_mem.mp hx
  have := b.ownN f
  unfold vm
  rw [show (6 * f + i) / 6 = f by omega, show (6 * f + i) % 6 = i by omega]
  omega
theorem gl_inh {s : Nat → Nat → Nat} (b : BI s) {f : Nat} (hf : f < s 5 0) {T : Nat → List Nat} (h : ∀ g, g < f → gl s (T g)) : ∀ p, p ≤ s 11 f → gl s (inh s f T p) := by
  intro p
  induction p with
  | zero => intro _; exact gl_own b hf _ (Nat.le_refl _)
  | succ p ih =>
    intro hp
    exact gl_inhL (ih (by omega)) (h _ (b.parentF f p (by omega))) _ (Nat.le_refl _)
theorem gl_lst {s : Nat → Nat → Nat} (b : BI s) : ∀ n f, f < n → f < s 5 0 → gl s (lst s f) := by
  intro n
  induction n with
  | zero => intro f h; omega
  | succ n ih =>
    intro f hf hf2
    rw [lst_eq b]
    exact gl_inh b hf2 (fun g hg => ih g (by omega) (by omega)) _ (Nat.le_refl _)
theorem anyb_s (p : Nat → Bool) (k : Nat) : anyb p (k + 1) = (anyb p k || p k) := by
  apply Bool.eq_iff_iff.mpr
  rw [Bool.or_eq_true, anyb_iff, anyb_iff]
  constructor
  · rintro ⟨j, hj, hp⟩
    by_cases e : j = k
    · subst e; exact .inr hp
    · exact .inl ⟨j, by omega, hp⟩
  · rintro (⟨j, hj, hp⟩ | hp)
    · exact ⟨j, by omega, hp⟩
    · exact ⟨k, by omega, hp⟩
theorem anyb_0 (p : Nat → Bool) : anyb p 0 = false := rfl
theorem anyb_mem (l : List Nat) (x : Nat) : anyb (fun j => decide (l.getD j 0 = x)) l.length = decide (x ∈ l) := by
  apply Bool.eq_iff_iff.mpr
  rw [anyb_iff, decide_eq_true_iff]
  constructor
  · rintro ⟨j, hj, hp⟩
    have := getD_mem hj
    rw [of_decide_eq_true hp] at this
    exact this
  · intro h
    obtain ⟨i, hi, e⟩ := mem_getD h
    exact ⟨i, hi, decide_eq_true e⟩
theorem ri_ch {P : Nat → Nat → Prop} {S : gS} {d e : gD} {m : Nat} {s : Nat → Nat → Nat} (h : RI S d m s) (g : Ch P d e) (n : ∀ a j, P a j → (a = m ∧ j ≠ 1 ∧ j ≠ 3 ∧ j ≠ 5 ∧ j ≠ 18 ∧ j ≠ 21 ∧ j ≠ 28) ∨ a < m ∨ m + 23 ≤ a ∨ a = m + 16 ∨ a = m + 21) : RI S e m s := by
  have k : ∀ a j, ¬ ((a = m ∧ j ≠ 1 ∧ j ≠ 3 ∧ j ≠ 5 ∧ j ≠ 18 ∧ j ≠ 21 ∧ j ≠ 28) ∨ a < m ∨ m + 23 ≤ a ∨ a = m + 16 ∨ a = m + 21) → dI e a j = dI d a j := fun a j q => g.2 a j (fun p => q (n a j p))
  refine ⟨h.1, (by rw [k _ _ (by omega)]; exact ri_1 h), (by rw [k _ _ (by omega)]; exact ri_3 h), (by rw [k _ _ (by omega)]; exact ri_5 h), (by rw [k _ _ (by omega)]; exact ri_18 h), (by rw [k _ _ (by omega)]; exact ri_21 h), (by rw [k _ _ (by omega)]; exact ri_28 h), (fun i hi => by rw [k _ _ (by omega)]; exact ri_2 h hi), (fun i hi => by rw [k _ _ (by omega)]; exact ri_4 h hi), (fun i hi => by rw [k _ _ (by omega)]; exact ri_6 h hi), (fun i hi => by rw [k _ _ (by omega)]; exact ri_7 h hi), (fun i hi => by rw [k _ _ (by omega)]; exact ri_8 h hi), (fun i hi => by rw [k _ _ (by omega)]; exact ri_9 h hi), (fun i hi => by rw [k _ _ (by omega)]; exact ri_10 h hi), (fun i hi => by rw [k _ _ (by omega)]; exact ri_11 h hi), (fun i hi => by rw [k _ _ (by omega)]; exact ri_12 h hi), (fun i hi => by rw [k _ _ (by omega)]; exact ri_13 h hi), (fun i hi => by rw [k _ _ (by omega)]; exact ri_14 h hi), (fun i hi => by rw [k _ _ (by omega)]; exact ri_15 h hi), (fun i hi => by rw [k _ _ (by omega)]; exact ri_16 h hi), (fun i hi => by rw [k _ _ (by omega)]; exact ri_17 h hi), (fun i hi => by rw [k _ _ (by omega)]; exact ri_19 h hi), (fun i hi => by rw [k _ _ (by omega)]; exact ri_22 h hi), (fun i hi => by rw [k _ _ (by omega)]; exact ri_23 h hi), (fun i hi => by rw [k _ _ (by omega)]; exact ri_24 h hi), (fun i hi => by rw [k _ _ (by omega)]; exact ri_25 h hi), (fun i hi => by rw [k _ _ (by omega)]; exact ri_27 h hi)⟩
