section st
variable {S S1 : gS} {d d1 : gD} {x : Nat} {s s' : Nat → Nat → Nat} {A A' : Nat → Nat → Nat} {hd : Nat → Int32} {U W : Nat → Prop} {D : List (Nat × List Nat)} {q : (Nat → Int64) × Int64 × (Nat → Int64) × (Nat → Int32)}
def P6 (x c : Nat) (W : Nat → Prop) (a j : Nat) : Prop := a = x + 10 ∨ (a = x + 8 ∧ j = c) ∨ (a = x + 9 ∧ j = 2) ∨ PUw x a j ∨ (a = x ∧ j = 10) ∨ ∃ u, W u ∧ PRw (u + 3) a j
def W6 (S : gS) (x : Nat) (s : Nat → Nat → Nat) (A : Nat → Nat → Nat) (W : Nat → Prop) : Prop := ∀ u, W u → SMs S u ∧ x + 64 < u ∧ ¬ TS s A u
theorem np6_s {c o j : Nat} (w : W6 S x s A W) (ho : o ≤ 64) (h0 : ¬ (o = 0 ∧ j = 10)) (h8 : ¬ (o = 8 ∧ j = c)) (h9 : ¬ (o = 9 ∧ j = 2)) (h10 : o ≠ 10) (h13 : ¬ (o = 13 ∧ (j = 1 ∨ j = 3 ∨ j = 5))) (h14 : ¬ (14 ≤ o ∧ o ≤ 16)) : ¬ P6 x c W (x + o) j := by
  rintro (p | p | p | p | p | ⟨u, hu, p⟩)
  · omega
  · omega
  · omega
  · unfold PUw at p; omega
  · omega
  · have := (w u hu).2.1
    unfold PRw at p; omega
theorem np6_h {c a j : Nat} (ha : x + 18 < a) (n : ∀ u, W u → ¬ PRw (u + 3) a j) : ¬ P6 x c W a j := by
  rintro (p | p | p | p | p | ⟨u, hu, p⟩)
  · omega
  · omega
  · omega
  · unfold PUw at p; omega
  · omega
  · exact n u hu p
theorem np6_k {c a j κ : Nat} (w : W6 S x s A W) (ha : x + 18 < a) (hk : sK S a = κ) (h2 : κ ≠ 2) (h50 : κ ≠ 50) : ¬ P6 x c W a j := by
  refine np6_h ha (fun u hu p => ?_)
  have k := sms_k (w u hu).1
  rcases p with ⟨p, _⟩ | p
  · rw [p, k.2.2.1] at hk; omega
  · rw [p, show u + 3 + 1 = u + 4 from rfl, k.2.2.2] at hk; omega
theorem np6_a {c a j κ : Nat} (w : W6 S x s A W) (ha : x + 18 < a) (hk : sK S a = κ) (hk1 : sK S (a + 1) = 50) (h2 : κ ≠ 2) : ¬ P6 x c W (a + 1) j := by
  refine np6_h (by omega) (fun u hu p => ?_)
  have k := sms_k (w u hu).1
  rcases p with ⟨p, _⟩ | p
  · rw [p, k.2.2.1] at hk1; cases hk1
  · rw [show a = u + 3 by omega, k.2.2.1] at hk; omega
theorem np6_r {c a j κ : Nat} (w : W6 S x s A W) (ha : x + 18 < a) (hk : sK S a = κ) (hk1 : sK S (a + 1) = 2) (hk2 : sK S (a + 2) = 50) (h2 : κ ≠ 50) : ¬ P6 x c W (a + 1) j ∧ ¬ P6 x c W (a + 2) j := by
  constructor
  · refine np6_h (by omega) (fun u hu p => ?_)
    have k := sms_k (w u hu).1
    rcases p with ⟨p, _⟩ | p
    · rw [show a = u + 2 by omega, k.2.1] at hk; omega
    · rw [p, show u + 3 + 1 = u + 4 from rfl, k.2.2.2] at hk1; cases hk1
  · refine np6_h (by omega) (fun u hu p => ?_)
    have k := sms_k (w u hu).1
    rcases p with ⟨p, _⟩ | p
    · rw [p, k.2.2.1] at hk2; cases hk2
    · rw [show a = u + 2 by omega, k.2.1] at hk; omega
theorem np6_t {c a j : Nat} (w : W6 S x s A W) (ha : x + 18 < a) (sa : SMs S a) (n : ¬ W a) : ¬ P6 x c W (a + 3) j ∧ ¬ P6 x c W (a + 4) j := by
  have ka := sms_k sa
  constructor
  · refine np6_h (by omega) (fun u hu p => ?_)
    have k := sms_k (w u hu).1
    rcases p with ⟨p, _⟩ | p
    · exact n (by rw [show a = u by omega]; exact hu)
    · have := ka.2.2.1
      rw [p, show u + 3 + 1 = u + 4 from rfl, k.2.2.2] at this; cases this
  · refine np6_h (by omega) (fun u hu p => ?_)
    have k := sms_k (w u hu).1
    rcases p with ⟨p, _⟩ | p
    · have := ka.2.2.2
      rw [p, k.2.2.1] at this; cases this
    · exact n (by rw [show a = u by omega]; exact hu)
theorem np6_v {c a : Nat} (w : W6 S x s A W) (ha : x + 18 < a) (sa : SMs S a) : ¬ P6 x c W (a + 3) 0 := by
  refine np6_h (by omega) (fun u hu p => ?_)
  have k := sms_k (w u hu).1
  have ka := sms_k sa
  rcases p with ⟨_, p⟩ | p
  · omega
  · have := ka.2.2.1
    rw [p, show u + 3 + 1 = u + 4 from rfl, k.2.2.2] at this; cases this
theorem g1_p6 {c : Nat} (h : G1 S d x s A hd) (w : W6 S x s A W) (hc : s 21 0 ≤ c) (g : Fm (P6 x c W) S d S1 d1) : CE S1 d1 x s A ∧ (dI d1 x 13 = 0 ∨ (dI d1 x 13 = 1 ∧ ∀ g, g < s 5 0 → AL S1 d1 A (A 0 g) (lst s g))) ∧ ∀ c', c' < s 21 0 → SIr S1 d1 x s A hd c' := by
  have hx := h.ce.hx
  have F := h.ce.F
  have hcs := h.ce.cs
  have e0 : ∀ j, j ≠ 10 → ¬ P6 x c W x j := fun j hj => np6_s (o := 0) w (by omega) (by omega) (by omega) (by omega) (by omega) (by omega) (by omega)
  refine ⟨⟨cs_fm g hcs hx (fun a j hs => ?_), Nat.lt_of_lt_of_le hx g.1, ⟨(fm_I g (by omega) (e0 _ (by omega))).trans F.1, fun f hf => ?_, F.2.2⟩, fun i hi => ?_, h.ce.M.2⟩, ?_, fun c' hc' => ?_⟩
  · rcases hs with ⟨rfl, p⟩ | ⟨rfl, p⟩ | ⟨rfl, p⟩ | ⟨rfl, p⟩ | ⟨rfl, p⟩ | rfl
    · exact e0 _ (by omega)
    all_goals exact np6_s w (by omega) (by omega) (by omega) (by omega) (by omega) (by omega) (by omega)
  · have c := F.2.1 f hf
    have clo := c.lo
    exact fc_fm g c hx (np6_s w (by omega) (by omega) (by omega) (by omega) (by omega) (by omega) (by omega)) (fun j hj => np6_k w (by omega) c.sh.k (by omega) (by omega)) (fun j => np6_a w (by omega) c.sh.k c.sh.k1 (by omega)) (fun j => np6_k w (by omega) c.sh.k2 (by omega) (by omega))
  · have o := h.ce.M.1 i hi
    have olo := o.lo
    have r := fun j => np6_r (c := c) (j := j) w (by omega) o.k o.rs.k o.rs.ak (by omega)
    exact om_fm g o (fun j => ⟨np6_k w (by omega) o.k (by omega) (by omega), (r j).1, (r j).2⟩)
  · have e13 : dI d1 x 13 = dI d x 13 := fm_I g (by omega) (e0 _ (by omega))
    rcases h.al with a | ⟨a1, a2⟩
    · exact .inl (e13.trans a)
    · refine .inr ⟨e13.trans a1, fun f hf => ?_⟩
      have c := F.2.1 f hf
      have clo := c.lo
      have chi := c.hi
      exact ⟨(fm_I g (by omega) (np6_k w (by omega) c.sh.k (by omega) (by omega))).trans (a2 f hf).1, fun i hi => (fm_P g (by omega) (np6_k w (by omega) c.sh.k3 (by omega) (by omega))).trans ((a2 f hf).2 i hi)⟩
  · have si := h.st2 c' hc'
    have slo := si.lo
    have sul := si.ul
    refine si_fm g si hx (np6_s w (by omega) (by omega) (by omega) (by omega) (by omega) (by omega) (by omega)) (fun j => np6_k w (by omega) si.k (by omega) (by omega)) (fun j => np6_k w (by omega) si.k1 (by omega) (by omega)) (fun i j hi => ?_) (fun j => np6_k w (by omega) si.k5 (by omega) (by omega))
    obtain ⟨m1, m2, m3, m4, -⟩ := si.me i hi
    have kk := sms_k m2
    have nW : ¬ W (A 3 (40 * c' + i)) := fun hw => (w _ hw).2.2 ⟨c', i, hc', hi, rfl⟩
    have r1 := np6_r (c := c) (j := j) w (by omega) m2.k kk.1 kk.2.1 (by omega)
    have r2 := np6_t (c := c) (j := j) w (by omega) m2 nW
    exact ⟨np6_k w (by omega) m2.k (by omega) (by omega), r1.1, r1.2, r2.1, r2.2⟩
theorem ce_cg (h : CE S d x s A) (h1 : ∀ k i, 5 ≤ k → k ≤ 17 → s' k i = s k i) (a0 : ∀ i, A' 0 i = A 0 i) (a1 : ∀ i, A' 1 i = A 1 i) : CE S d x s' A' := by
  have e5 := h1 5 0 (by omega) (by omega)
  have hvx : ∀ i, vx s' i ↔ vx s i := by
    intro i
    unfold vx
    rw [e5, h1 12 (i / 6) (by omega) (by omega)]
  have hpk : ∀ i, pkp s' i = pkp s i := by
    intro i
    unfold pkp
    rw [h1 15 _ (by omega) (by omega), h1 15 _ (by omega) (by omega), h1 15 _ (by omega) (by omega)]
  have hth : ∀ i, thr s' i = thr s i := by
    intro i
    have : ∀ k, thrK s' i k = thrK s i k := by
      intro k
      induction k with
      | zero => rfl
      | succ k ih => unfold thrK; rw [ih, h1 17 _ (by omega) (by omega)]
    unfold thr
    rw [this, h1 16 i (by omega) (by omega)]
  refine ⟨h.cs, h.hx, ⟨by rw [e5]; exact h.F.1, fun f hf => ?_, by rw [e5]; intro f g; rw [a0, a0]; exact h.F.2.2 f g⟩, fun i hi => ?_, fun k hk => by rw [a1]; exact h.M.2 k hk⟩
  · rw [e5] at hf
    have c := h.F.2.1 f hf
    exact ⟨by rw [a0]; exact c.p, by rw [a0]; exact c.lo, by rw [a0]; exact c.hi, by rw [a0]; exact c.sh, by rw [a0, h1 6 f (by omega) (by omega)]; exact c.g0, by rw [a0, h1 7 f (by omega) (by omega)]; exact c.g1, by rw [a0, h1 8 f (by omega) (by omega)]; exact c.g2, by rw [a0, h1 9 f (by omega) (by omega)]; exact c.g3, by rw [a0, h1 11 f (by omega) (by omega)]; exact c.g5, fun p hp => by rw [h1 11 f (by omega) (by omega)] at hp; rw [a0, h1 10 _ (by omega) (by omega)]; exact c.gp p hp, by rw [a0, h1 12 f (by omega) (by omega)]; exact c.g7, by rw [a0, h1 12 f (by omega) (by omega)]; intro j; rw [a1]; exact c.ow j⟩
  · have o := h.M.1 i ((hvx i).mp hi)
    rw [a1]
    exact ⟨o.k, o.p, o.rs, o.g0, o.g1, by rw [h1 13 i (by omega) (by omega)]; exact o.g2, by rw [hpk]; exact o.g3, by rw [h1 14 i (by omega) (by omega)]; exact o.g4, by rw [hth]; exact o.tr, o.hi, o.lo⟩
end st
