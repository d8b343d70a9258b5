def Fm (P : Nat → Nat → Prop) (S : gS) (d : gD) (S' : gS) (d' : gD) : Prop := sZ S ≤ sZ S' ∧ ∀ a, a < sZ S → sK S' a = sK S a ∧ sN S' a = sN S a ∧ ∀ j, ¬ P a j → sP S' a j = sP S a j ∧ dI d' a j = dI d a j ∧ dL d' a j = dL d a j
section fm
variable {P Q : Nat → Nat → Prop} {S S' S'' : gS} {d d' d'' : gD}
theorem fm_r : Fm P S d S d := ⟨Nat.le_refl _, fun _ _ => ⟨rfl, rfl, fun _ _ => ⟨rfl, rfl, rfl⟩⟩⟩
theorem fm_t (h : Fm P S d S' d') (g : Fm P S' d' S'' d'') : Fm P S d S'' d'' :=
  ⟨Nat.le_trans h.1 g.1, fun a ha => by
    have h1 := h.2 a ha
    have g1 := g.2 a (Nat.lt_of_lt_of_le ha h.1)
    exact ⟨g1.1.trans h1.1, g1.2.1.trans h1.2.1, fun j n => ⟨(g1.2.2 j n).1.trans (h1.2.2 j n).1, (g1.2.2 j n).2.1.trans (h1.2.2 j n).2.1, (g1.2.2 j n).2.2.trans (h1.2.2 j n).2.2⟩⟩⟩
theorem fm_m (h : Fm P S d S' d') (i : ∀ a j, a < sZ S → P a j → Q a j) : Fm Q S d S' d' :=
  ⟨h.1, fun a ha => ⟨(h.2 a ha).1, (h.2 a ha).2.1, fun j n => (h.2 a ha).2.2 j (fun p => n (i a j ha p))⟩⟩
theorem fm_K (h : Fm P S d S' d') {a : Nat} (ha : a < sZ S) : sK S' a = sK S a := (h.2 a ha).1
theorem fm_N (h : Fm P S d S' d') {a : Nat} (ha : a < sZ S) : sN S' a = sN S a := (h.2 a ha).2.1
theorem fm_P (h : Fm P S d S' d') {a j : Nat} (ha : a < sZ S) (n : ¬ P a j) : sP S' a j = sP S a j := ((h.2 a ha).2.2 j n).1
theorem fm_I (h : Fm P S d S' d') {a j : Nat} (ha : a < sZ S) (n : ¬ P a j) : dI d' a j = dI d a j := ((h.2 a ha).2.2 j n).2.1
theorem fm_L (h : Fm P S d S' d') {a j : Nat} (ha : a < sZ S) (n : ¬ P a j) : dL d' a j = dL d a j := ((h.2 a ha).2.2 j n).2.2
theorem fm_ch (h : Ch P d d') : Fm P S d S d' := ⟨Nat.le_refl _, fun a _ => ⟨rfl, rfl, fun j n => ⟨rfl, h.2 a j n, h.1 a j⟩⟩⟩
theorem fm_wI {a k : Nat} {v : Int32} (h : P a k) : Fm P S d S (wI d a k v) := fm_ch (ch_w h)
theorem fm_wL {a k : Nat} {v : Int64} (h : P a k) : Fm P S d S (wL d a k v) := ⟨Nat.le_refl _, fun b _ => ⟨rfl, rfl, fun j n => ⟨rfl, rfl, by rw [dL_wL, if_neg]; rintro ⟨rfl, rfl⟩; exact n h⟩⟩⟩
theorem fm_wP {a k : Nat} {v : Option Nat} (h : P a k) : Fm P S d (wP S a k v) d := ⟨Nat.le_refl _, fun b _ => ⟨rfl, rfl, fun j n => ⟨by rw [sP_wP, if_neg]; rintro ⟨rfl, rfl⟩; exact n h, rfl, rfl⟩⟩⟩
theorem fm_nS {κ n : Nat} : Fm P S d (nS S κ n) (nD S d) := ⟨by rw [sZ_nS]; omega, fun b hb => ⟨by rw [sK_nS, if_neg (by omega)], by rw [sN_nS, if_neg (by omega)], fun j n => ⟨by rw [sP_nS, if_neg (by omega)], by rw [dI_nD, if_neg (by omega)], by rw [dL_nD, if_neg (by omega)]⟩⟩⟩
theorem row_fm (h : Fm P S d S' d') {a o : Nat} {l : List Nat} (hr : Row d a o l) (ha : a < sZ S) (n : ∀ i, i < l.length → ¬ P a (o + i)) : Row d' a o l := fun i hi => (fm_I h ha (n i hi)).trans (hr i hi)
theorem rws_fm (h : Fm P S d S' d') {r n : Nat} (hr : RWs S r n) (ha : r + 1 < sZ S) (np : ¬ P r 0) : RWs S' r n :=
  ⟨(fm_K h (by omega)).trans hr.k, (fm_P h (by omega) np).trans hr.p, (fm_K h (by omega)).trans hr.ak, (fm_N h (by omega)).trans hr.an⟩
theorem rwd_fm (h : Fm P S d S' d') {r : Nat} {l : List Nat} (hr : RWd d r l) (ha : r + 1 < sZ S) (n1 : ¬ P r 1) (n2 : ∀ i, ¬ P (r + 1) i) : RWd d' r l :=
  ⟨(fm_I h (by omega) n1).trans hr.1, row_fm h hr.2 ha (fun i _ => n2 _)⟩
theorem ac_0 {α : Type} {r : Option (α × Nat × Nat)} : ac 0 0 r = r := by
  cases r with
  | none => rfl
  | some p => rfl
theorem ac_ac {α : Type} {a b a' b' : Nat} {r : Option (α × Nat × Nat)} : ac a b (ac a' b' r) = ac (a + a') (b + b') r := by
  cases r with
  | none => rfl
  | some p =>
    obtain ⟨v, n, m⟩ := p
    show some (v, n + a' + a, m + b' + b) = some (v, n + (a + a'), m + (b + b'))
    rw [show n + a' + a = n + (a + a') by omega, show m + b' + b = m + (b + b') by omega]
end fm
def stc (x a j : Nat) : Prop := (a = x ∧ (j = 0 ∨ j = 1 ∨ j = 3 ∨ j = 5 ∨ j = 6 ∨ j = 8 ∨ j = 9 ∨ j = 11 ∨ j = 12 ∨ j = 16 ∨ j = 17)) ∨ (a = x + 1 ∧ j = 0) ∨ (a = x + 9 ∧ (j = 0 ∨ j = 1 ∨ j = 3)) ∨ (a = x + 11 ∧ j = 0) ∨ (a = x + 13 ∧ (j = 0 ∨ j = 2 ∨ j = 4)) ∨ a = x + 7
theorem cs_fm {P : Nat → Nat → Prop} {S S' : gS} {d d' : gD} {x : Nat} (h : Fm P S d S' d') (c : CS S x) (hx : x + 64 < sZ S) (n : ∀ a j, stc x a j → ¬ P a j) : CS S' x := by
  have K : ∀ o, o < 30 → sK S' (x + o) = sK S (x + o) := fun o ho => fm_K h (by omega)
  have N : ∀ o, o < 30 → sN S' (x + o) = sN S (x + o) := fun o ho => fm_N h (by omega)
  have Q : ∀ o j, o < 30 → stc x (x + o) j → sP S' (x + o) j = sP S (x + o) j := fun o j ho hs => fm_P h (by omega) (n _ _ hs)
  have K0 := K 0 (by omega)
  have Q0 : ∀ j, stc x x j → sP S' x j = sP S x j := fun j hs => fm_P h (by omega) (n _ _ hs)
  rw [Nat.add_zero] at K0
  unfold CS at c ⊢
  rw [K0, K 1 (by omega), K 2 (by omega), N 2 (by omega), K 3 (by omega), N 3 (by omega), K 4 (by omega), N 4 (by omega), K 5 (by omega), N 5 (by omega), K 6 (by omega), N 6 (by omega), K 7 (by omega), N 7 (by omega), K 8 (by omega), N 8 (by omega), K 9 (by omega), K 10 (by omega), N 10 (by omega), K 11 (by omega), K 12 (by omega), N 12 (by omega), K 13 (by omega), K 14 (by omega), N 14 (by omega), K 15 (by omega), N 15 (by omega), K 16 (by omega), N 16 (by omega), K 17 (by omega), N 17 (by omega), K 18 (by omega), N 18 (by omega),
    Q0 0 (by unfold stc; omega), Q0 1 (by unfold stc; omega), Q0 3 (by unfold stc; omega), Q0 5 (by unfold stc; omega), Q0 6 (by unfold stc; omega), Q0 8 (by unfold stc; omega), Q0 9 (by unfold stc; omega), Q0 11 (by unfold stc; omega), Q0 12 (by unfold stc; omega), Q0 16 (by unfold stc; omega), Q0 17 (by unfold stc; omega),
    Q 1 0 (by omega) (by unfold stc; omega), Q 9 0 (by omega) (by unfold stc; omega), Q 9 1 (by omega) (by unfold stc; omega), Q 9 3 (by omega) (by unfold stc; omega), Q 11 0 (by omega) (by unfold stc; omega), Q 13 0 (by omega) (by unfold stc; omega), Q 13 2 (by omega) (by unfold stc; omega), Q 13 4 (by omega) (by unfold stc; omega), Q 7 0 (by omega) (by unfold stc; omega), Q 7 1 (by omega) (by unfold stc; omega), Q 7 2 (by omega) (by unfold stc; omega)]
  exact c
theorem ct_fm {P : Nat → Nat → Prop} {S S' : gS} {d d' : gD} {x : Nat} {s : Nat → Nat → Nat} (h : Fm P S d S' d') (t : CT d x s) (hx : x + 64 < sZ S) (n1 : ¬ P (x + 1) 1) (n2 : ∀ j, ¬ P (x + 2) j) : CT d' x s :=
  ⟨(fm_I h (by omega) n1).trans t.1, fun a c ha hc => by rw [fm_L h (by omega) (n2 _)]; exact t.2 a c ha hc⟩
theorem cl_fm {P : Nat → Nat → Prop} {S S' : gS} {d d' : gD} {x : Nat} {s : Nat → Nat → Nat} (h : Fm P S d S' d') (t : CL d x s) (hx : x + 64 < sZ S) (n1 : ¬ P x 2) (n2 : ∀ j, ¬ P (x + 3) j) : CL d' x s :=
  ⟨(fm_I h (by omega) n1).trans t.1, (fm_I h (by omega) (n2 _)).trans t.2.1, fun i h0 hi => (fm_I h (by omega) (n2 _)).trans (t.2.2 i h0 hi)⟩
def pkp (s : Nat → Nat → Nat) (i : Nat) : Int32 := nI (s 15 (3 * i) + 256 * s 15 (3 * i + 1) + 65536 * s 15 (3 * i + 2))
def OM (S : gS) (d : gD) (x : Nat) (s : Nat → Nat → Nat) (w : Nat) (i : Nat) : Prop := (sK S w = 5) ∧ (sP S w 5 = some (w + 1)) ∧ (RWs S (w + 1) 3) ∧ (dI d w 0 = nI (ow i)) ∧ (dI d w 1 = nI (nu i)) ∧ (dI d w 2 = nI (s 13 i)) ∧ (dI d w 3 = pkp s i) ∧ (dI d w 4 = nI (s 14 i)) ∧ (RWd d (w + 1) (thr s i)) ∧ (w + 2 < sZ S) ∧ (x + 64 < w ∨ (x + 18 < w ∧ w + 2 < x + 28))
theorem OM.k {S : gS} {d : gD} {x : Nat} {s : Nat → Nat → Nat} {w : Nat} {i : Nat} (h : OM S d x s w i) : sK S w = 5 := h.1
theorem OM.p {S : gS} {d : gD} {x : Nat} {s : Nat → Nat → Nat} {w : Nat} {i : Nat} (h : OM S d x s w i) : sP S w 5 = some (w + 1) := h.2.1
theorem OM.rs {S : gS} {d : gD} {x : Nat} {s : Nat → Nat → Nat} {w : Nat} {i : Nat} (h : OM S d x s w i) : RWs S (w + 1) 3 := h.2.2.1
theorem OM.g0 {S : gS} {d : gD} {x : Nat} {s : Nat → Nat → Nat} {w : Nat} {i : Nat} (h : OM S d x s w i) : dI d w 0 = nI (ow i) := h.2.2.2.1
theorem OM.g1 {S : gS} {d : gD} {x : Nat} {s : Nat → Nat → Nat} {w : Nat} {i : Nat} (h : OM S d x s w i) : dI d w 1 = nI (nu i) := h.2.2.2.2.1
theorem OM.g2 {S : gS} {d : gD} {x : Nat} {s : Nat → Nat → Nat} {w : Nat} {i : Nat} (h : OM S d x s w i) : dI d w 2 = nI (s 13 i) := h.2.2.2.2.2.1
theorem OM.g3 {S : gS} {d : gD} {x : Nat} {s : Nat → Nat → Nat} {w : Nat} {i : Nat} (h : OM S d x s w i) : dI d w 3 = pkp s i := h.2.2.2.2.2.2.1
theorem OM.g4 {S : gS} {d : gD} {x : Nat} {s : Nat → Nat → Nat} {w : Nat} {i : Nat} (h : OM S d x s w i) : dI d w 4 = nI (s 14 i) := h.2.2.2.2.2.2.2.1
theorem OM.tr {S : gS} {d : gD} {x : Nat} {s : Nat → Nat → Nat} {w : Nat} {i : Nat} (h : OM S d x s w i) : RWd d (w + 1) (thr s i) := h.2.2.2.2.2.2.2.2.1
theorem OM.hi {S : gS} {d : gD} {x : Nat} {s : Nat → Nat → Nat} {w : Nat} {i : Nat} (h : OM S d x s w i) : w + 2 < sZ S := h.2.2.2.2.2.2.2.2.2.1
theorem OM.lo {S : gS} {d : gD} {x : Nat} {s : Nat → Nat → Nat} {w : Nat} {i : Nat} (h : OM S d x s w i) : x + 64 < w ∨ (x + 18 < w ∧ w + 2 < x + 28) := h.2.2.2.2.2.2.2.2.2.2
def CM (S : gS) (d : gD) (x : Nat) (s : Nat → Nat → Nat) (A : Nat → Nat → Nat) : Prop := (∀ i, vx s i → OM S d x s (A 1 i) i) ∧ ∀ k, k < 3 → A 1 (72 + k) = x + 19 + 3 * k
theorem om_fm {P : Nat → Nat → Prop} {S S' : gS} {d d' : gD} {x : Nat} {s : Nat → Nat → Nat} {w i : Nat} (h : Fm P S d S' d') (o : OM S d x s w i) (n : ∀ j, ¬ P w j ∧ ¬ P (w + 1) j ∧ ¬ P (w + 2) j) : OM S' d' x s w i := by
  have hh := o.hi
  have hI : ∀ j, dI d' w j = dI d w j := fun j => fm_I h (by omega) (n j).1
  exact ⟨(fm_K h (by omega)).trans o.k, (fm_P h (by omega) (n _).1).trans o.p, rws_fm h o.rs (by omega) (n _).2.1, (hI _).trans o.g0, (hI _).trans o.g1, (hI _).trans o.g2, (hI _).trans o.g3, (hI _).trans o.g4, rwd_fm h o.tr (by omega) (n _).2.1 (fun i => (n i).2.2), Nat.lt_of_lt_of_le hh h.1, o.lo⟩
theorem vx_vm {s : Nat → Nat → Nat} {i : Nat} (h : vm s i) : vx s i := .inl h
theorem id_inj {s : Nat → Nat → Nat} (b : BI s) {i j : Nat} (hi : vx s i) (hj : vx s j) (h1 : ow i = ow j) (h2 : nu i = nu j) : i = j := by
  have := vx_lt b hi
  have := vx_lt b hj
  unfold ow at h1
  unfold nu at h2
  by_cases q1 : i < 72
  · by_cases q2 : j < 72
    · rw [if_pos q1, if_pos q2] at h1 h2; omega
    · rw [if_pos q1, if_neg q2] at h1; omega
  · by_cases q2 : j < 72
    · rw [if_neg q1, if_pos q2] at h1; omega
    · rw [if_neg q1, if_neg q2] at h2; omega
theorem ow_lt {i : Nat} (h : i < 75) : ow i < 47 ∧ nu i < 6 := by unfold ow nu; constructor <;> split <;> omega
theorem pkp_lt {s : Nat → Nat → Nat} (b : BI s) {i : Nat} (h : vx s i) : s 15 (3 * i) < 47 ∧ s 15 (3 * i + 1) < 47 ∧ s 15 (3 * i + 2) < 47 := ⟨b.takeT i 0 h (by omega), b.takeT i 1 h (by omega), b.takeT i 2 h (by omega)⟩
theorem pkp_eq {s : Nat → Nat → Nat} (b : BI s) {i j : Nat} (hi : vx s i) (hj : vx s j) : (pkp s i = pkp s j) = (s 15 (3 * i) = s 15 (3 * j) ∧ s 15 (3 * i + 1) = s 15 (3 * j + 1) ∧ s 15 (3 * i + 2) = s 15 (3 * j + 2)) := by
  have h1 := pkp_lt b hi
  have h2 := pkp_lt b hj
  unfold pkp
  rw [ni_eq _ _ (by omega) (by omega)]
  apply propext
  constructor
  · intro h
    have e0 : s 15 (3 * i) = s 15 (3 * j) := by omega
    have e1 : s 15 (3 * i + 1) = s 15 (3 * j + 1) := by omega
    exact ⟨e0, e1, by omega⟩
  · rintro ⟨e0, e1, e2⟩; rw [e0, e1, e2]
theorem sg_pk {s : Nat → Nat → Nat} (b : BI s) {i j : Nat} (hi : vx s i) (hj : vx s j) : sg s i j = (decide (s 13 i = s 13 j) && decide (pkp s i = pkp s j)) := by
  unfold sg
  rw [Bool.eq_iff_iff]
  simp only [Bool.and_eq_true, decide_eq_true_iff, pkp_eq b hi hj]
section cls
variable {S : gS} {d : gD} {x : Nat} {s : Nat → Nat → Nat} {A : Nat → Nat → Nat}
theorem c_hasSig (b : BI s) {w1 w2 i j : Nat} (o1 : OM S d x s w1 i) (o2 : OM S d x s w2 j) (hi : vx s i) (hj : vx s j) : f_Om_hasSignatureOf S d w1 (some w2) = some (b2 (sg s i j)) := by
  have n1 := b.nameT i
  have n2 := b.nameT j
  simp (maxSteps := 1000000) (disch := omega) only [f_Om_hasSignatureOf, l0_e, l0_le, l0_ge, l0_lt, l0_gt, l1_m, l1_a, l1_b, l1_s, l1_e, l1_le, l1_ge, l1_lt, l1_gt, lt_t, nn_t, bd_t, bdD_t, bdP_t, nI_clamp, gi_n, nI_add, nI_1, pk_mul, b2_eq0, b2_01, nb_t, if_true, if_false, ni_le, ni_eq, ni_lt, kd_t o1.k, kd_t o2.k, o1.g2, o1.g3, o2.g2, o2.g3]
  rw [sg_pk b hi hj]
  by_cases q1 : s 13 i = s 13 j
  · by_cases q2 : pkp s i = pkp s j
    · rw [if_pos q1, if_pos q2, decide_eq_true q1, decide_eq_true q2]; rfl
    · rw [if_pos q1, if_neg q2, decide_eq_true q1, decide_eq_false q2]; rfl
  · rw [if_neg q1, decide_eq_false q1]; rfl
theorem own_vx {f k : Nat} (hf : f < s 5 0) (hk : k < s 12 f) (h6 : s 12 f ≤ 6) : vx s (6 * f + k) := .inl ⟨by rw [show (6 * f + k) / 6 = f by omega]; exact hf, by rw [show (6 * f + k) / 6 = f by omega, show (6 * f + k) % 6 = k by omega]; exact hk⟩
def hasO (s : Nat → Nat → Nat) (f nm : Nat) (v : Int32) : Bool := anyb (fun j => decide (s 13 (6 * f + j) = nm) && decide (pkp s (6 * f + j) = v)) (s 12 f)
theorem c_hasOwn (b : BI s) {f : Nat} (hf : f < s 5 0) (fc : FC S d x s A f) (M : CM S d x s A) {nm : Nat} (hn : nm < 2 ^ 31) (v : Int32) : f_Fc_hasOwn S d (A 0 f) (nI nm) v = some (b2 (hasO s f nm v)) := by
  have h6 := b.ownN f
  have sh := fc.sh
  unfold f_Fc_hasOwn
  refine itr_f (B := f_Fc_hasOwn_B2 S d (A 0 f)) (fun k K => K (nI nm) v (nI k)) (fun j => decide (s 13 (6 * f + j) = nm) && decide (pkp s (6 * f + j) = v)) (s 12 f) _ (by omega) ?_ ?_ ?_
  · intro k hk hq K hK
    have o := M.1 _ (own_vx hf hk h6)
    have n1 := b.nameT (6 * f + k)
    simp (maxSteps := 1000000) (disch := omega) only [f_Fc_hasOwn_B2, f_Fc_hasOwn_J38, l0_e, l0_le, l0_ge, l0_lt, l0_gt, l1_m, l1_a, l1_b, l1_s, l1_e, l1_le, l1_ge, l1_lt, l1_gt, lt_t, nn_t, bd_t, bdD_t, bdP_t, nI_clamp, gi_n, nI_add, nI_1, pk_mul, b2_eq0, b2_01, nb_t, if_true, if_false, ni_le, ni_eq, ni_lt, kd_t sh.k, sh.p6, kd_t sh.k2, sh.n2, fc.g7, fc.ow k hk, kd_t o.k, o.g2, o.g3]
    rw [if_neg (by omega)]
    by_cases q1 : s 13 (6 * f + k) = nm
    · by_cases q2 : pkp s (6 * f + k) = v
      · simp [q1, q2] at hq
      · rw [if_pos q1, if_neg q2]; exact hK
    · rw [if_neg q1]; exact hK
  · intro k hk hq he K
    have o := M.1 _ (own_vx hf hk h6)
    have n1 := b.nameT (6 * f + k)
    simp (maxSteps := 1000000) (disch := omega) only [f_Fc_hasOwn_B2, f_Fc_hasOwn_J38, l0_e, l0_le, l0_ge, l0_lt, l0_gt, l1_m, l1_a, l1_b, l1_s, l1_e, l1_le, l1_ge, l1_lt, l1_gt, lt_t, nn_t, bd_t, bdD_t, bdP_t, nI_clamp, gi_n, nI_add, nI_1, pk_mul, b2_eq0, b2_01, nb_t, if_true, if_false, ni_le, ni_eq, ni_lt, kd_t sh.k, sh.p6, kd_t sh.k2, sh.n2, fc.g7, fc.ow k hk, kd_t o.k, o.g2, o.g3]
    simp only [Bool.and_eq_true, decide_eq_true_iff] at hq
    rw [if_neg (by omega), if_pos hq.1, if_pos hq.2]
    unfold hasO anyb; rw [he, decide_eq_true hk]; rfl
  · intro he K
    simp (maxSteps := 1000000) (disch := omega) only [f_Fc_hasOwn_B2, l0_e, l0_le, l0_ge, l0_lt, l0_gt, l1_m, l1_a, l1_b, l1_s, l1_e, l1_le, l1_ge, l1_lt, l1_gt, lt_t, nn_t, bd_t, bdD_t, bdP_t, nI_clamp, gi_n, nI_add, nI_1, pk_mul, b2_eq0, b2_01, nb_t, if_true, if_false, ni_le, ni_eq, ni_lt, kd_t sh.k, fc.g7]
    rw [if_pos (Nat.le_refl _)]
    unfold hasO anyb; rw [he]; simp; rfl
theorem hasO_hid (b : BI s) {f y : Nat} (hf : f < s 5 0) (hy : vx s y) : hasO s f (s 13 y) (pkp s y) = hid s f y := by
  have h6 := b.ownN f
  unfold hasO hid anyb
  rw [fst_congr (fun j hj => (sg_pk b (own_vx hf hj h6) hy).symm)]
def AL (S : gS) (d : gD) (A : Nat → Nat → Nat) (a : Nat) (acc : List Nat) : Prop := dI d a 9 = nI acc.length ∧ ∀ i, i < acc.length → sP S (a + 3) i = some (A 1 (acc.getD i 0))
def PG (a : Nat) (c j : Nat) : Prop := (c = a ∧ j = 9) ∨ c = a + 3
theorem c_gather (b : BI s) {f : Nat} (fc : FC S d x s A f) (M : CM S d x s A) {acc : List Nat} (hac : gl s acc) (al : AL S d A (A 0 f) acc) {y : Nat} (hy : vm s y) : ∃ S' d', f_Fc_gather S d (A 0 f) (some (A 1 y)) = some ((), S', d') ∧ Fm (PG (A 0 f)) S d S' d' ∧ AL S' d' A (A 0 f) (adL acc y) := by
  have sh := fc.sh
  have hl := gl_len b hac
  have oy := M.1 y (vx_vm hy)
  have hy75 := vx_lt b (vx_vm hy)
  have hoy := ow_lt hy75
  have stp : ∀ k, k < acc.length → ∀ K, f_Fc_gather_B2 (A 0 f) (f_Fc_gather_J49 (A 0 f)) K S d (some (A 1 y)) (nI k) = if acc.getD k 0 = y then some ((), S, d) else K S d (some (A 1 y)) (nI (k + 1)) := by
    intro k hk K
    have hv := hac.2 _ (getD_mem hk)
    have o := M.1 _ (vx_vm hv)
    have h75 := vx_lt b (vx_vm hv)
    have ho := ow_lt h75
    simp (maxSteps := 1000000) (disch := omega) only [f_Fc_gather_B2, f_Fc_gather_J43, l1_m, l1_a, l1_b, l1_s, l1_e, l1_le, l1_ge, l1_lt, l1_gt, lt_t, nn_t, bd_t, bdD_t, bdP_t, nI_clamp, gi_n, nI_add, nI_1, pk_mul, b2_eq0, b2_01, nb_t, if_true, if_false, ni_le, ni_eq, ni_lt, kd_t sh.k, sh.p8, kd_t sh.k3, sh.n3, al.1, al.2 k hk, kd_t o.k, kd_t oy.k, o.g0, o.g1, oy.g0, oy.g1]
    rw [if_neg (by omega)]
    by_cases q : acc.getD k 0 = y
    · rw [if_pos q, if_pos (by rw [q]), if_pos (by rw [q])]
    · rw [if_neg q]
      by_cases q1 : ow (acc.getD k 0) = ow y
      · rw [if_pos q1, if_neg (fun q2 => q (id_inj b (vx_vm hv) (vx_vm hy) q1 q2))]
      · rw [if_neg q1]
  by_cases q : y ∈ acc
  · refine ⟨S, d, ?_, fm_r, by unfold adL; rw [if_pos q]; exact al⟩
    unfold f_Fc_gather
    obtain ⟨j, hj, ej⟩ := mem_getD q
    refine itr_f (B := f_Fc_gather_B2 (A 0 f) (f_Fc_gather_J49 (A 0 f))) (fun k K => K S d (some (A 1 y)) (nI k)) (fun i => decide (acc.getD i 0 = y)) acc.length _ (by omega) ?_ ?_ ?_
    · intro k hk hp K hK
      rw [stp k hk, if_neg (by simpa using hp)]; exact hK
    · intro k hk hp he K
      rw [stp k hk, if_pos (by simpa using hp)]
    · intro he K
      have := fst_hit (fun i => decide (acc.getD i 0 = y)) acc.length j hj (by simpa using ej)
      omega
  · have hlt : acc.length < 72 := by
      have hg : gl s (acc ++ [y]) := ⟨nd_app hac.1 q, fun z hz => by
        rcases List.mem_append.mp hz with h | h
        · exact hac.2 z h
        · rw [List.mem_singleton.mp h]; exact hy⟩
      have := gl_len b hg
      rw [List.length_append, List.length_singleton] at this
      omega
    have e72 : Int32.ofNat 72 = nI 72 := rfl
    refine ⟨wP S (A 0 f + 3) acc.length (some (A 1 y)), wI d (A 0 f) 9 (nI (acc.length + 1)), ?_, fm_t (fm_wP (.inr rfl)) (fm_wI (.inl ⟨rfl, rfl⟩)), ?_⟩
    · unfold f_Fc_gather
      refine itr_0 (B := f_Fc_gather_B2 (A 0 f) (f_Fc_gather_J49 (A 0 f))) (fun k K => K S d (some (A 1 y)) (nI k)) _ acc.length (by omega) ?_ ?_
      · intro k hk K hK
        rw [stp k hk, if_neg (fun e : acc.getD k 0 = y => q (e ▸ getD_mem hk))]; exact hK
      · intro K
        simp (maxSteps := 1000000) (disch := omega) only [f_Fc_gather_B2, f_Fc_gather_J49, l1_m, l1_a, l1_b, l1_s, l1_e, l1_le, l1_ge, l1_lt, l1_gt, lt_t, nn_t, bd_t, bdD_t, bdP_t, nI_clamp, gi_n, nI_add, nI_1, pk_mul, b2_eq0, b2_01, nb_t, if_true, if_false, ni_le, ni_eq, ni_lt, kd_t sh.k, sh.p8, kd_t sh.k3, sh.n3, al.1, kd_t oy.k, e72]
        rw [if_pos (Nat.le_refl _), if_neg (by omega)]
    · unfold adL; rw [if_neg q]
      refine ⟨by rw [dI_wI, if_pos ⟨rfl, rfl⟩, List.length_append]; rfl, ?_⟩
      intro i hi
      rw [List.length_append, List.length_singleton] at hi
      rw [sP_wP, getD_app]
      by_cases c : i = acc.length
      · rw [if_pos ⟨rfl, c⟩, if_pos c]
      · rw [if_neg (fun e => c e.2), if_neg c]; exact al.2 i (by omega)
end cls
