def ub (x : Int32) (k : Nat) : Nat := x.toBitVec.toNat / 2 ^ (8 * k) % 256
theorem ub_lt (x : Int32) (k : Nat) : ub x k < 256 := Nat.mod_lt _ (by decide)
theorem bt_255 : ∀ i, i < 32 → bt 255 i = decide (i < 8) := by decide
theorem bt_nI {y i : Nat} (hy : y < 2 ^ 32) : bt (nI y) i = y.testBit i := by
  have e : (nI y).toBitVec.toNat = y := pk_tn hy
  show (nI y).toBitVec.toNat.testBit i = _
  rw [e]
theorem ub_bt {x : Int32} {k i : Nat} : (ub x k).testBit i = (decide (i < 8) && bt x (8 * k + i)) := by
  unfold ub
  rw [show (256 : Nat) = 2 ^ 8 from rfl, Nat.testBit_mod_two_pow, Nat.testBit_div_two_pow]
  have : bt x (8 * k + i) = x.toBitVec.toNat.testBit (8 * k + i) := rfl
  rw [this, Nat.add_comm]
theorem ub_s (x : Int32) {k : Nat} (hk : k < 4) : (x >>> (nI (8 * k) &&& 31)) &&& 255 = nI (ub x k) := by
  apply b_ext
  intro i hi
  rw [b_and, bt_255 i hi, bt_nI (by have := ub_lt x k; omega), ub_bt]
  by_cases q : i < 8
  · rw [b_sshr (8 * k) (by omega) x (by omega)]
    simp [q]
  · simp [q]
def ln (x : Int32) : Nat := fst (fun k => decide (ub x k = 0)) 4
theorem ln_le (x : Int32) : ln x ≤ 4 := fst_le _ _
def hitP (s : Nat → Nat → Nat) (fl : List (Nat × List Nat)) (x i : Nat) : Bool := sg s (fl.getD i df).1 x && decide (s 14 (fl.getD i df).1 = s 14 x)
noncomputable def tk (s : Nat → Nat → Nat) (fl : List (Nat × List Nat)) (x : Nat) : List (Nat × List Nat) :=
  if fst (hitP s fl x) fl.length < fl.length then fl.set (fst (hitP s fl x) fl.length) ((fl.getD (fst (hitP s fl x) fl.length) df).1, mg s (fl.getD (fst (hitP s fl x) fl.length) df).2 (thr s x)) else fl ++ [(x, thr s x)]
noncomputable def tkL (s : Nat → Nat → Nat) (fl : List (Nat × List Nat)) (l : List Nat) : Nat → List (Nat × List Nat)
  | 0 => fl
  | k + 1 => tk s (tkL s fl l k) (l.getD k 0)
def rts (s : Nat → Nat → Nat) : Nat → List (Nat × List Nat)
  | 0 => []
  | k + 1 => rts s k ++ [(72 + k, thr s (72 + k))]
noncomputable def dscK (s : Nat → Nat → Nat) (x : Int32) : Nat → List (Nat × List Nat)
  | 0 => rts s 3
  | k + 1 => tkL s (dscK s x k) (lst s (ub x k - 24)) (lst s (ub x k - 24)).length
noncomputable def dsc (s : Nat → Nat → Nat) (x : Int32) : List (Nat × List Nat) := dscK s x (ln x)
def okL (s : Nat → Nat → Nat) (x : Int32) : Prop := ∀ k, k < ln x → 24 ≤ ub x k ∧ ub x k < 24 + s 5 0
def ids (fl : List (Nat × List Nat)) : List Nat := fl.map Prod.fst
theorem ids_at {fl : List (Nat × List Nat)} {i : Nat} : (ids fl).getD i 0 = (fl.getD i df).1 := by
  unfold ids
  rw [List.getD_eq_getElem?_getD, List.getD_eq_getElem?_getD, List.getElem?_map]
  cases fl[i]? <;> rfl
theorem sg_r (s : Nat → Nat → Nat) (a : Nat) : sg s a a = true := by simp [sg]
theorem sg_sym {s : Nat → Nat → Nat} {a c : Nat} (h : sg s a c = true) : sg s c a = true := by
  simp only [sg, Bool.and_eq_true, decide_eq_true_iff] at h ⊢
  exact ⟨h.1.symm, h.2.1.symm, h.2.2.1.symm, h.2.2.2.symm⟩
theorem sg_tr {s : Nat → Nat → Nat} {a c e : Nat} (h : sg s a c = true) (g : sg s c e = true) : sg s a e = true := by
  simp only [sg, Bool.and_eq_true, decide_eq_true_iff] at h g ⊢
  exact ⟨h.1.trans g.1, h.2.1.trans g.2.1, h.2.2.1.trans g.2.2.1, h.2.2.2.trans g.2.2.2⟩
def GF (s : Nat → Nat → Nat) (fl : List (Nat × List Nat)) : Prop := nd (ids fl) ∧ gf fl ∧ ∀ i, i < fl.length → 72 ≤ (fl.getD i df).1 ∨ vm s (fl.getD i df).1
theorem GF_len {s : Nat → Nat → Nat} {fl : List (Nat × List Nat)} (h : GF s fl) : fl.length ≤ 75 := by
  have := nd_len 75 (ids fl) h.1 (fun x hx => by
    obtain ⟨i, hi, e⟩ := mem_getD hx
    rw [ids_at] at e
    rw [← e]
    unfold ids at hi
    rw [List.length_map] at hi
    exact (h.2.1 i hi).1)
  unfold ids at this
  rwa [List.length_map] at this
theorem GF_app {s : Nat → Nat → Nat} (b : BI s) {fl : List (Nat × List Nat)} (h : GF s fl) {x : Nat} (hx : x < 75) (hv : 72 ≤ x ∨ vm s x) (n : x ∉ ids fl) : GF s (fl ++ [(x, thr s x)]) := by
  refine ⟨?_, ?_, ?_⟩
  · unfold ids
    rw [List.map_append]
    exact nd_app h.1 n
  · intro i hi
    rw [List.length_append, List.length_singleton] at hi
    rw [getD_appF]
    by_cases q : i = fl.length
    · rw [if_pos q]; exact ⟨hx, cl_thr b x⟩
    · rw [if_neg q]; exact h.2.1 i (by omega)
  · intro i hi
    rw [List.length_append, List.length_singleton] at hi
    rw [getD_appF]
    by_cases q : i = fl.length
    · rw [if_pos q]; exact hv
    · rw [if_neg q]; exact h.2.2 i (by omega)
theorem ids_set {fl : List (Nat × List Nat)} {j : Nat} (hj : j < fl.length) {l : List Nat} : ids (fl.set j ((fl.getD j df).1, l)) = ids fl := by
  unfold ids
  apply List.ext_getElem?
  intro i
  rw [List.getElem?_map, List.getElem?_map, List.getElem?_set]
  by_cases q : j = i
  · subst q
    rw [if_pos rfl, if_pos hj, List.getD_eq_getElem?_getD, List.getElem?_eq_getElem hj]
    rfl
  · rw [if_neg q]
theorem GF_tk {s : Nat → Nat → Nat} (b : BI s) {fl : List (Nat × List Nat)} (h : GF s fl) {x : Nat} (hx : x < 75) (hv : 72 ≤ x ∨ vm s x) : GF s (tk s fl x) := by
  unfold tk
  by_cases q : fst (hitP s fl x) fl.length < fl.length
  · rw [if_pos q]
    refine ⟨by rw [ids_set q]; exact h.1, ?_, ?_⟩
    · intro i hi
      rw [List.length_set] at hi
      rw [getD_set q]
      by_cases e : i = fst (hitP s fl x) fl.length
      · rw [if_pos e]; exact ⟨(h.2.1 _ q).1, cl_mg (h.2.1 _ q).2 (cl_thr b x)⟩
      · rw [if_neg e]; exact h.2.1 i hi
    · intro i hi
      rw [List.length_set] at hi
      rw [getD_set q]
      by_cases e : i = fst (hitP s fl x) fl.length
      · rw [if_pos e]; exact h.2.2 _ q
      · rw [if_neg e]; exact h.2.2 i hi
  · rw [if_neg q]
    refine GF_app b h hx hv (fun w => q ?_)
    obtain ⟨i, hi, e⟩ := mem_getD w
    rw [ids_at] at e
    unfold ids at hi
    rw [List.length_map] at hi
    have : hitP s fl x i = true := by unfold hitP; rw [e, sg_r]; simp
    have := fst_hit (hitP s fl x) fl.length i hi this
    omega
theorem GF_tkL {s : Nat → Nat → Nat} (b : BI s) {fl : List (Nat × List Nat)} (h : GF s fl) {l : List Nat} (hl : gl s l) : ∀ k, k ≤ l.length → GF s (tkL s fl l k) := by
  intro k
  induction k with
  | zero => intro _; exact h
  | succ k ih =>
    intro hk
    have hv := hl.2 _ (getD_mem (l := l) (i := k) (by omega))
    have hF := b.faces
    exact GF_tk b (ih (by omega)) (by have := hv.1; omega) (.inr hv)
theorem rts_len (s : Nat → Nat → Nat) (k : Nat) : (rts s k).length = k := by
  induction k with
  | zero => rfl
  | succ k ih => unfold rts; rw [List.length_append, ih]; rfl
theorem GF_rts {s : Nat → Nat → Nat} (b : BI s) : ∀ k, k ≤ 3 → GF s (rts s k) ∧ ∀ y, y ∈ ids (rts s k) → y < 72 + k := by
  intro k
  induction k with
  | zero => intro _; exact ⟨⟨trivial, fun i hi => absurd hi (Nat.not_lt_zero _), fun i hi => absurd hi (Nat.not_lt_zero _)⟩, fun y hy => absurd hy List.not_mem_nil⟩
  | succ k ih =>
    intro hk
    have i := ih (by omega)
    refine ⟨GF_app b i.1 (by omega) (.inl (by omega)) (fun w => by have := i.2 _ w; omega), fun y hy => ?_⟩
    unfold ids rts at hy
    rw [List.map_append, List.mem_append] at hy
    rcases hy with hy | hy
    · have := i.2 y hy; omega
    · have : y = 72 + k := by simpa using hy
      omega
theorem GF_dscK {s : Nat → Nat → Nat} (b : BI s) {x : Int32} (ho : okL s x) : ∀ k, k ≤ ln x → GF s (dscK s x k) := by
  intro k
  induction k with
  | zero => intro _; exact (GF_rts b 3 (Nat.le_refl _)).1
  | succ k ih =>
    intro hk
    have := ho k (by omega)
    exact GF_tkL b (ih (by omega)) (gl_lst b _ _ (Nat.lt_succ_self _) (by omega)) _ (Nat.le_refl _)
