abbrev hT : Type := (Nat → Nat) × (Nat → Nat) × (Nat → Nat → Option Nat)
abbrev eT : Type := (Nat → Nat → Int32) × (Nat → Nat → Int64)
def h0 : hT := (fun _ => 0, fun _ => 0, fun _ _ => none)
def e0 : eT := (fun _ _ => 0, fun _ _ => 0)
def hN (H : hT) (n κ m : Nat) : hT := (fun o => if o = n then κ else H.1 o, fun o => if o = n then m else H.2.1 o, fun o j => if o = n then none else H.2.2 o j)
def hW (H : hT) (o j t : Nat) : hT := (H.1, H.2.1, fun o' j' => if o' = o ∧ j' = j then some t else H.2.2 o' j')
def eN (E : eT) (n : Nat) : eT := (fun o j => if o = n then 0 else E.1 o j, fun o j => if o = n then 0 else E.2 o j)
def eI (E : eT) (o j : Nat) (v : Int32) : eT := (fun o' j' => if o' = o ∧ j' = j then v else E.1 o' j', E.2)
def eL (E : eT) (o j : Nat) (v : Int64) : eT := (E.1, fun o' j' => if o' = o ∧ j' = j then v else E.2 o' j')
def eR (E : eT) (o lo k : Nat) (g : Nat → Int64) : eT := (E.1, fun o' j' => if o' = o ∧ lo ≤ j' ∧ j' < k then g j' else E.2 o' j')
def eQ (E : eT) (o k : Nat) (v : Int32) : eT := (fun o' j' => if o' = o ∧ j' < k then v else E.1 o' j', E.2)
def tS (x n : Nat) (H : hT) : gS := (fun a => if x ≤ a then H.1 (a - x) else 0, fun a => if x ≤ a then H.2.1 (a - x) else 0, fun a j => if x ≤ a then (H.2.2 (a - x) j).map (x + ·) else none, x + n)
def tD (x : Nat) (E : eT) : gD := (fun a j => if x ≤ a then E.1 (a - x) j else 0, fun a j => if x ≤ a then E.2 (a - x) j else 0)
section ini
variable {x n o j κ m t k lo : Nat} {H : hT} {E : eT} {v : Int32} {w : Int64}
theorem sZ_t : sZ (tS x n H) = x + n := rfl
theorem sK_t : sK (tS x n H) (x + o) = H.1 o := by
  show (if x ≤ x + o then H.1 (x + o - x) else 0) = _
  rw [if_pos (by omega), Nat.add_sub_cancel_left]
theorem sN_t : sN (tS x n H) (x + o) = H.2.1 o := by
  show (if x ≤ x + o then H.2.1 (x + o - x) else 0) = _
  rw [if_pos (by omega), Nat.add_sub_cancel_left]
theorem sP_t : sP (tS x n H) (x + o) j = (H.2.2 o j).map (x + ·) := by
  show (if x ≤ x + o then (H.2.2 (x + o - x) j).map (x + ·) else none) = _
  rw [if_pos (by omega), Nat.add_sub_cancel_left]
theorem sP_tt (h : H.2.2 o j = some t) : sP (tS x n H) (x + o) j = some (x + t) := by rw [sP_t, h]; rfl
theorem dI_t : dI (tD x E) (x + o) j = E.1 o j := by
  show (if x ≤ x + o then E.1 (x + o - x) j else 0) = _
  rw [if_pos (by omega), Nat.add_sub_cancel_left]
theorem dL_t : dL (tD x E) (x + o) j = E.2 o j := by
  show (if x ≤ x + o then E.2 (x + o - x) j else 0) = _
  rw [if_pos (by omega), Nat.add_sub_cancel_left]
theorem nS_t : nS (tS x n H) κ m = tS x (n + 1) (hN H n κ m) := by
  unfold nS tS hN va_up
  refine Prod.ext ?_ (Prod.ext ?_ (Prod.ext ?_ ?_))
  · funext a
    simp only
    by_cases c : a = x + n
    · rw [if_pos c, if_pos (by omega), if_pos (by omega)]
    · rw [if_neg c]
      by_cases c2 : x ≤ a
      · rw [if_pos c2, if_pos c2, if_neg (by omega)]
      · rw [if_neg c2, if_neg c2]
  · funext a
    simp only
    by_cases c : a = x + n
    · rw [if_pos c, if_pos (by omega), if_pos (by omega)]
    · rw [if_neg c]
      by_cases c2 : x ≤ a
      · rw [if_pos c2, if_pos c2, if_neg (by omega)]
      · rw [if_neg c2, if_neg c2]
  · funext a j
    simp only
    by_cases c : a = x + n
    · rw [if_pos c, if_pos (by omega), if_pos (by omega)]; rfl
    · rw [if_neg c]
      by_cases c2 : x ≤ a
      · rw [if_pos c2, if_pos c2, if_neg (by omega)]
      · rw [if_neg c2, if_neg c2]
  · rfl
theorem wP_t : wP (tS x n H) (x + o) j (some (x + t)) = tS x n (hW H o j t) := by
  unfold wP tS hW up2
  refine Prod.ext rfl (Prod.ext rfl (Prod.ext ?_ rfl))
  funext a i
  simp only
  by_cases c2 : x ≤ a
  · rw [if_pos c2, if_pos c2]
    by_cases c : a = x + o ∧ i = j
    · rw [if_pos c, if_pos (by omega)]; rfl
    · rw [if_neg c, if_neg (by omega)]
  · rw [if_neg c2, if_neg c2, if_neg (by omega)]
theorem nD_t : nD (tS x n H) (tD x E) = tD x (eN E n) := by
  unfold nD tD eN va_up
  refine Prod.ext ?_ ?_
  · funext a i
    show (if a = x + n then (fun _ => 0) else fun j => if x ≤ a then E.1 (a - x) j else 0) i = if x ≤ a then (if a - x = n then 0 else E.1 (a - x) i) else 0
    by_cases c : a = x + n
    · rw [if_pos c, if_pos (by omega), if_pos (by omega)]
    · rw [if_neg c]
      by_cases c2 : x ≤ a
      · show (if x ≤ a then E.1 (a - x) i else 0) = _
        rw [if_pos c2, if_pos c2, if_neg (by omega)]
      · show (if x ≤ a then E.1 (a - x) i else 0) = _
        rw [if_neg c2, if_neg c2]
  · funext a i
    show (if a = x + n then (fun _ => 0) else fun j => if x ≤ a then E.2 (a - x) j else 0) i = if x ≤ a then (if a - x = n then 0 else E.2 (a - x) i) else 0
    by_cases c : a = x + n
    · rw [if_pos c, if_pos (by omega), if_pos (by omega)]
    · rw [if_neg c]
      by_cases c2 : x ≤ a
      · show (if x ≤ a then E.2 (a - x) i else 0) = _
        rw [if_pos c2, if_pos c2, if_neg (by omega)]
      · show (if x ≤ a then E.2 (a - x) i else 0) = _
        rw [if_neg c2, if_neg c2]
theorem wI_t : wI (tD x E) (x + o) j v = tD x (eI E o j v) := by
  unfold wI tD eI up2
  refine Prod.ext ?_ rfl
  funext a i
  simp only
  by_cases c2 : x ≤ a
  · rw [if_pos c2, if_pos c2]
    by_cases c : a = x + o ∧ i = j
    · rw [if_pos c, if_pos (by omega)]
    · rw [if_neg c, if_neg (by omega)]
  · rw [if_neg c2, if_neg c2, if_neg (by omega)]
theorem wL_t : wL (tD x E) (x + o) j w = tD x (eL E o j w) := by
  unfold wL tD eL up2
  refine Prod.ext rfl ?_
  funext a i
  simp only
  by_cases c2 : x ≤ a
  · rw [if_pos c2, if_pos c2]
    by_cases c : a = x + o ∧ i = j
    · rw [if_pos c, if_pos (by omega)]
    · rw [if_neg c, if_neg (by omega)]
  · rw [if_neg c2, if_neg c2, if_neg (by omega)]
theorem eR_s {g : Nat → Int64} (h : lo ≤ k) : eL (eR E o lo k g) o k (g k) = eR E o lo (k + 1) g := by
  unfold eL eR
  refine Prod.ext rfl ?_
  funext a i
  simp only
  by_cases c : a = o ∧ i = k
  · rw [if_pos c, if_pos (by omega), c.2]
  · rw [if_neg c]
    by_cases c2 : a = o ∧ lo ≤ i ∧ i < k
    · rw [if_pos c2, if_pos (by omega)]
    · rw [if_neg c2, if_neg (by omega)]
theorem eR_0 {g : Nat → Int64} : eR E o lo lo g = E := by
  unfold eR
  refine Prod.ext rfl ?_
  funext a i
  simp only
  rw [if_neg (by omega)]
theorem eQ_s : eI (eQ E o k v) o k v = eQ E o (k + 1) v := by
  unfold eI eQ
  refine Prod.ext ?_ rfl
  funext a i
  simp only
  by_cases c : a = o ∧ i = k
  · rw [if_pos c, if_pos (by omega)]
  · rw [if_neg c]
    by_cases c2 : a = o ∧ i < k
    · rw [if_pos c2, if_pos (by omega)]
    · rw [if_neg c2, if_neg (by omega)]
theorem eQ_0 : eQ E o 0 v = E := by
  unfold eQ
  refine Prod.ext ?_ rfl
  funext a i
  simp only
  rw [if_neg (by omega)]
theorem t_0 {z : Nat} : S0 z = tS z 0 h0 := by
  unfold S0 tS h0
  refine Prod.ext ?_ (Prod.ext ?_ (Prod.ext ?_ rfl))
  · funext a; simp only; split <;> rfl
  · funext a; simp only; split <;> rfl
  · funext a j; simp only; split <;> rfl
theorem t_d0 {z : Nat} : d0 = tD z e0 := by
  unfold d0 tD e0
  refine Prod.ext ?_ ?_
  · funext a j; simp only; split <;> rfl
  · funext a j; simp only; split <;> rfl
theorem kd_tt {α : Type} {r : Option α} (h : H.1 o = κ) : kd (tS x n H) (x + o) κ r = r := kd_t (sK_t.trans h)
theorem nl_l {α : Type} {r : Option α} (h : ¬ (v < 0 ∨ 67108864 < v.toNatClampNeg)) : nl v r = r := if_neg h
theorem gi_l {α : Type} {r : Option α} (h : ¬ (v < 0 ∨ n ≤ v.toNatClampNeg)) : gi v n r = r := if_neg h
theorem gi_t2 {α : Type} {r : Option α} (h : ¬ (v < 0 ∨ H.2.1 o ≤ v.toNatClampNeg)) : gi v (sN (tS x n H) (x + o)) r = r := by rw [sN_t]; exact gi_l h
end ini
