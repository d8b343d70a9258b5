def CS (S : gS) (x : Nat) : Prop := (sK S x = 1) ∧ (sP S x 0 = some (x + 1)) ∧ (sK S (x + 1) = 8) ∧ (sP S (x + 1) 0 = some (x + 2)) ∧ (sK S (x + 2) = 51) ∧ (sN S (x + 2) = 47) ∧ (sP S x 1 = some (x + 3)) ∧ (sK S (x + 3) = 50) ∧ (sN S (x + 3) = 4) ∧ (sP S x 3 = some (x + 4)) ∧ (sK S (x + 4) = 60) ∧ (sN S (x + 4) = 12) ∧ (sP S x 5 = some (x + 5)) ∧ (sK S (x + 5) = 50) ∧ (sN S (x + 5) = 32) ∧ (sP S x 6 = some (x + 6)) ∧ (sK S (x + 6) = 51) ∧ (sN S (x + 6) = 32) ∧ (sP S x 8 = some (x + 7)) ∧ (sK S (x + 7) = 61) ∧ (sN S (x + 7) = 3) ∧ (sP S x 9 = some (x + 8)) ∧ (sK S (x + 8) = 62) ∧ (sN S (x + 8) = 16) ∧ (sP S x 11 = some (x + 9)) ∧ (sK S (x + 9) = 3) ∧ (sP S (x + 9) 0 = some (x + 1)) ∧ (sP S (x + 9) 1 = some (x + 10)) ∧ (sK S (x + 10) = 63) ∧ (sN S (x + 10) = 75) ∧ (sP S (x + 9) 3 = some (x + 11)) ∧ (sK S (x + 11) = 2) ∧ (sP S (x + 11) 0 = some (x + 12)) ∧ (sK S (x + 12) = 50) ∧ (sN S (x + 12) = 16) ∧ (sP S x 12 = some (x + 13)) ∧ (sK S (x + 13) = 9) ∧ (sP S (x + 13) 0 = some (x + 14)) ∧ (sK S (x + 14) = 50) ∧ (sN S (x + 14) = 292) ∧ (sP S (x + 13) 2 = some (x + 15)) ∧ (sK S (x + 15) = 52) ∧ (sN S (x + 15) = 512) ∧ (sP S (x + 13) 4 = some (x + 16)) ∧ (sK S (x + 16) = 52) ∧ (sN S (x + 16) = 3200) ∧ (sP S x 16 = some (x + 17)) ∧ (sK S (x + 17) = 51) ∧ (sN S (x + 17) = 3) ∧ (sP S x 17 = some (x + 18)) ∧ (sK S (x + 18) = 51) ∧ (sN S (x + 18) = 9) ∧ (sP S (x + 7) 0 = some (x + 19)) ∧ (sP S (x + 7) 1 = some (x + 22)) ∧ (sP S (x + 7) 2 = some (x + 25))
theorem cs_K0 {S : gS} {x : Nat} (h : CS S x) : sK S x = 1 := h.1
theorem cs_P0_0 {S : gS} {x : Nat} (h : CS S x) : sP S x 0 = some (x + 1) := h.2.1
theorem cs_K1 {S : gS} {x : Nat} (h : CS S x) : sK S (x + 1) = 8 := h.2.2.1
theorem cs_P1_0 {S : gS} {x : Nat} (h : CS S x) : sP S (x + 1) 0 = some (x + 2) := h.2.2.2.1
theorem cs_K2 {S : gS} {x : Nat} (h : CS S x) : sK S (x + 2) = 51 := h.2.2.2.2.1
theorem cs_N2 {S : gS} {x : Nat} (h : CS S x) : sN S (x + 2) = 47 := h.2.2.2.2.2.1
theorem cs_P0_1 {S : gS} {x : Nat} (h : CS S x) : sP S x 1 = some (x + 3) := h.2.2.2.2.2.2.1
theorem cs_K3 {S : gS} {x : Nat} (h : CS S x) : sK S (x + 3) = 50 := h.2.2.2.2.2.2.2.1
theorem cs_N3 {S : gS} {x : Nat} (h : CS S x) : sN S (x + 3) = 4 := h.2.2.2.2.2.2.2.2.1
theorem cs_P0_3 {S : gS} {x : Nat} (h : CS S x) : sP S x 3 = some (x + 4) := h.2.2.2.2.2.2.2.2.2.1
theorem cs_K4 {S : gS} {x : Nat} (h : CS S x) : sK S (x + 4) = 60 := h.2.2.2.2.2.2.2.2.2.2.1
theorem cs_N4 {S : gS} {x : Nat} (h : CS S x) : sN S (x + 4) = 12 := h.2.2.2.2.2.2.2.2.2.2.2.1
theorem cs_P0_5 {S : gS} {x : Nat} (h : CS S x) : sP S x 5 = some (x + 5) := h.2.2.2.2.2.2.2.2.2.2.2.2.1
theorem cs_K5 {S : gS} {x : Nat} (h : CS S x) : sK S (x + 5) = 50 := h.2.2.2.2.2.2.2.2.2.2.2.2.2.1
theorem cs_N5 {S : gS} {x : Nat} (h : CS S x) : sN S (x + 5) = 32 := h.2.2.2.2.2.2.2.2.2.2.2.2.2.2.1
theorem cs_P0_6 {S : gS} {x : Nat} (h : CS S x) : sP S x 6 = some (x + 6) := h.2.2.2.2.2.2.2.2.2.2.2.2.2.2.2.1
theorem cs_K6 {S : gS} {x : Nat} (h : CS S x) : sK S (x + 6) = 51 := h.2.2.2.2.2.2.2.2.2.2.2.2.2.2.2.2.1
theorem cs_N6 {S : gS} {x : Nat} (h : CS S x) : sN S (x + 6) = 32 := h.2.2.2.2.2.2.2.2.2.2.2.2.2.2.2.2.2.1
theorem cs_P0_8 {S : gS} {x : Nat} (h : CS S x) : sP S x 8 = some (x + 7) := h.2.2.2.2.2.2.2.2.2.2.2.2.2.2.2.2.2.2.1
theorem cs_K7 {S : gS} {x : Nat} (h : CS S x) : sK S (x + 7) = 61 := h.2.2.2.2.2.2.2.2.2.2.2.2.2.2.2.2.2.2.2.1
theorem cs_N7 {S : gS} {x : Nat} (h : CS S x) : sN S (x + 7) = 3 := h.2.2.2.2.2.2.2.2.2.2.2.2.2.2.2.2.2.2.2.2.1
theorem cs_P0_9 {S : gS} {x : Nat} (h : CS S x) : sP S x 9 = some (x + 8) := h.2.2.2.2.2.2.2.2.2.2.2.2.2.2.2.2.2.2.2.2.2.1
theorem cs_K8 {S : gS} {x : Nat} (h : CS S x) : sK S (x + 8) = 62 := h.2.2.2.2.2.2.2.2.2.2.2.2.2.2.2.2.2.2.2.2.2.2.1
theorem cs_N8 {S : gS} {x : Nat} (h : CS S x) : sN S (x + 8) = 16 := h.2.2.2.2.2.2.2.2.2.2.2.2.2.2.2.2.2.2.2.2.2.2.2.1
theorem cs_P0_11 {S : gS} {x : Nat} (h : CS S x) : sP S x 11 = some (x + 9) := h.2.2.2.2.2.2.2.2.2.2.2.2.2.2.2.2.2.2.2.2.2.2.2.2.1
theorem cs_K9 {S : gS} {x : Nat} (h : CS S x) : sK S (x + 9) = 3 := h.2.2.2.2.2.2.2.2.2.2.2.2.2.2.2.2.2.2.2.2.2.2.2.2.2.1
theorem cs_P9_0 {S : gS} {x : Nat} (h : CS S x) : sP S (x + 9) 0 = some (x + 1) := h.2.2.2.2.2.2.2.2.2.2.2.2.2.2.2.2.2.2.2.2.2.2.2.2.2.2.1
theorem cs_P9_1 {S : gS} {x : Nat} (h : CS S x) : sP S (x + 9) 1 = some (x + 10) := h.2.2.2.2.2.2.2.2.2.2.2.2.2.2.2.2.2.2.2.2.2.2.2.2.2.2.2.1
theorem cs_K10 {S : gS} {x : Nat} (h : CS S x) : sK S (x + 10) = 63 := h.2.2.2.2.2.2.2.2.2.2.2.2.2.2.2.2.2.2.2.2.2.2.2.2.2.2.2.2.1
theorem cs_N10 {S : gS} {x : Nat} (h : CS S x) : sN S (x + 10) = 75 := h.2.2.2.2.2.2.2.2.2.2.2.2.2.2.2.2.2.2.2.2.2.2.2.2.2.2.2.2.2.1
theorem cs_P9_3 {S : gS} {x : Nat} (h : CS S x) : sP S (x + 9) 3 = some (x + 11) := h.2.2.2.2.2.2.2.2.2.2.2.2.2.2.2.2.2.2.2.2.2.2.2.2.2.2.2.2.2.2.1
theorem cs_K11 {S : gS} {x : Nat} (h : CS S x) : sK S (x + 11) = 2 := h.2.2.2.2.2.2.2.2.2.2.2.2.2.2.2.2.2.2.2.2.2.2.2.2.2.2.2.2.2.2.2.1
theorem cs_P11_0 {S : gS} {x : Nat} (h : CS S x) : sP S (x + 11) 0 = some (x + 12) := h.2.2.2.2.2.2.2.2.2.2.2.2.2.2.2.2.2.2.2.2.2.2.2.2.2.2.2.2.2.2.2.2.1
theorem cs_K12 {S : gS} {x : Nat} (h : CS S x) : sK S (x + 12) = 50 := h.2.2.2.2.2.2.2.2.2.2.2.2.2.2.2.2.2.2.2.2.2.2.2.2.2.2.2.2.2.2.2.2.2.1
theorem cs_N12 {S : gS} {x : Nat} (h : CS S x) : sN S (x + 12) = 16 := h.2.2.2.2.2.2.2.2.2.2.2.2.2.2.2.2.2.2.2.2.2.2.2.2.2.2.2.2.2.2.2.2.2.2.1
theorem cs_P0_12 {S : gS} {x : Nat} (h : CS S x) : sP S x 12 = some (x + 13) := h.2.2.2.2.2.2.2.2.2.2.2.2.2.2.2.2.2.2.2.2.2.2.2.2.2.2.2.2.2.2.2.2.2.2.2.1
theorem cs_K13 {S : gS} {x : Nat} (h : CS S x) : sK S (x + 13) = 9 := h.2.2.2.2.2.2.2.2.2.2.2.2.2.2.2.2.2.2.2.2.2.2.2.2.2.2.2.2.2.2.2.2.2.2.2.2.1
theorem cs_P13_0 {S : gS} {x : Nat} (h : CS S x) : sP S (x + 13) 0 = some (x + 14) := h.2.2.2.2.2.2.2.2.2.2.2.2.2.2.2.2.2.2.2.2.2.2.2.2.2.2.2.2.2.2.2.2.2.2.2.2.2.1
theorem cs_K14 {S : gS} {x : Nat} (h : CS S x) : sK S (x + 14) = 50 := h.2.2.2.2.2.2.2.2.2.2.2.2.2.2.2.2.2.2.2.2.2.2.2.2.2.2.2.2.2.2.2.2.2.2.2.2.2.2.1
theorem cs_N14 {S : gS} {x : Nat} (h : CS S x) : sN S (x + 14) = 292 := h.2.2.2.2.2.2.2.2.2.2.2.2.2.2.2.2.2.2.2.2.2.2.2.2.2.2.2.2.2.2.2.2.2.2.2.2.2.2.2.1
theorem cs_P13_2 {S : gS} {x : Nat} (h : CS S x) : sP S (x + 13) 2 = some (x + 15) := h.2.2.2.2.2.2.2.2.2.2.2.2.2.2.2.2.2.2.2.2.2.2.2.2.2.2.2.2.2.2.2.2.2.2.2.2.2.2.2.2.1
theorem cs_K15 {S : gS} {x : Nat} (h : CS S x) : sK S (x + 15) = 52 := h.2.2.2.2.2.2.2.2.2.2.2.2.2.2.2.2.2.2.2.2.2.2.2.2.2.2.2.2.2.2.2.2.2.2.2.2.2.2.2.2.2.1
theorem cs_N15 {S : gS} {x : Nat} (h : CS S x) : sN S (x + 15) = 512 := h.2.2.2.2.2.2.2.2.2.2.2.2.2.2.2.2.2.2.2.2.2.2.2.2.2.2.2.2.2.2.2.2.2.2.2.2.2.2.2.2.2.2.1
theorem cs_P13_4 {S : gS} {x : Nat} (h : CS S x) : sP S (x + 13) 4 = some (x + 16) := h.2.2.2.2.2.2.2.2.2.2.2.2.2.2.2.2.2.2.2.2.2.2.2.2.2.2.2.2.2.2.2.2.2.2.2.2.2.2.2.2.2.2.2.1
theorem cs_K16 {S : gS} {x : Nat} (h : CS S x) : sK S (x + 16) = 52 := h.2.2.2.2.2.2.2.2.2.2.2.2.2.2.2.2.2.2.2.2.2.2.2.2.2.2.2.2.2.2.2.2.2.2.2.2.2.2.2.2.2.2.2.2.1
theorem cs_N16 {S : gS} {x : Nat} (h : CS S x) : sN S (x + 16) = 3200 := h.2.2.2.2.2.2.2.2.2.2.2.2.2.2.2.2.2.2.2.2.2.2.2.2.2.2.2.2.2.2.2.2.2.2.2.2.2.2.2.2.2.2.2.2.2.1
theorem cs_P0_16 {S : gS} {x : Nat} (h : CS S x) : sP S x 16 = some (x + 17) := h.2.2.2.2.2.2.2.2.2.2.2.2.2.2.2.2.2.2.2.2.2.2.2.2.2.2.2.2.2.2.2.2.2.2.2.2.2.2.2.2.2.2.2.2.2.2.1
theorem cs_K17 {S : gS} {x : Nat} (h : CS S x) : sK S (x + 17) = 51 := h.2.2.2.2.2.2.2.2.2.2.2.2.2.2.2.2.2.2.2.2.2.2.2.2.2.2.2.2.2.2.2.2.2.2.2.2.2.2.2.2.2.2.2.2.2.2.2.1
theorem cs_N17 {S : gS} {x : Nat} (h : CS S x) : sN S (x + 17) = 3 := h.2.2.2.2.2.2.2.2.2.2.2.2.2.2.2.2.2.2.2.2.2.2.2.2.2.2.2.2.2.2.2.2.2.2.2.2.2.2.2.2.2.2.2.2.2.2.2.2.1
theorem cs_P0_17 {S : gS} {x : Nat} (h : CS S x) : sP S x 17 = some (x + 18) := h.2.2.2.2.2.2.2.2.2.2.2.2.2.2.2.2.2.2.2.2.2.2.2.2.2.2.2.2.2.2.2.2.2.2.2.2.2.2.2.2.2.2.2.2.2.2.2.2.2.1
theorem cs_K18 {S : gS} {x : Nat} (h : CS S x) : sK S (x + 18) = 51 := h.2.2.2.2.2.2.2.2.2.2.2.2.2.2.2.2.2.2.2.2.2.2.2.2.2.2.2.2.2.2.2.2.2.2.2.2.2.2.2.2.2.2.2.2.2.2.2.2.2.2.1
theorem cs_N18 {S : gS} {x : Nat} (h : CS S x) : sN S (x + 18) = 9 := h.2.2.2.2.2.2.2.2.2.2.2.2.2.2.2.2.2.2.2.2.2.2.2.2.2.2.2.2.2.2.2.2.2.2.2.2.2.2.2.2.2.2.2.2.2.2.2.2.2.2.2.1
theorem cs_P7_0 {S : gS} {x : Nat} (h : CS S x) : sP S (x + 7) 0 = some (x + 19) := h.2.2.2.2.2.2.2.2.2.2.2.2.2.2.2.2.2.2.2.2.2.2.2.2.2.2.2.2.2.2.2.2.2.2.2.2.2.2.2.2.2.2.2.2.2.2.2.2.2.2.2.2.1
theorem cs_P7_1 {S : gS} {x : Nat} (h : CS S x) : sP S (x + 7) 1 = some (x + 22) := h.2.2.2.2.2.2.2.2.2.2.2.2.2.2.2.2.2.2.2.2.2.2.2.2.2.2.2.2.2.2.2.2.2.2.2.2.2.2.2.2.2.2.2.2.2.2.2.2.2.2.2.2.2.1
theorem cs_P7_2 {S : gS} {x : Nat} (h : CS S x) : sP S (x + 7) 2 = some (x + 25) := h.2.2.2.2.2.2.2.2.2.2.2.2.2.2.2.2.2.2.2.2.2.2.2.2.2.2.2.2.2.2.2.2.2.2.2.2.2.2.2.2.2.2.2.2.2.2.2.2.2.2.2.2.2.2
theorem l263_m (a : Nat) : (263 : Int32) * nI a = nI (263 * a) := pk_mul 263 a
theorem l263_a (a : Nat) : nI a + 263 = nI (a + 263) := nI_add a 263
theorem l263_b (a : Nat) : (263 : Int32) + nI a = nI (263 + a) := nI_add 263 a
theorem l263_s (a : Nat) (h : 263 ≤ a) : nI a - 263 = nI (a - 263) := pk_sub h
theorem l263_e (a : Nat) (h : a < 2 ^ 31) : (nI a = 263) = (a = 263) := ni_eq a 263 h (by decide)
theorem l263_le (a : Nat) (h : a < 2 ^ 31) : (nI a ≤ 263) = (a ≤ 263) := ni_le a 263 h (by decide)
theorem l263_ge (a : Nat) (h : a < 2 ^ 31) : ((263 : Int32) ≤ nI a) = (263 ≤ a) := ni_le 263 a (by decide) h
theorem l263_lt (a : Nat) (h : a < 2 ^ 31) : (nI a < 263) = (a < 263) := ni_lt a 263 h (by decide)
theorem l263_gt (a : Nat) (h : a < 2 ^ 31) : ((263 : Int32) < nI a) = (263 < a) := ni_lt 263 a (by decide) h
def RWs (S : gS) (r : Nat) (n : Nat) : Prop := (sK S r = 2) ∧ (sP S r 0 = some (r + 1)) ∧ (sK S (r + 1) = 50) ∧ (sN S (r + 1) = n)
theorem RWs.k {S : gS} {r : Nat} {n : Nat} (h : RWs S r n) : sK S r = 2 := h.1
theorem RWs.p {S : gS} {r : Nat} {n : Nat} (h : RWs S r n) : sP S r 0 = some (r + 1) := h.2.1
theorem RWs.ak {S : gS} {r : Nat} {n : Nat} (h : RWs S r n) : sK S (r + 1) = 50 := h.2.2.1
theorem RWs.an {S : gS} {r : Nat} {n : Nat} (h : RWs S r n) : sN S (r + 1) = n := h.2.2.2
def RWd (d : gD) (r : Nat) (l : List Nat) : Prop := dI d r 1 = nI l.length ∧ Row d (r + 1) 0 l
def PRw (r : Nat) (a j : Nat) : Prop := (a = r ∧ j = 1) ∨ a = r + 1
theorem rwd_ch {P : Nat → Nat → Prop} {d e : gD} {r : Nat} {l : List Nat} (h : RWd d r l) (g : Ch P d e) (n1 : ¬ P r 1) (n2 : ∀ i, i < l.length → ¬ P (r + 1) i) : RWd e r l :=
  ⟨(g.2 _ _ n1).trans h.1, row_ch h.2 g (fun i hi => by rw [Nat.zero_add]; exact n2 i hi)⟩
def adL (l : List Nat) (t : Nat) : List Nat := if t ∈ l then l else l ++ [t]
section cls
variable {S : gS} {d : gD}
theorem c_within (v w : Int32) : f_M_isWithin S d v w = some (b2 (cIn 0 w v)) := by
  unfold f_M_isWithin; exact cIn_i
theorem c_has {r n : Nat} (h : RWs S r n) (hn : n ≤ 16) {l : List Nat} (hd : RWd d r l) (hl : l.length ≤ n) (hx : ∀ t, t ∈ l → t < 2 ^ 31) {t : Nat} (ht : t < 2 ^ 31) : f_Rw_has S d r (nI t) = some (b2 (decide (t ∈ l))) := by
  unfold f_Rw_has
  refine itr_f (B := f_Rw_has_B2 S d r) (fun k K => K (nI t) (nI k)) (fun j => decide (l.getD j 0 = t)) l.length _ (by omega) ?_ ?_ ?_
  · intro k hk hp K hK
    have hr := hd.2 k hk
    rw [Nat.zero_add] at hr
    have hg := hx _ (getD_mem hk)
    simp (maxSteps := 1000000) (disch := omega) only [f_Rw_has_B2, l0_e, l0_le, l0_ge, l0_lt, l0_gt, l1_m, l1_a, l1_b, l1_s, l1_e, l1_le, l1_ge, l1_lt, l1_gt, lt_t, nn_t, bd_t, bdD_t, bdP_t, nI_clamp, gi_n, nI_add, nI_1, pk_mul, b2_eq0, b2_01, nb_t, if_true, if_false, ni_le, ni_eq, ni_lt, kd_t h.k, kd_t h.ak, h.p, h.an, hd.1, hr]
    rw [if_neg (by omega), if_neg (by simpa using hp)]
    exact hK
  · intro k hk hp he K
    have hr := hd.2 k hk
    rw [Nat.zero_add] at hr
    have hg := hx _ (getD_mem hk)
    simp (maxSteps := 1000000) (disch := omega) only [f_Rw_has_B2, l0_e, l0_le, l0_ge, l0_lt, l0_gt, l1_m, l1_a, l1_b, l1_s, l1_e, l1_le, l1_ge, l1_lt, l1_gt, lt_t, nn_t, bd_t, bdD_t, bdP_t, nI_clamp, gi_n, nI_add, nI_1, pk_mul, b2_eq0, b2_01, nb_t, if_true, if_false, ni_le, ni_eq, ni_lt, kd_t h.k, kd_t h.ak, h.p, h.an, hd.1, hr]
    have e : l.getD k 0 = t := by simpa using hp
    rw [if_neg (by omega), if_pos e, decide_eq_true (e ▸ getD_mem hk)]; rfl
  · intro he K
    simp (maxSteps := 1000000) (disch := omega) only [f_Rw_has_B2, l0_e, l0_le, l0_ge, l0_lt, l0_gt, l1_m, l1_a, l1_b, l1_s, l1_e, l1_le, l1_ge, l1_lt, l1_gt, lt_t, nn_t, bd_t, bdD_t, bdP_t, nI_clamp, gi_n, nI_add, nI_1, pk_mul, b2_eq0, b2_01, nb_t, if_true, if_false, ni_le, ni_eq, ni_lt, kd_t h.k, hd.1]
    rw [if_pos (Nat.le_refl _), decide_eq_false]; · rfl
    intro hm
    obtain ⟨i, hi, e⟩ := mem_getD hm
    have := fst_hit (fun j => decide (l.getD j 0 = t)) l.length i hi (by simpa using e)
    omega
theorem c_add {r n : Nat} (h : RWs S r n) (hn : n ≤ 16) {l : List Nat} (hd : RWd d r l) (hl : l.length ≤ n) (hx : ∀ t, t ∈ l → t < 2 ^ 31) {t : Nat} (ht : t < 2 ^ 31) (hr : t ∉ l → l.length < n) : ∃ e, f_Rw_add S d r (nI t) = some ((), e) ∧ Ch (PRw r) d e ∧ RWd e r (adL l t) := by
  have hh := c_has h hn hd hl hx ht
  have en : Int32.ofNat n = nI n := rfl
  by_cases q : t ∈ l
  · refine ⟨d, ?_, ch_r, ?_⟩
    · simp (maxSteps := 1000000) (disch := omega) only [f_Rw_add, l0_e, l0_le, l0_ge, l0_lt, l0_gt, l1_m, l1_a, l1_b, l1_s, l1_e, l1_le, l1_ge, l1_lt, l1_gt, lt_t, nn_t, bd_t, bdD_t, bdP_t, nI_clamp, gi_n, nI_add, nI_1, pk_mul, b2_eq0, b2_01, nb_t, if_true, if_false, ni_le, ni_eq, ni_lt, kd_t h.k, kd_t h.ak, h.p, h.an, hd.1, hh, en]
      rw [decide_eq_true q]
      by_cases c : n ≤ l.length
      · rw [if_pos c]
      · rw [if_neg c, if_neg (by decide)]
    · unfold adL; rw [if_pos q]; exact hd
  · have hlt := hr q
    have e1 : dI (wI d (r + 1) l.length (nI t)) r 1 = nI l.length := by rw [dI_wI, if_neg (by omega)]; exact hd.1
    refine ⟨wI (wI d (r + 1) l.length (nI t)) r 1 (nI (l.length + 1)), ?_, ch_s (ch_w (.inr rfl)) (.inl ⟨rfl, rfl⟩), ?_⟩
    · simp (maxSteps := 1000000) (disch := omega) only [f_Rw_add, l0_e, l0_le, l0_ge, l0_lt, l0_gt, l1_m, l1_a, l1_b, l1_s, l1_e, l1_le, l1_ge, l1_lt, l1_gt, lt_t, nn_t, bd_t, bdD_t, bdP_t, nI_clamp, gi_n, nI_add, nI_1, pk_mul, b2_eq0, b2_01, nb_t, if_true, if_false, ni_le, ni_eq, ni_lt, kd_t h.k, kd_t h.ak, h.p, h.an, hd.1, hh, en, e1]
      rw [decide_eq_false q, if_neg (by omega), if_pos rfl]
    · unfold adL; rw [if_neg q]
      refine ⟨by rw [dI_wI, if_pos ⟨rfl, rfl⟩, List.length_append]; rfl, ?_⟩
      have := row_w (v := t) hd.2
      rw [Nat.zero_add] at this
      refine row_ch this (ch_w (P := fun a j => a = r ∧ j = 1) ⟨rfl, rfl⟩) (fun i _ => by omega)
theorem c_clear {r n : Nat} (h : RWs S r n) : ∃ e, f_Rw_clear S d r = some ((), e) ∧ Ch (PRw r) d e ∧ RWd e r [] := by
  refine ⟨wI d r 1 0, ?_, ch_w (.inl ⟨rfl, rfl⟩), by rw [dI_wI, if_pos ⟨rfl, rfl⟩]; rfl, row_n⟩
  simp (maxSteps := 1000000) (disch := omega) only [f_Rw_clear, l0_e, l0_le, l0_ge, l0_lt, l0_gt, lt_t, nn_t, bd_t, bdD_t, bdP_t, nI_clamp, gi_n, nI_add, nI_1, pk_mul, b2_eq0, b2_01, nb_t, if_true, if_false, ni_le, ni_eq, ni_lt, kd_t h.k]
theorem c_at {r n : Nat} (h : RWs S r n) (hn : n ≤ 16) {l : List Nat} (hd : RWd d r l) (hl : l.length ≤ n) {i : Nat} (hi : i < 2 ^ 31) : f_Rw_at S d r (nI i) = some (nI (l.getD i 0)) := by
  have c : cIn 0 (nI l.length) (nI i) = decide (i < l.length) := by
    have := cIn_nI (lo := 0) (hi := l.length) (a := i) (by omega) (by omega) hi
    rw [show nI 0 = 0 from rfl] at this
    rw [this]; simp
  by_cases q : i < l.length
  · have hr := hd.2 i q
    rw [Nat.zero_add] at hr
    simp (maxSteps := 1000000) (disch := omega) only [f_Rw_at, l0_e, l0_le, l0_ge, l0_lt, l0_gt, lt_t, nn_t, bd_t, bdD_t, bdP_t, nI_clamp, gi_n, nI_add, nI_1, pk_mul, b2_eq0, b2_01, nb_t, if_true, if_false, ni_le, ni_eq, ni_lt, kd_t h.k, kd_t h.ak, h.p, h.an, hd.1, c_within, c, hr]
    rw [decide_eq_true q, if_neg (by decide)]
  · simp (maxSteps := 1000000) (disch := omega) only [f_Rw_at, l0_e, l0_le, l0_ge, l0_lt, l0_gt, lt_t, nn_t, bd_t, bdD_t, bdP_t, nI_clamp, gi_n, nI_add, nI_1, pk_mul, b2_eq0, b2_01, nb_t, if_true, if_false, ni_le, ni_eq, ni_lt, kd_t h.k, kd_t h.ak, h.p, h.an, hd.1, c_within, c]
    rw [decide_eq_false q, if_pos rfl, List.getD_eq_getElem?_getD, List.getElem?_eq_none (by omega)]; rfl
end cls
