theorem fm_nP {P : Nat → Nat → Prop} {S S1 : gS} {d d1 : gD} (h : Fm P S d S1 d1) {a k : Nat} {v : Option Nat} (ha : sZ S ≤ a) : Fm P S d (wP S1 a k v) d1 :=
  ⟨h.1, fun b hb => ⟨(h.2 b hb).1, (h.2 b hb).2.1, fun j n => ⟨by rw [sP_wP, if_neg (by omega)]; exact ((h.2 b hb).2.2 j n).1, ((h.2 b hb).2.2 j n).2⟩⟩⟩
theorem fm_nI {P : Nat → Nat → Prop} {S S1 : gS} {d d1 : gD} (h : Fm P S d S1 d1) {a k : Nat} {v : Int32} (ha : sZ S ≤ a) : Fm P S d S1 (wI d1 a k v) :=
  ⟨h.1, fun b hb => ⟨(h.2 b hb).1, (h.2 b hb).2.1, fun j n => ⟨((h.2 b hb).2.2 j n).1, by rw [dI_wI, if_neg (by omega)]; exact ((h.2 b hb).2.2 j n).2.1, ((h.2 b hb).2.2 j n).2.2⟩⟩⟩
theorem fm_nN {P : Nat → Nat → Prop} {S S1 : gS} {d d1 : gD} (h : Fm P S d S1 d1) {κ n : Nat} : Fm P S d (nS S1 κ n) (nD S1 d1) := fm_t h fm_nS
theorem c_rwInit {S : gS} {d : gD} {r n : Nat} {v : Int32} (h1 : ¬ (v < 0 ∨ 67108864 < v.toNatClampNeg)) (h2 : v.toNatClampNeg = n) (hk : sK S r = 2) (hr : r < sZ S) : f_Rw_init S d r v = some (((), wP (nS S 50 n) r 0 (some (sZ S)), nD S d), 1, n) := by
  have k2 : sK (nS S 50 n) r = 2 := by rw [sK_nS, if_neg (by omega)]; exact hk
  simp only [f_Rw_init, lt_t, nl_t h1, h2, kd_t k2, ac_t, Nat.zero_add]
def smA (S : gS) : gS := nS (nS S 7 0) 2 0
def smB (S : gS) : gS := wP (wP (nS (smA S) 50 16) (sZ S + 1) 0 (some (sZ S + 2))) (sZ S) 1 (some (sZ S + 1))
def smC (S : gS) : gS := nS (smB S) 2 0
def smS (S : gS) : gS := wP (wP (nS (smC S) 50 16) (sZ S + 3) 0 (some (sZ S + 4))) (sZ S) 2 (some (sZ S + 3))
def smD (S : gS) (d : gD) : gD := nD (smC S) (nD (smB S) (nD (smA S) (nD (nS S 7 0) (nD S d))))
theorem c_smInit0 {S : gS} {d : gD} : f_Sm_init (nS S 7 0) (nD S d) (sZ S) = some (((), smS S, smD S d), 4, 36) := by
  have zA : sZ (smA S) = sZ S + 2 := rfl
  have zC : sZ (smC S) = sZ S + 4 := rfl
  have kA : sK (smA S) (sZ S + 1) = 2 := by show (if sZ S + 1 = sZ S + 1 then 2 else _) = 2; rw [if_pos rfl]
  have kC : sK (smC S) (sZ S + 3) = 2 := by show (if sZ S + 3 = sZ S + 3 then 2 else _) = 2; rw [if_pos rfl]
  have r1 := c_rwInit (S := smA S) (d := nD (nS S 7 0) (nD S d)) (r := sZ S + 1) (n := 16) (v := 16) (by decide) (by decide) kA (by rw [zA]; omega)
  have r2 := c_rwInit (S := smC S) (d := nD (smB S) (nD (smA S) (nD (nS S 7 0) (nD S d)))) (r := sZ S + 3) (n := 16) (v := 16) (by decide) (by decide) kC (by rw [zC]; omega)
  rw [zA] at r1
  rw [zC] at r2
  have k1 : sK (wP (nS (smA S) 50 16) (sZ S + 1) 0 (some (sZ S + 2))) (sZ S) = 7 := by
    simp [smA, sK_wP, sK_nS, sZ_nS, Nat.add_assoc]
  have k2 : sK (wP (nS (smC S) 50 16) (sZ S + 3) 0 (some (sZ S + 4))) (sZ S) = 7 := by
    simp [smC, smB, smA, sK_wP, sK_nS, sZ_nS, sZ_wP, Nat.add_assoc]
  unfold f_Sm_init
  show ac 1 2 (bdA (f_Rw_init (smA S) (nD (nS S 7 0) (nD S d)) (sZ S + 1) 16) _) = _
  rw [r1, bdA_t, kd_t k1]
  show ac 1 2 (ac 1 16 (ac 1 2 (bdA (f_Rw_init (smC S) (nD (smB S) (nD (smA S) (nD (nS S 7 0) (nD S d)))) (sZ S + 3) 16) _))) = _
  rw [r2, bdA_t, kd_t k2]
  rfl
theorem c_smInit {S : gS} {d : gD} : ∃ S' d', f_Sm_init (nS S 7 0) (nD S d) (sZ S) = some (((), S', d'), 4, 36) ∧ SMs S' (sZ S) ∧ sZ S' = sZ S + 5 ∧ Fm (fun _ _ => False) S d S' d' := by
  refine ⟨smS S, smD S d, c_smInit0, ?_, rfl, ?_⟩
  · refine ⟨?_, ?_, ?_, ⟨?_, ?_, ?_, ?_⟩, ⟨?_, ?_, ?_, ?_⟩⟩ <;> simp [smS, smC, smB, smA, sK_nS, sK_wP, sN_nS, sN_wP, sP_wP, sP_nS, sZ_nS, sZ_wP, Nat.add_assoc]
  · exact fm_nP (fm_nP (fm_nN (fm_nN (fm_nP (fm_nP (fm_nN (fm_nN fm_nS)) (by omega)) (Nat.le_refl _)))) (by omega)) (Nat.le_refl _)
def DK (S : gS) (x : Nat) (U : Nat → Prop) : Prop := (∀ i v, i < 75 → sP S (x + 10) i = some v → SMs S v ∧ x + 64 < v ∧ v + 4 < sZ S ∧ U v) ∧ (∀ i j v, i < 75 → j < 75 → sP S (x + 10) i = some v → sP S (x + 10) j = some v → i = j)
theorem DK.sl {S : gS} {x : Nat} {U : Nat → Prop} (h : DK S x U) : ∀ i v, i < 75 → sP S (x + 10) i = some v → SMs S v ∧ x + 64 < v ∧ v + 4 < sZ S ∧ U v := h.1
theorem DK.inj {S : gS} {x : Nat} {U : Nat → Prop} (h : DK S x U) : ∀ i j v, i < 75 → j < 75 → sP S (x + 10) i = some v → sP S (x + 10) j = some v → i = j := h.2
def DC (S : gS) (d : gD) (x : Nat) (A : Nat → Nat → Nat) (D : List (Nat × List Nat)) : Prop := (dI d (x + 9) 2 = nI D.length) ∧ (∀ i, i < D.length → ∃ v, sP S (x + 10) i = some v ∧ sP S v 0 = some (A 1 (D.getD i df).1) ∧ RWd d (v + 1) (D.getD i df).2)
theorem DC.n {S : gS} {d : gD} {x : Nat} {A : Nat → Nat → Nat} {D : List (Nat × List Nat)} (h : DC S d x A D) : dI d (x + 9) 2 = nI D.length := h.1
theorem DC.c {S : gS} {d : gD} {x : Nat} {A : Nat → Nat → Nat} {D : List (Nat × List Nat)} (h : DC S d x A D) : ∀ i, i < D.length → ∃ v, sP S (x + 10) i = some v ∧ sP S v 0 = some (A 1 (D.getD i df).1) ∧ RWd d (v + 1) (D.getD i df).2 := h.2
def PDr (x : Nat) (U : Nat → Prop) (a j : Nat) : Prop := (a = x + 9 ∧ j = 2) ∨ a = x + 10 ∨ PRw (x + 11) a j ∨ ∃ v, U v ∧ ((a = v ∧ j = 0) ∨ PRw (v + 1) a j)
theorem plG {s : Nat → Nat → Nat} {D : List (Nat × List Nat)} : True := trivial
def pl (s : Nat → Nat → Nat) (D : List (Nat × List Nat)) (y : Nat) : Nat → Nat
  | 0 => D.length
  | k + 1 => if sg s (D.getD k df).1 y then k + 1 else pl s D y k
theorem pl_sp {s : Nat → Nat → Nat} {D : List (Nat × List Nat)} {y : Nat} : ∀ k, k ≤ D.length → (pl s D y k = D.length ∧ ∀ i, i < k → sg s (D.getD i df).1 y = false) ∨ (0 < pl s D y k ∧ pl s D y k ≤ k ∧ sg s (D.getD (pl s D y k - 1) df).1 y = true ∧ ∀ i, pl s D y k ≤ i → i < k → sg s (D.getD i df).1 y = false) := by
  intro k
  induction k with
  | zero => intro _; exact .inl ⟨rfl, fun i hi => absurd hi (Nat.not_lt_zero _)⟩
  | succ k ih =>
    intro hk
    unfold pl
    by_cases q : sg s (D.getD k df).1 y = true
    · rw [if_pos q]
      exact .inr ⟨by omega, by omega, q, fun i h1 h2 => by omega⟩
    · rw [if_neg q]
      have q' : sg s (D.getD k df).1 y = false := by simpa using q
      rcases ih (by omega) with ⟨h1, h2⟩ | ⟨h1, h2, h3, h4⟩
      · refine .inl ⟨h1, fun i hi => ?_⟩
        by_cases c : i = k
        · rw [c]; exact q'
        · exact h2 i (by omega)
      · refine .inr ⟨h1, by omega, h3, fun i hi1 hi2 => ?_⟩
        by_cases c : i = k
        · rw [c]; exact q'
        · exact h4 i hi1 (by omega)
theorem mem_getF {l : List (Nat × List Nat)} {y : Nat × List Nat} (h : y ∈ l) : ∃ i, i < l.length ∧ l.getD i df = y := by
  obtain ⟨i, hi, e⟩ := List.getElem_of_mem h
  exact ⟨i, hi, by rw [List.getD_eq_getElem?_getD, List.getElem?_eq_getElem hi, e]; rfl⟩
theorem getF_mem {l : List (Nat × List Nat)} {i : Nat} (h : i < l.length) : l.getD i df ∈ l := by
  rw [List.getD_eq_getElem?_getD, List.getElem?_eq_getElem h]; exact List.getElem_mem h
theorem dropF {l : List (Nat × List Nat)} {q i : Nat} : (l.drop q).getD i df = l.getD (q + i) df := by
  rw [List.getD_eq_getElem?_getD, List.getD_eq_getElem?_getD, List.getElem?_drop]
theorem takeF {l : List (Nat × List Nat)} {q i : Nat} (h : i < q) : (l.take q).getD i df = l.getD i df := by
  rw [List.getD_eq_getElem?_getD, List.getD_eq_getElem?_getD, List.getElem?_take, if_pos h]
theorem iL_pl {s : Nat → Nat → Nat} {D : List (Nat × List Nat)} {y : Nat} {e : Nat × List Nat} : iL (fun z => sg s y z.1) e D = D.take (pl s D y D.length) ++ e :: D.drop (pl s D y D.length) := by
  have hp := pl_sp (s := s) (D := D) (y := y) D.length (Nat.le_refl _)
  generalize pl s D y D.length = q at hp
  have sc : ∀ a c, sg s a c = false → sg s c a = false := by
    intro a c h
    cases r : sg s c a with
    | false => rfl
    | true => rw [sg_sym r] at h; exact absurd h (by decide)
  rcases hp with ⟨h1, h2⟩ | ⟨h1, h2, h3, h4⟩
  · rw [h1, List.take_length, List.drop_length]
    apply iL_none
    apply any_f
    intro z hz
    obtain ⟨i, hi, e⟩ := mem_getF hz
    rw [← e]; exact sc _ _ (h2 i hi)
  · have hno : (D.drop q).any (fun z => sg s y z.1) = false := by
      apply any_f
      intro z hz
      obtain ⟨i, hi, e⟩ := mem_getF hz
      rw [List.length_drop] at hi
      rw [dropF] at e
      rw [← e]; exact sc _ _ (h4 (q + i) (by omega) (by omega))
    have hsp : D.take q = D.take (q - 1) ++ [D.getD (q - 1) df] := by
      have := List.take_add_one (l := D) (i := q - 1)
      rw [show q - 1 + 1 = q by omega] at this
      rw [this, List.getD_eq_getElem?_getD, List.getElem?_eq_getElem (show q - 1 < D.length by omega)]; rfl
    have h5 : sg s y (D.getD (q - 1) df).1 = true := sg_sym h3
    have hany1 : ([D.getD (q - 1) df]).any (fun z => sg s y z.1) = true := any_t (List.mem_singleton.mpr rfl) h5
    conv => lhs; rw [← List.take_append_drop q D]
    rw [iL_app2 hno _ (by rw [hsp, List.any_append, hany1, Bool.or_true]), hsp, iL_app1 hany1, iL_all (fun z hz => by rw [List.mem_singleton.mp hz]; exact h5)]
    simp
theorem ins_len {D : List (Nat × List Nat)} {q : Nat} {e : Nat × List Nat} (hq : q ≤ D.length) : (D.take q ++ e :: D.drop q).length = D.length + 1 := by
  rw [List.length_append, List.length_cons, List.length_take, List.length_drop]; omega
theorem ins_at {D : List (Nat × List Nat)} {q i : Nat} {e : Nat × List Nat} (hq : q ≤ D.length) : (D.take q ++ e :: D.drop q).getD i df = if i < q then D.getD i df else if i = q then e else D.getD (i - 1) df := by
  have hl : (D.take q).length = q := by rw [List.length_take]; omega
  by_cases h : i < q
  · rw [if_pos h, List.getD_eq_getElem?_getD, List.getElem?_append_left (by omega), ← List.getD_eq_getElem?_getD, takeF h]
  · rw [if_neg h, List.getD_eq_getElem?_getD, List.getElem?_append_right (by omega), hl]
    by_cases c : i = q
    · rw [if_pos c, c, Nat.sub_self]; rfl
    · rw [if_neg c, show i - q = (i - 1 - q) + 1 by omega, List.getElem?_cons_succ, ← List.getD_eq_getElem?_getD, dropF]
      congr 1; omega
section cls
variable {S : gS} {d : gD} {x : Nat} {s : Nat → Nat → Nat} {A : Nat → Nat → Nat} {U : Nat → Prop}
def ShS (x p n : Nat) (S S' : gS) : Prop := (∀ a, sK S' a = sK S a ∧ sN S' a = sN S a) ∧ sZ S' = sZ S ∧ (∀ a j, a ≠ x + 10 → sP S' a j = sP S a j) ∧ ∀ i, sP S' (x + 10) i = if p < i ∧ i ≤ n then sP S (x + 10) (i - 1) else sP S (x + 10) i
theorem c_shift (h : CS S x) {p n : Nat} (hp : p ≤ n) (hn : n < 75) (hsl : ∀ i, i < n → ∃ v, sP S (x + 10) i = some v ∧ sK S v = 7) {v2 v3 : Option Nat} {kx : gS → gD → Int32 → Option Nat → Option Nat → Option ((Unit × gS × gD) × Nat × Nat)} {z : gS → gD → Int32 → Option Nat → Option Nat → Int32 → Option ((Unit × gS × gD) × Nat × Nat)} (Q : Option ((Unit × gS × gD) × Nat × Nat) → Prop) (hk : ∀ S', ShS x p n S S' → Q (kx S' d (nI p) v2 v3)) : Q (itr (f_Dr_insert_B51 (x + 9) kx) z fu S d (nI p) v2 v3 (nI n)) := by
  refine itr_q (B := f_Dr_insert_B51 (x + 9) kx) (fun (y : gS × Nat) K => K y.1 d (nI p) v2 v3 (nI y.2)) Q (fun k y => y.2 = n - k ∧ ShS x (n - k) n S y.1) (n - p) (by omega) ?_ ?_ (x := (S, n)) ⟨rfl, fun a => ⟨rfl, rfl⟩, rfl, fun _ _ _ => rfl, fun i => by rw [if_neg (by omega)]⟩
  · rintro k hkk ⟨S1, i⟩ ⟨hi, hK1, hZ, hP, hX⟩ K hK
    simp only at hkk hi hK1 hZ hP hX hK ⊢
    subst hi
    obtain ⟨v, hv, kv⟩ := hsl (n - k - 1) (by omega)
    have e1 : sP S1 (x + 10) (n - k - 1) = some v := by rw [hX, if_neg (by omega)]; exact hv
    have c1 : sP S1 (x + 9) 1 = some (x + 10) := by rw [hP _ _ (by omega)]; exact cs_P9_1 h
    have k9 : sK S1 (x + 9) = 3 := (hK1 _).1.trans (cs_K9 h)
    have k10 : sK S1 (x + 10) = 63 := (hK1 _).1.trans (cs_K10 h)
    have n10 : sN S1 (x + 10) = 75 := (hK1 _).2.trans (cs_N10 h)
    have k7 : sK S1 v = 7 := (hK1 _).1.trans kv
    have em : nI (n - k) + (-1) = nI (n - k - 1) := by
      rw [dn_m1, show n - k = (n - k - 1) + 1 by omega]; rfl
    simp (maxSteps := 1000000) (disch := omega) only [f_Dr_insert_B51, l1_m, l1_a, l1_b, l1_s, l1_e, l1_le, l1_ge, l1_lt, l1_gt, lt_t, nn_t, bd_t, bdD_t, bdP_t, nI_clamp, gi_n, nI_add, nI_1, pk_mul, b2_eq0, b2_01, nb_t, if_true, if_false, ni_le, ni_eq, ni_lt, kd_t k9, c1, kd_t k10, n10, e1, kd_t k7, em]
    rw [if_neg (by omega)]
    refine hK (wP S1 (x + 10) (n - k) (some v), n - k - 1) ⟨by omega, fun a => ⟨by rw [sK_wP]; exact (hK1 a).1, by rw [sN_wP]; exact (hK1 a).2⟩, by rw [sZ_wP]; exact hZ, fun a j ha => by rw [sP_wP, if_neg (fun c => ha c.1)]; exact hP a j ha, fun i => ?_⟩
    rw [sP_wP]
    by_cases c : i = n - k
    · rw [if_pos ⟨rfl, c⟩, if_pos (by omega), c]; exact hv.symm
    · rw [if_neg (fun q => c q.2), hX]
      by_cases c2 : n - k < i ∧ i ≤ n
      · rw [if_pos c2, if_pos (by omega)]
      · rw [if_neg c2, if_neg (by omega)]
  · rintro ⟨S1, i⟩ ⟨hi, hS⟩ K
    simp only at hi hS ⊢
    subst hi
    rw [show n - (n - p) = p by omega] at hS ⊢
    simp (maxSteps := 1000000) (disch := omega) only [f_Dr_insert_B51, l1_m, l1_a, l1_b, l1_s, l1_e, l1_le, l1_ge, l1_lt, l1_gt, lt_t, nn_t, bd_t, bdD_t, bdP_t, nI_clamp, gi_n, nI_add, nI_1, pk_mul, b2_eq0, b2_01, nb_t, if_true, if_false, ni_le, ni_eq, ni_lt]
    rw [if_pos (Nat.le_refl _)]
    exact hk S1 hS
end cls
