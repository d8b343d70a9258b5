theorem dI_wcp {d : gD} {a0 a b j : Nat} {sp dp n : Int32} : dI (wcp d a0 a sp dp n) b j = if b = a then (if dp.toNatClampNeg ≤ j ∧ j < dp.toNatClampNeg + n.toNatClampNeg then dI d a0 (sp.toNatClampNeg + (j - dp.toNatClampNeg)) else dI d a j) else dI d b j := by
  show va_up d.1 a (va_cpy (d.1 a0) (d.1 a) sp.toNatClampNeg dp.toNatClampNeg n.toNatClampNeg) b j = _
  unfold va_up
  by_cases q : b = a
  · rw [if_pos q, if_pos q]; rfl
  · rw [if_neg q, if_neg q]; rfl
theorem fm_nC {P : Nat → Nat → Prop} {S S1 : gS} {d d1 : gD} (h : Fm P S d S1 d1) {a0 a : Nat} {sp dp n : Int32} (ha : sZ S ≤ a) : Fm P S d S1 (wcp d1 a0 a sp dp n) :=
  ⟨h.1, fun b hb => ⟨(h.2 b hb).1, (h.2 b hb).2.1, fun j np => ⟨((h.2 b hb).2.2 j np).1, by rw [dI_wcp, if_neg (by omega)]; exact ((h.2 b hb).2.2 j np).2.1, ((h.2 b hb).2.2 j np).2.2⟩⟩⟩
theorem nl_n {α : Type} {n : Nat} {x : Option α} (h : n < 67108864) : nl (nI n) x = x := nl_t (by
  rw [nI_clamp (by omega)]
  rintro (c | c)
  · exact nI_pos (by omega) c
  · omega)
section cls
variable {S : gS} {d : gD} {x : Nat} {p : List (Nat × Nat × Nat)} {bd : List Nat}
theorem cp_t {α : Type} {a0 a so dp n : Nat} {l : List Nat} {r : Option α} (h0 : dp < 2 ^ 31) (hn : n = l.length) (h1 : l.length ≤ sN S a0) (h2 : dp + l.length ≤ sN S a) (h3 : l.length < 2 ^ 31) (hb : BRow d a0 l) (hv : ∀ v, v ∈ l → v < 256) : cp S d a0 a 0 (nI dp) (nI n) r = r := by
  subst hn
  unfold cp
  rw [if_pos]
  rw [nI_clamp h0, nI_clamp h3]
  refine ⟨by decide, nI_pos h0, nI_pos h3, by show 0 + _ ≤ _; omega, h2, ?_⟩
  rw [List.all_eq_true]
  intro i hi
  rw [List.mem_range] at hi
  show fits .byte (.int (dI d a0 (0 + i))) = true
  rw [Nat.zero_add, hb i hi]
  exact (by8_ok _ (hv _ (getD_mem hi))).2
theorem c_joined (h : CS S x) (hx : x + 64 < sZ S) (u : U4 d x p (fB p) bd) (g : GP p) (hbl : bd.length ≤ 3200) (hv1 : ∀ v, v ∈ fB p → v < 256) (hv2 : ∀ v, v ∈ bd → v < 256) : ∃ d', f_Uw_joined S d (x + 13) = some ((some (sZ S), nS S 52 (uBy (p, bd)).length, d'), 1, (uBy (p, bd)).length) ∧ Fm (fun _ _ => False) S d (nS S 52 (uBy (p, bd)).length) d' ∧ BRow d' (sZ S) (uBy (p, bd)) := by
  have hfl := fB_500 g
  have hpl := GP_len g
  have elen : (uBy (p, bd)).length = 3 + (fB p).length + bd.length := by
    unfold uBy
    rw [List.length_append, List.length_append]
    show 3 + ((fB p).length + bd.length) = _
    omega
  rw [elen]
  generalize hN : 3 + (fB p).length + bd.length = N at *
  have kz : ∀ a, a < sZ S → sK (nS S 52 N) a = sK S a := fun a ha => by rw [sK_nS, if_neg (by omega)]
  have nz' : ∀ a, a < sZ S → sN (nS S 52 N) a = sN S a := fun a ha => by rw [sN_nS, if_neg (by omega)]
  have pz : ∀ a j, a < sZ S → sP (nS S 52 N) a j = sP S a j := fun a j ha => by rw [sP_nS, if_neg (by omega)]
  have nn2 : sN (nS S 52 N) (sZ S) = N := by rw [sN_nS, if_pos rfl]
  have k9 : sK (nS S 52 N) (x + 13) = 9 := (kz _ (by omega)).trans (cs_K13 h)
  have k15 : sK (nS S 52 N) (x + 15) = 52 := (kz _ (by omega)).trans (cs_K15 h)
  have k16 : sK (nS S 52 N) (x + 16) = 52 := (kz _ (by omega)).trans (cs_K16 h)
  have n15 : sN (nS S 52 N) (x + 15) = 512 := (nz' _ (by omega)).trans (cs_N15 h)
  have n16 : sN (nS S 52 N) (x + 16) = 3200 := (nz' _ (by omega)).trans (cs_N16 h)
  have p2 : sP (nS S 52 N) (x + 13) 2 = some (x + 15) := (pz _ _ (by omega)).trans (cs_P13_2 h)
  have p4 : sP (nS S 52 N) (x + 13) 4 = some (x + 16) := (pz _ _ (by omega)).trans (cs_P13_4 h)
  have e5 : ∀ a j, a < sZ S → dI (nD S d) a j = dI d a j := fun a j ha => by rw [dI_nD, if_neg (by omega)]
  have g1 : dI (wI (wI (nD S d) (sZ S) 0 (by8 70)) (sZ S) 1 (by8 1)) (x + 13) 1 = nI p.length := by
    rw [dI_wI, if_neg (by omega), dI_wI, if_neg (by omega), e5 _ _ (by omega)]; exact u.n1
  have b18 : BRow (wI (wI (wI (nD S d) (sZ S) 0 (by8 70)) (sZ S) 1 (by8 1)) (sZ S) 2 (by8 p.length)) (x + 15) (fB p) := by
    intro i hi
    rw [dI_wI, if_neg (by omega), dI_wI, if_neg (by omega), dI_wI, if_neg (by omega), e5 _ _ (by omega)]; exact u.pb i hi
  have g3 : dI (wI (wI (wI (nD S d) (sZ S) 0 (by8 70)) (sZ S) 1 (by8 1)) (sZ S) 2 (by8 p.length)) (x + 13) 3 = nI (fB p).length := by
    rw [dI_wI, if_neg (by omega), dI_wI, if_neg (by omega), dI_wI, if_neg (by omega), e5 _ _ (by omega)]; exact u.n3
  generalize hd18 : wI (wI (wI (nD S d) (sZ S) 0 (by8 70)) (sZ S) 1 (by8 1)) (sZ S) 2 (by8 p.length) = d18 at b18 g3
  have cp1 : ∀ {α : Type} {r : Option α}, cp (nS S 52 N) d18 (x + 15) (sZ S) 0 3 (nI (fB p).length) r = r := by
    intro α r
    exact cp_t (so := 0) (dp := 3) (by omega) rfl (by rw [n15]; omega) (by rw [nn2]; omega) (by omega) b18 hv1
  have w24 : ∀ a j, a < sZ S → dI (wcp d18 (x + 15) (sZ S) 0 3 (nI (fB p).length)) a j = dI d a j := by
    intro a j ha
    rw [dI_wcp, if_neg (by omega), ← hd18, dI_wI, if_neg (by omega), dI_wI, if_neg (by omega), dI_wI, if_neg (by omega), e5 _ _ ha]
  have b24 : BRow (wcp d18 (x + 15) (sZ S) 0 3 (nI (fB p).length)) (x + 16) bd := fun i hi => (w24 _ _ (by omega)).trans (u.bd i hi)
  have g3' := (w24 (x + 13) 3 (by omega)).trans u.n3
  have g5' := (w24 (x + 13) 5 (by omega)).trans u.n5
  have e3 : (3 : Int32) + nI (fB p).length = nI (3 + (fB p).length) := nI_add 3 _
  have cp2 : ∀ {α : Type} {r : Option α}, cp (nS S 52 N) (wcp d18 (x + 15) (sZ S) 0 3 (nI (fB p).length)) (x + 16) (sZ S) 0 (nI (3 + (fB p).length)) (nI bd.length) r = r := by
    intro α r
    exact cp_t (so := 0) (by omega) rfl (by rw [n16]; omega) (by rw [nn2]; omega) (by omega) b24 hv2
  refine ⟨wcp (wcp d18 (x + 15) (sZ S) 0 3 (nI (fB p).length)) (x + 16) (sZ S) 0 (nI (3 + (fB p).length)) (nI bd.length), ?_, ?_, ?_⟩
  · have eN : nI (3 + (fB p).length + bd.length) = nI N := by rw [hN]
    simp only [f_Uw_joined, kd_t (cs_K13 h), lt_t, u.n3, u.n5, e3, nI_add, eN, nl_n (show N < 67108864 by omega), nI_clamp (show N < 2 ^ 31 by omega), nn2]
    rw [show (0 : Int32) = nI 0 from rfl, show (1 : Int32) = nI 1 from rfl, show (2 : Int32) = nI 2 from rfl]
    rw [gi_n (show 0 < N by omega) (by omega), gi_n (show 1 < N by omega) (by omega), gi_n (show 2 < N by omega) (by omega)]
    rw [nI_clamp (show 0 < 2 ^ 31 by omega), nI_clamp (show 1 < 2 ^ 31 by omega), nI_clamp (show 2 < 2 ^ 31 by omega)]
    rw [show vp_nar .byte 70 = by8 70 from by decide, show vp_nar .byte (nI 1) = by8 1 from by decide, g1, show vp_nar .byte ((Int32.toInt8 (nI p.length)).toInt32) = by8 p.length from rfl, hd18]
    simp only [kd_t k9, p2, p4, nn_t, kd_t k15, kd_t k16, g3]
    rw [show nI 0 = (0 : Int32) from rfl, cp1]
    simp only [g3', g5', e3]
    rw [cp2]
    simp only [ac_t, Nat.zero_add]
  · rw [← hd18]
    exact fm_nC (fm_nC (fm_nI (fm_nI (fm_nI fm_nS (Nat.le_refl _)) (Nat.le_refl _)) (Nat.le_refl _)) (Nat.le_refl _)) (Nat.le_refl _)
  · intro i hi
    rw [elen] at hi
    rw [dI_wcp, if_pos rfl, nI_clamp (show 3 + (fB p).length < 2 ^ 31 by omega), nI_clamp (show bd.length < 2 ^ 31 by omega)]
    rw [show (0 : Int32).toNatClampNeg = 0 from by decide, Nat.zero_add]
    have hu : (uBy (p, bd)).getD i 0 = if i < 3 then ([70, 1, p.length] : List Nat).getD i 0 else if i < 3 + (fB p).length then (fB p).getD (i - 3) 0 else bd.getD (i - (3 + (fB p).length)) 0 := by
      unfold uBy
      rw [getD_ap]
      show (if i < 3 then _ else _) = _
      by_cases c : i < 3
      · rw [if_pos c, if_pos c]
      · rw [if_neg c, if_neg c, getD_ap]
        show (if i - 3 < (fB p).length then _ else _) = _
        by_cases c2 : i < 3 + (fB p).length
        · rw [if_pos (by omega), if_pos c2]
          rfl
        · rw [if_neg (by omega), if_neg c2]
          show bd.getD (i - 3 - (fB p).length) 0 = _
          congr 1; omega
    rw [hu]
    by_cases c1 : i < 3
    · rw [if_neg (by omega), if_pos c1, dI_wcp, if_pos rfl, show (3 : Int32).toNatClampNeg = 3 from by decide, if_neg (by omega), ← hd18]
      rcases (show i = 0 ∨ i = 1 ∨ i = 2 by omega) with rfl | rfl | rfl
      · rw [dI_wI, if_neg (by omega), dI_wI, if_neg (by omega), dI_wI, if_pos ⟨rfl, rfl⟩]; rfl
      · rw [dI_wI, if_neg (by omega), dI_wI, if_pos ⟨rfl, rfl⟩]; rfl
      · rw [dI_wI, if_pos ⟨rfl, rfl⟩]; rfl
    · rw [if_neg c1]
      by_cases c2 : i < 3 + (fB p).length
      · rw [if_neg (by omega), if_pos c2, dI_wcp, if_pos rfl, show (3 : Int32).toNatClampNeg = 3 from by decide, nI_clamp (show (fB p).length < 2 ^ 31 by omega), if_pos (by omega), show (0 : Int32).toNatClampNeg = 0 from by decide, Nat.zero_add]
        exact b18 _ (by omega)
      · rw [if_pos (by omega), if_neg c2]
        exact b24 _ (by omega)
end cls
