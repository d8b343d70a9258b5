section law
variable {S : gS} {d : gD} {x : Nat} {s : Nat → Nat → Nat} {A : Nat → Nat → Nat} {q : (Nat → Int64) × Int64 × (Nat → Int64) × (Nat → Int32)}
theorem lg_0 {v : Int64} : lg_cmp v v = 0 := by
  unfold lg_cmp
  rw [if_neg (Int64.lt_irrefl), if_pos rfl]
theorem law_step (h : IV S d x s A q) {k L : Nat} {f : Nat → Int32} (hk : 9 * k + 9 ≤ L) (hL : L ≤ 4608) (kb : gS → gD → Option Nat → Option Nat → Option Nat → Int32 → Option ((Int32 × gS × gD) × Nat × Nat)) : ∃ S1 d1 s' A' q' n m, IV S1 d1 x s' A' q' ∧ n ≤ 1000 ∧ m ≤ 10000 ∧ f_L_law_B23 L f kb S d (some x) (some (x + 28)) (some (x + 64)) (nI (9 * k)) = ac n m (kb S1 d1 (some x) (some (x + 28)) (some (x + 64)) (nI (9 * (k + 1)))) := by
  have k0 := cs_K0 h.g1.ce.cs
  have k10 := h.rp.ri.rs.1
  have ad : ∀ j, j < 10 → nI (9 * k) + nI j = nI (9 * k + j) := fun j hj => nI_add _ _
  have G : ∀ j, j < 9 → ∀ r : Option ((Int32 × gS × gD) × Nat × Nat), gi (nI (9 * k) + nI j) L r = r := fun j hj r => by rw [ad j (by omega)]; exact gi_n (by omega) (by omega)
  have H1 : ∀ r : Option ((Int32 × gS × gD) × Nat × Nat), gi (nI (9 * k) + 1) L r = r := G 1 (by omega)
  have H2 : ∀ r : Option ((Int32 × gS × gD) × Nat × Nat), gi (nI (9 * k) + 2) L r = r := G 2 (by omega)
  have H3 : ∀ r : Option ((Int32 × gS × gD) × Nat × Nat), gi (nI (9 * k) + 3) L r = r := G 3 (by omega)
  have H4 : ∀ r : Option ((Int32 × gS × gD) × Nat × Nat), gi (nI (9 * k) + 4) L r = r := G 4 (by omega)
  have H5 : ∀ r : Option ((Int32 × gS × gD) × Nat × Nat), gi (nI (9 * k) + 5) L r = r := G 5 (by omega)
  have H6 : ∀ r : Option ((Int32 × gS × gD) × Nat × Nat), gi (nI (9 * k) + 6) L r = r := G 6 (by omega)
  have H7 : ∀ r : Option ((Int32 × gS × gD) × Nat × Nat), gi (nI (9 * k) + 7) L r = r := G 7 (by omega)
  have H8 : ∀ r : Option ((Int32 × gS × gD) × Nat × Nat), gi (nI (9 * k) + 8) L r = r := G 8 (by omega)
  have H9 : nI (9 * k) + 9 = nI (9 * (k + 1)) := (ad 9 (by omega)).trans (by rw [Nat.mul_add])
  have H0 : ∀ r : Option ((Int32 × gS × gD) × Nat × Nat), gi (nI (9 * k)) L r = r := fun r => gi_n (by omega) (by omega)
  have hend : ¬ Int32.ofNat L - 9 < nI (9 * k) := by
    have e : Int32.ofNat L - 9 = nI (L - 9) := by
      show nI L - 9 = _
      exact l9_s L (by omega)
    rw [e, ni_lt _ _ (by omega) (by omega)]
    omega
  unfold f_L_law_B23
  rw [if_neg hend, H0, lt_t]
  generalize f (nI (9 * k)).toNatClampNeg &&& 31 = w
  by_cases c0 : w = 0
  · rw [if_pos c0]
    obtain ⟨r, d1, e, s', f1, f2, iv⟩ := st_loader h (f (nI (9 * k) + 1).toNatClampNeg)
    refine ⟨S, e, _, A, _, 0, 0, iv, by omega, by omega, ?_⟩
    simp only [H1, lt_t, nn_t, kd_t k0, f1, bdD_t, bd_t, kd_t k10, f2]
    rw [if_pos trivial, ac_0, f_L_law_J1102, H9]
  rw [if_neg c0]
  by_cases c1 : w = 1
  · rw [if_pos c1]
    obtain ⟨r, d1, e, s', f1, f2, iv⟩ := st_type h (f (nI (9 * k) + 1).toNatClampNeg)
    refine ⟨S, e, _, A, _, 0, 0, iv, by omega, by omega, ?_⟩
    simp only [H1, lt_t, nn_t, kd_t k0, f1, bdD_t, bd_t, kd_t k10, f2]
    rw [if_pos trivial, ac_0, f_L_law_J1102, H9]
  rw [if_neg c1]
  by_cases c2 : w = 2
  · rw [if_pos c2]
    simp only [H1, H2, H3, H4, lt_t]
    by_cases cz : (f (nI (9 * k) + 4).toNatClampNeg) = 0
    · rw [if_pos cz]
      obtain ⟨r, S1, d1, n, m, e, s', A', f1, hn, hm, f2, iv⟩ := st_face (o := 0) h (f (nI (9 * k) + 1).toNatClampNeg) (f (nI (9 * k) + 2).toNatClampNeg) (f (nI (9 * k) + 3).toNatClampNeg) (by omega)
      rw [show nI 0 = 0 from rfl] at f1 f2
      refine ⟨S1, e, _, A', _, n, m, iv, hn, hm, ?_⟩
      simp only [f_L_law_J215, f_L_law_J251, H1, H2, H3, H4, lt_t, nn_t, kd_t k0, f1, bdA_t, bdD_t, kd_t iv.rp.ri.rs.1, f2, if_pos cz]
      rw [if_pos trivial, f_L_law_J1102, H9]
    · rw [if_neg cz]
      obtain ⟨r, S1, d1, n, m, e, s', A', f1, hn, hm, f2, iv⟩ := st_face (o := 1) h (f (nI (9 * k) + 1).toNatClampNeg) (f (nI (9 * k) + 2).toNatClampNeg) (f (nI (9 * k) + 3).toNatClampNeg) (by omega)
      rw [show nI 1 = 1 from rfl] at f1 f2
      refine ⟨S1, e, _, A', _, n, m, iv, hn, hm, ?_⟩
      simp only [f_L_law_J215, f_L_law_J251, H1, H2, H3, H4, lt_t, nn_t, kd_t k0, f1, bdA_t, bdD_t, kd_t iv.rp.ri.rs.1, f2, if_neg cz]
      rw [if_pos trivial, f_L_law_J1102, H9]
  rw [if_neg c2]
  by_cases c3 : w = 3
  · rw [if_pos c3]
    obtain ⟨r, d1, e, s', f1, f2, iv⟩ := st_extend h (f (nI (9 * k) + 1).toNatClampNeg) (f (nI (9 * k) + 2).toNatClampNeg)
    refine ⟨S, e, _, A, _, 0, 0, iv, by omega, by omega, ?_⟩
    simp only [H1, H2, lt_t, nn_t, kd_t k0, f1, bdD_t, bd_t, kd_t k10, f2]
    rw [if_pos trivial, ac_0, f_L_law_J1102, H9]
  rw [if_neg c3]
  by_cases c4 : w = 4
  · rw [if_pos c4]
    obtain ⟨r, S1, d1, n, m, e, s', A', f1, hn, hm, f2, iv⟩ := st_method h (f (nI (9 * k) + 1).toNatClampNeg) (f (nI (9 * k) + 2).toNatClampNeg) (f (nI (9 * k) + 3).toNatClampNeg)
    refine ⟨S1, e, _, A', _, n, m, iv, hn, hm, ?_⟩
    simp only [H1, H2, H3, lt_t, nn_t, kd_t k0, f1, bdA_t, bdD_t, kd_t iv.rp.ri.rs.1, f2]
    rw [if_pos trivial, f_L_law_J1102, H9]
  rw [if_neg c4]
  by_cases c5 : w = 5
  · rw [if_pos c5]
    obtain ⟨r, d1, e, s', f1, f2, iv⟩ := st_throwing h (f (nI (9 * k) + 1).toNatClampNeg) (f (nI (9 * k) + 2).toNatClampNeg) (f (nI (9 * k) + 3).toNatClampNeg)
    refine ⟨S, e, _, A, _, 0, 0, iv, by omega, by omega, ?_⟩
    simp only [H1, H2, H3, lt_t, nn_t, kd_t k0, f1, bdD_t, bd_t, kd_t k10, f2]
    rw [if_pos trivial, ac_0, f_L_law_J1102, H9]
  rw [if_neg c5]
  by_cases c6 : w = 6
  · rw [if_pos c6]
    obtain ⟨r, d1, e, s', q', f1, f2, iv⟩ := st_object h (f (nI (9 * k) + 1).toNatClampNeg) (((Int32.toInt64 (f (nI (9 * k) + 2).toNatClampNeg)) <<< (Int32.toInt64 32 &&& 63)) ||| ((Int32.toInt64 (f (nI (9 * k) + 3).toNatClampNeg)) &&& 4294967295))
    refine ⟨S, e, _, A, _, 0, 0, iv, by omega, by omega, ?_⟩
    simp only [H1, H2, H3, lt_t, nn_t, kd_t k0, f1, bdD_t, bd_t, kd_t k10, f2]
    rw [if_pos trivial, ac_0, f_L_law_J1102, H9]
  rw [if_neg c6]
  by_cases c7 : w = 7
  · rw [if_pos c7]
    obtain ⟨r, e, f1, f2, iv⟩ := st_value h (f (nI (9 * k) + 1).toNatClampNeg) (f (nI (9 * k) + 2).toNatClampNeg)
    refine ⟨S, e, _, A, _, 0, 0, iv, by omega, by omega, ?_⟩
    simp only [H1, H2, lt_t, nn_t, kd_t k0, f1, bdD_t, bd_t, kd_t k10, f2]
    rw [if_pos lg_0, ac_0, f_L_law_J1102, H9]
  rw [if_neg c7]
  by_cases c8 : w = 8
  · rw [if_pos c8]
    obtain ⟨r, e, f1, f2, iv⟩ := st_below h (f (nI (9 * k) + 1).toNatClampNeg) (f (nI (9 * k) + 2).toNatClampNeg)
    refine ⟨S, e, _, A, _, 0, 0, iv, by omega, by omega, ?_⟩
    simp only [H1, H2, lt_t, nn_t, kd_t k0, f1, bdD_t, bd_t, kd_t k10, f2]
    rw [if_pos trivial, ac_0, f_L_law_J1102, H9]
  rw [if_neg c8]
  by_cases c9 : w = 9
  · rw [if_pos c9]
    obtain ⟨r, e, f1, f2, iv⟩ := st_find h (f (nI (9 * k) + 1).toNatClampNeg) (f (nI (9 * k) + 2).toNatClampNeg) (f (nI (9 * k) + 3).toNatClampNeg)
    refine ⟨S, e, _, A, _, 0, 0, iv, by omega, by omega, ?_⟩
    simp only [H1, H2, H3, lt_t, nn_t, kd_t k0, f1, bdD_t, bd_t, kd_t k10, f2]
    rw [if_pos trivial, ac_0, f_L_law_J1102, H9]
  rw [if_neg c9]
  by_cases c10 : w = 10
  · rw [if_pos c10]
    obtain ⟨c, S1, d1, n, m, r, e, s', A', f1, hn, hm, f2, iv, z, dl⟩ := st_stand h (f (nI (9 * k) + 1).toNatClampNeg) (f (nI (9 * k) + 2).toNatClampNeg)
    refine ⟨S1, e, _, A', _, n, m, iv, hn, hm, ?_⟩
    simp only [H1, H2, lt_t, f1, bdA_t, nn_t, kd_t iv.rp.ri.rs.1, f2, bdD_t, f_R_thrown, bd_t, z, if_true]
    by_cases cz : c = 0
    · simp only [if_pos cz, kd_t iv.ok.1, iv.ok.2, gi0 1 (show 0 < 1 by omega) (show 1 < 2 ^ 31 by omega), show (0 : Int32).toNatClampNeg = 0 from rfl, dl cz, lg_0, if_true, f_L_law_J652, f_L_law_J1102, H9]
    · simp only [if_neg cz, f_L_law_J652, f_L_law_J1102, H9]
  rw [if_neg c10]
  by_cases c11 : w = 11
  · rw [if_pos c11]
    obtain ⟨r, e, f1, f2, iv⟩ := st_fault h 
    refine ⟨S, e, _, A, _, 0, 0, iv, by omega, by omega, ?_⟩
    simp only [lt_t, nn_t, kd_t k0, f1, bdD_t, bd_t, kd_t k10, f2]
    rw [if_pos trivial, ac_0, f_L_law_J1102, H9]
  rw [if_neg c11]
  by_cases c12 : w = 12
  · rw [if_pos c12]
    obtain ⟨r, e, f1, f2, iv⟩ := st_about h (f (nI (9 * k) + 1).toNatClampNeg) (f (nI (9 * k) + 2).toNatClampNeg)
    refine ⟨S, e, _, A, _, 0, 0, iv, by omega, by omega, ?_⟩
    simp only [H1, H2, lt_t, nn_t, kd_t k0, f1, bdD_t, bd_t, kd_t k10, f2]
    rw [if_pos trivial, ac_0, f_L_law_J1102, H9]
  rw [if_neg c12]
  by_cases c13 : w = 13
  · rw [if_pos c13]
    obtain ⟨r, e, f1, f2, iv⟩ := st_told h (f (nI (9 * k) + 1).toNatClampNeg) (f (nI (9 * k) + 2).toNatClampNeg) (f (nI (9 * k) + 3).toNatClampNeg)
    refine ⟨S, e, _, A, _, 0, 0, iv, by omega, by omega, ?_⟩
    simp only [H1, H2, H3, lt_t, nn_t, kd_t k0, f1, bdD_t, bd_t, kd_t k10, f2]
    rw [if_pos trivial, ac_0, f_L_law_J1102, H9]
  rw [if_neg c13]
  by_cases c14 : w = 14
  · rw [if_pos c14]
    obtain ⟨r, e, f1, f2, iv⟩ := st_octet h (f (nI (9 * k) + 1).toNatClampNeg) (f (nI (9 * k) + 2).toNatClampNeg)
    refine ⟨S, e, _, A, _, 0, 0, iv, by omega, by omega, ?_⟩
    simp only [H1, H2, lt_t, nn_t, kd_t k0, f1, bdD_t, bd_t, kd_t k10, f2]
    rw [if_pos trivial, ac_0, f_L_law_J1102, H9]
  rw [if_neg c14]
  by_cases c15 : w = 15
  · rw [if_pos c15]
    simp only [H1, H2, H3, lt_t]
    by_cases cz : (f (nI (9 * k) + 3).toNatClampNeg) = 0
    · rw [if_pos cz]
      obtain ⟨r, d1, e, s', q', f1, f2, iv⟩ := st_handler (t := 0) h (f (nI (9 * k) + 1).toNatClampNeg) (f (nI (9 * k) + 2).toNatClampNeg) (by omega)
      rw [show nI 0 = 0 from rfl] at f1 f2
      refine ⟨S, e, _, A, _, 0, 0, iv, by omega, by omega, ?_⟩
      simp only [f_L_law_J818, f_L_law_J848, H1, H2, H3, lt_t, nn_t, kd_t k0, f1, bdD_t, kd_t k10, f2, if_pos cz]
      rw [if_pos trivial, ac_0, f_L_law_J1102, H9]
    · rw [if_neg cz]
      obtain ⟨r, d1, e, s', q', f1, f2, iv⟩ := st_handler (t := 1) h (f (nI (9 * k) + 1).toNatClampNeg) (f (nI (9 * k) + 2).toNatClampNeg) (by omega)
      rw [show nI 1 = 1 from rfl] at f1 f2
      refine ⟨S, e, _, A, _, 0, 0, iv, by omega, by omega, ?_⟩
      simp only [f_L_law_J818, f_L_law_J848, H1, H2, H3, lt_t, nn_t, kd_t k0, f1, bdD_t, kd_t k10, f2, if_neg cz]
      rw [if_pos trivial, ac_0, f_L_law_J1102, H9]
  rw [if_neg c15]
  by_cases c16 : w = 16
  · rw [if_pos c16]
    obtain ⟨c, S1, d1, n, m, r, e, q', f1, hn, hm, f2, iv, z, dl⟩ := st_call h (f (nI (9 * k) + 1).toNatClampNeg) (f (nI (9 * k) + 2).toNatClampNeg) (fun i => if i = 0 then (((Int32.toInt64 (f (nI (9 * k) + 3).toNatClampNeg)) <<< (Int32.toInt64 32 &&& 63)) ||| ((Int32.toInt64 (f (nI (9 * k) + 4).toNatClampNeg)) &&& 4294967295)) else if i = 1 then (((Int32.toInt64 (f (nI (9 * k) + 5).toNatClampNeg)) <<< (Int32.toInt64 32 &&& 63)) ||| ((Int32.toInt64 (f (nI (9 * k) + 6).toNatClampNeg)) &&& 4294967295)) else (((Int32.toInt64 (f (nI (9 * k) + 7).toNatClampNeg)) <<< (Int32.toInt64 32 &&& 63)) ||| ((Int32.toInt64 (f (nI (9 * k) + 8).toNatClampNeg)) &&& 4294967295)))
    simp only [if_true, show ((1 : Nat) = 0) = False from eq_false (by omega), show ((2 : Nat) = 0) = False from eq_false (by omega), show ((2 : Nat) = 1) = False from eq_false (by omega), if_false] at f1 f2
    refine ⟨S1, e, _, A, _, n, m, iv, hn, hm, ?_⟩
    simp only [H1, H2, H3, H4, H5, H6, H7, H8, lt_t, f1, bdA_t, nn_t, kd_t iv.rp.ri.rs.1, f2, bdD_t, f_R_thrown, bd_t, z, if_true]
    by_cases cz : c = 0
    · simp only [if_pos cz, kd_t iv.ok.1, iv.ok.2, gi0 1 (show 0 < 1 by omega) (show 1 < 2 ^ 31 by omega), show (0 : Int32).toNatClampNeg = 0 from rfl, dl cz, lg_0, if_true, f_L_law_J1059, f_L_law_J1102, H9]
    · simp only [if_neg cz, f_L_law_J1059, f_L_law_J1102, H9]
  rw [if_neg c16]
  by_cases c17 : w = 17
  · rw [if_pos c17]
    obtain ⟨r, e, f1, f2, iv⟩ := st_outcome h 
    refine ⟨S, e, _, A, _, 0, 0, iv, by omega, by omega, ?_⟩
    simp only [lt_t, nn_t, kd_t k0, f1, bdD_t, bd_t, kd_t k10, f2]
    rw [if_pos lg_0, ac_0, f_L_law_J1102, H9]
  rw [if_neg c17]
  by_cases c18 : w = 18
  · rw [if_pos c18]
    obtain ⟨r, e, f1, f2, iv⟩ := st_seen h (f (nI (9 * k) + 1).toNatClampNeg)
    refine ⟨S, e, _, A, _, 0, 0, iv, by omega, by omega, ?_⟩
    simp only [H1, lt_t, nn_t, kd_t k0, f1, bdD_t, bd_t, kd_t k10, f2]
    rw [if_pos lg_0, ac_0, f_L_law_J1102, H9]
  rw [if_neg c18]
  exact ⟨S, d, s, A, q, 0, 0, h, by omega, by omega, by rw [ac_0, f_L_law_J1102, H9]⟩
theorem law_loop (h : IV S d x s A q) {L : Nat} {f : Nat → Int32} (hL : L ≤ 4608) : ∃ S' d' dc ds, itr (f_L_law_B23 L f) (fun _ _ _ _ _ _ => none) fu S d (some x) (some (x + 28)) (some (x + 64)) 0 = some ((1, S', d'), dc, ds) ∧ dc ≤ 512000 ∧ ds ≤ 5120000 := by
  have key := itr_q (B := f_L_law_B23 L f) (z := fun _ _ _ _ _ _ => none) (fun (y : Nat × gS × gD × Nat × Nat) K => ac y.2.2.2.1 y.2.2.2.2 (K y.2.1 y.2.2.1 (some x) (some (x + 28)) (some (x + 64)) (nI (9 * y.1)))) (fun r => ∃ S' d' dc ds, r = some ((1, S', d'), dc, ds) ∧ dc ≤ 512000 ∧ ds ≤ 5120000) (fun k y => y.1 = k ∧ (∃ s A q, IV y.2.1 y.2.2.1 x s A q) ∧ y.2.2.2.1 ≤ 1000 * k ∧ y.2.2.2.2 ≤ 10000 * k) (L / 9) (by omega) ?_ ?_ (x := (0, S, d, 0, 0)) ⟨rfl, ⟨s, A, q, h⟩, Nat.zero_le _, Nat.zero_le _⟩
  · obtain ⟨S', d', dc, ds, e, h1, h2⟩ := key
    refine ⟨S', d', dc, ds, ?_, h1, h2⟩
    rw [ac_0] at e
    exact e
  · rintro k hk ⟨k', S1, d1, n, m⟩ ⟨rfl, ⟨s1, A1, q1, iv⟩, hn, hm⟩ K hK
    obtain ⟨S2, d2, s2, A2, q2, n2, m2, iv2, hn2, hm2, e⟩ := law_step iv (k := k') (L := L) (f := f) (by omega) hL K
    have := hK (k' + 1, S2, d2, n + n2, m + m2) ⟨rfl, ⟨s2, A2, q2, iv2⟩, by show n + n2 ≤ _; simp only at hn; omega, by show m + m2 ≤ _; simp only at hm; omega⟩
    show ∃ S' d' dc ds, ac n m _ = _ ∧ _
    rw [e, ac_ac]
    exact this
  · rintro ⟨k', S1, d1, n, m⟩ ⟨rfl, ⟨s1, A1, q1, iv⟩, hn, hm⟩ K
    simp only at hn hm
    refine ⟨S1, d1, n, m, ?_, by omega, by omega⟩
    show ac n m (f_L_law_B23 L f K S1 d1 (some x) (some (x + 28)) (some (x + 64)) (nI (9 * (L / 9)))) = _
    unfold f_L_law_B23
    rw [if_pos]
    · show some (_, 0 + n, 0 + m) = _
      rw [Nat.zero_add, Nat.zero_add]
    · show nI L - 9 < nI (9 * (L / 9))
      by_cases c : 9 ≤ L
      · rw [l9_s L c, ni_lt _ _ (by omega) (by omega)]
        omega
      · rw [show 9 * (L / 9) = 0 by omega]
        rcases (show L = 0 ∨ L = 1 ∨ L = 2 ∨ L = 3 ∨ L = 4 ∨ L = 5 ∨ L = 6 ∨ L = 7 ∨ L = 8 by omega) with rfl | rfl | rfl | rfl | rfl | rfl | rfl | rfl | rfl <;> decide
end law
