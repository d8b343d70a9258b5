section cls
variable {S S1 : gS} {d d1 : gD} {x : Nat} {s : Nat → Nat → Nat} {A : Nat → Nat → Nat} {U : Nat → Prop} {fl : List (Nat × List Nat)}
def UC (S : gS) (x : Nat) (U : Nat → Prop) : Prop := ∀ v, U v → x + 64 < v ∧ (v < sZ S → SMs S v ∧ v + 4 < sZ S)
theorem npdr_s (u : UC S x U) {o j : Nat} (ho : o ≤ 64) (h9 : ¬ (o = 9 ∧ j = 2)) (h10 : o ≠ 10) (h11 : ¬ (o = 11 ∧ j = 1)) (h12 : o ≠ 12) : ¬ PDr x U (x + o) j := by
  rintro (q | q | q | ⟨v, hv, q⟩)
  · omega
  · omega
  · unfold PRw at q; omega
  · have := (u v hv).1
    unfold PRw at q
    omega
theorem npdr_k (u : UC S x U) {a j : Nat} (ha : a < sZ S) (hlo : x + 64 < a) (h7 : sK S a ≠ 7) (h2 : sK S a = 2 → ∀ v, SMs S v → a ≠ v + 1) (h50 : sK S a = 50 → ∀ v, SMs S v → a ≠ v + 2) : ¬ PDr x U a j := by
  rintro (q | q | q | ⟨v, hv, q⟩)
  · omega
  · omega
  · unfold PRw at q; omega
  · have hu := u v hv
    rcases q with q | q | q
    · have := (hu.2 (by omega)).1.k
      rw [← q.1] at this; exact h7 this
    · have sv := (hu.2 (by omega)).1
      exact h2 (by rw [q.1]; exact sv.r1.k) v sv q.1
    · have sv := (hu.2 (by omega)).1
      exact h50 (by rw [q]; exact sv.r1.ak) v sv q
theorem ce_dr (h : CE S d x s A) (u : UC S x U) (g : Fm (PDr x U) S d S1 d1) : CE S1 d1 x s A := by
  have hx := h.hx
  refine ⟨cs_fm g h.cs hx (fun a j hs => ?_), Nat.lt_of_lt_of_le hx g.1, ⟨?_, fun f hf => ?_, h.F.2.2⟩, fun i hi => ?_, h.M.2⟩
  · rcases hs with ⟨rfl, q⟩ | ⟨rfl, q⟩ | ⟨rfl, q⟩ | ⟨rfl, q⟩ | ⟨rfl, q⟩ | rfl
    · exact npdr_s u (o := 0) (by omega) (by omega) (by omega) (by omega) (by omega)
    · exact npdr_s u (o := 1) (by omega) (by omega) (by omega) (by omega) (by omega)
    · exact npdr_s u (o := 9) (by omega) (by omega) (by omega) (by omega) (by omega)
    · exact npdr_s u (o := 11) (by omega) (by omega) (by omega) (by omega) (by omega)
    · exact npdr_s u (o := 13) (by omega) (by omega) (by omega) (by omega) (by omega)
    · exact npdr_s u (o := 7) (by omega) (by omega) (by omega) (by omega) (by omega)
  · exact (fm_I g (by omega) (npdr_s u (o := 0) (by omega) (by omega) (by omega) (by omega) (by omega))).trans h.F.1
  · have c := h.F.2.1 f hf
    have lo := c.lo
    have hi := c.hi
    have sh := c.sh
    refine fc_fm g c hx (npdr_s u (o := 4) (by omega) (by omega) (by omega) (by omega) (by omega)) (fun j _ => npdr_k u (by omega) (by omega) (by rw [sh.k]; omega) (fun e => by rw [sh.k] at e; omega) (fun e => by rw [sh.k] at e; omega)) (fun j => npdr_k u (by omega) (by omega) (by rw [sh.k1]; omega) (fun e => by rw [sh.k1] at e; omega) (fun _ v sv e => ?_)) (fun j => npdr_k u (by omega) (by omega) (by rw [sh.k2]; omega) (fun e => by rw [sh.k2] at e; omega) (fun e => by rw [sh.k2] at e; omega))
    have k1 := sv.r1.k
    rw [show v + 1 = A 0 f by omega, sh.k] at k1
    cases k1
  · have o := h.M.1 i hi
    have lo := o.lo
    have hh := o.hi
    refine om_fm g o (fun j => ?_)
    rcases lo with lo | lo
    · refine ⟨npdr_k u (by omega) (by omega) (by rw [o.k]; omega) (fun e => by rw [o.k] at e; omega) (fun e => by rw [o.k] at e; omega), npdr_k u (by omega) (by omega) (by rw [o.rs.k]; omega) (fun _ v sv e => ?_) (fun e => by rw [o.rs.k] at e; omega), npdr_k u (by omega) (by omega) (by rw [o.rs.ak]; omega) (fun e => by rw [o.rs.ak] at e; omega) (fun _ v sv e => ?_)⟩
      · have k1 := sv.k
        rw [show v = A 1 i by omega, o.k] at k1; cases k1
      · have k1 := sv.k
        rw [show v = A 1 i by omega, o.k] at k1; cases k1
    · obtain ⟨q, hq⟩ : ∃ q, A 1 i = x + q := ⟨A 1 i - x, by omega⟩
      rw [hq] at lo ⊢
      exact ⟨npdr_s u (by omega) (by omega) (by omega) (by omega) (by omega), by rw [Nat.add_assoc]; exact npdr_s u (by omega) (by omega) (by omega) (by omega) (by omega), by rw [Nat.add_assoc]; exact npdr_s u (by omega) (by omega) (by omega) (by omega) (by omega)⟩
theorem ct_dr (t : CT d x s) (hx : x + 64 < sZ S) (u : UC S x U) (g : Fm (PDr x U) S d S1 d1) : CT d1 x s :=
  ct_fm g t hx (npdr_s u (by omega) (by omega) (by omega) (by omega) (by omega)) (fun j => npdr_s u (by omega) (by omega) (by omega) (by omega) (by omega))
theorem al_dr (h : CE S d x s A) (u : UC S x U) (g : Fm (PDr x U) S d S1 d1) {f : Nat} (hf : f < s 5 0) {l : List Nat} (al : AL S d A (A 0 f) l) : AL S1 d1 A (A 0 f) l := by
  have c := h.F.2.1 f hf
  have lo := c.lo
  have hi := c.hi
  have sh := c.sh
  exact ⟨(fm_I g (by omega) (npdr_k u (by omega) (by omega) (by rw [sh.k]; omega) (fun e => by rw [sh.k] at e; omega) (fun e => by rw [sh.k] at e; omega))).trans al.1, fun i hi' => (fm_P g (by omega) (npdr_k u (by omega) (by omega) (by rw [sh.k3]; omega) (fun e => by rw [sh.k3] at e; omega) (fun e => by rw [sh.k3] at e; omega))).trans (al.2 i hi')⟩
def FB (S : gS) (d : gD) (x : Nat) (s : Nat → Nat → Nat) (A : Nat → Nat → Nat) (U : Nat → Prop) : Prop := (BI s) ∧ (CE S d x s A) ∧ (CT d x s) ∧ (UC S x U) ∧ (∀ v, sZ S ≤ v → U v) ∧ (∀ g, g < s 5 0 → AL S d A (A 0 g) (lst s g))
theorem FB.b {S : gS} {d : gD} {x : Nat} {s : Nat → Nat → Nat} {A : Nat → Nat → Nat} {U : Nat → Prop} (h : FB S d x s A U) : BI s := h.1
theorem FB.ce {S : gS} {d : gD} {x : Nat} {s : Nat → Nat → Nat} {A : Nat → Nat → Nat} {U : Nat → Prop} (h : FB S d x s A U) : CE S d x s A := h.2.1
theorem FB.t {S : gS} {d : gD} {x : Nat} {s : Nat → Nat → Nat} {A : Nat → Nat → Nat} {U : Nat → Prop} (h : FB S d x s A U) : CT d x s := h.2.2.1
theorem FB.u {S : gS} {d : gD} {x : Nat} {s : Nat → Nat → Nat} {A : Nat → Nat → Nat} {U : Nat → Prop} (h : FB S d x s A U) : UC S x U := h.2.2.2.1
theorem FB.nu {S : gS} {d : gD} {x : Nat} {s : Nat → Nat → Nat} {A : Nat → Nat → Nat} {U : Nat → Prop} (h : FB S d x s A U) : ∀ v, sZ S ≤ v → U v := h.2.2.2.2.1
theorem FB.al {S : gS} {d : gD} {x : Nat} {s : Nat → Nat → Nat} {A : Nat → Nat → Nat} {U : Nat → Prop} (h : FB S d x s A U) : ∀ g, g < s 5 0 → AL S d A (A 0 g) (lst s g) := h.2.2.2.2.2
def FD (S : gS) (d : gD) (x : Nat) (s : Nat → Nat → Nat) (A : Nat → Nat → Nat) (U : Nat → Prop) (S1 : gS) (d1 : gD) (fl : List (Nat × List Nat)) (n : Nat) (m : Nat) : Prop := (Fm (PDr x U) S d S1 d1) ∧ (DK S1 x U) ∧ (DC S1 d1 x A (perm s fl)) ∧ (GF s fl) ∧ (UQ s fl) ∧ (n ≤ 5 * fl.length) ∧ (m ≤ 39 * fl.length)
theorem FD.fm {S : gS} {d : gD} {x : Nat} {s : Nat → Nat → Nat} {A : Nat → Nat → Nat} {U : Nat → Prop} {S1 : gS} {d1 : gD} {fl : List (Nat × List Nat)} {n : Nat} {m : Nat} (h : FD S d x s A U S1 d1 fl n m) : Fm (PDr x U) S d S1 d1 := h.1
theorem FD.K {S : gS} {d : gD} {x : Nat} {s : Nat → Nat → Nat} {A : Nat → Nat → Nat} {U : Nat → Prop} {S1 : gS} {d1 : gD} {fl : List (Nat × List Nat)} {n : Nat} {m : Nat} (h : FD S d x s A U S1 d1 fl n m) : DK S1 x U := h.2.1
theorem FD.C {S : gS} {d : gD} {x : Nat} {s : Nat → Nat → Nat} {A : Nat → Nat → Nat} {U : Nat → Prop} {S1 : gS} {d1 : gD} {fl : List (Nat × List Nat)} {n : Nat} {m : Nat} (h : FD S d x s A U S1 d1 fl n m) : DC S1 d1 x A (perm s fl) := h.2.2.1
theorem FD.g {S : gS} {d : gD} {x : Nat} {s : Nat → Nat → Nat} {A : Nat → Nat → Nat} {U : Nat → Prop} {S1 : gS} {d1 : gD} {fl : List (Nat × List Nat)} {n : Nat} {m : Nat} (h : FD S d x s A U S1 d1 fl n m) : GF s fl := h.2.2.2.1
theorem FD.uq {S : gS} {d : gD} {x : Nat} {s : Nat → Nat → Nat} {A : Nat → Nat → Nat} {U : Nat → Prop} {S1 : gS} {d1 : gD} {fl : List (Nat × List Nat)} {n : Nat} {m : Nat} (h : FD S d x s A U S1 d1 fl n m) : UQ s fl := h.2.2.2.2.1
theorem FD.n1 {S : gS} {d : gD} {x : Nat} {s : Nat → Nat → Nat} {A : Nat → Nat → Nat} {U : Nat → Prop} {S1 : gS} {d1 : gD} {fl : List (Nat × List Nat)} {n : Nat} {m : Nat} (h : FD S d x s A U S1 d1 fl n m) : n ≤ 5 * fl.length := h.2.2.2.2.2.1
theorem FD.n2 {S : gS} {d : gD} {x : Nat} {s : Nat → Nat → Nat} {A : Nat → Nat → Nat} {U : Nat → Prop} {S1 : gS} {d1 : gD} {fl : List (Nat × List Nat)} {n : Nat} {m : Nat} (h : FD S d x s A U S1 d1 fl n m) : m ≤ 39 * fl.length := h.2.2.2.2.2.2
theorem gf_vx (b : BI s) (g : GF s fl) {i : Nat} (hi : i < fl.length) : vx s (fl.getD i df).1 ∧ cl (fl.getD i df).2 := by
  have h1 := g.2.1 i hi
  refine ⟨?_, h1.2⟩
  rcases g.2.2 i hi with q | q
  · exact .inr ⟨q, h1.1⟩
  · exact .inl q
theorem perm_vx (b : BI s) (g : GF s fl) {i : Nat} (hi : i < (perm s fl).length) : vx s ((perm s fl).getD i df).1 ∧ cl ((perm s fl).getD i df).2 := by
  rw [perm_len] at hi
  rw [perm_at hi]
  exact gf_vx b g ((ord_full.2 _).mp (getD_mem (by rw [ord_full.1]; exact hi)))
theorem fd_take {n m : Nat} (B : FB S d x s A U) (F : FD S d x s A U S1 d1 fl n m) {y : Nat} (hy : vx s y) : ∃ S2 d2 n2 m2, f_Dr_take S1 d1 (x + 9) (some (A 1 y)) = some (((), S2, d2), n2, m2) ∧ FD S d x s A U S2 d2 (tk s fl y) (n + n2) (m + m2) := by
  have ce1 := ce_dr B.ce B.u F.fm
  have t1 := ct_dr B.t B.ce.hx B.u F.fm
  have hlen := GF_len F.g
  have hy75 := vx_lt B.b hy
  have hyv : 72 ≤ y ∨ vm s y := by
    rcases hy with q | q
    · exact .inr q
    · exact .inl q.1
  have gtk := GF_tk B.b F.g hy75 hyv
  have ltk := GF_len gtk
  have ep := perm_tk F.uq y
  have elen : (tkC s (perm s fl) y).length = (tk s fl y).length := by rw [← ep, perm_len]
  obtain ⟨S2, d2, n2, m2, f2, h1, h2, m2', K2, C2⟩ := c_take ce1 t1 B.b F.K (fun v hv => B.nu v (Nat.le_trans F.fm.1 hv)) F.C (fun i hi => perm_vx B.b F.g hi) (by rw [perm_len]; exact hlen) hy (fun hn => by
    have e : (tkC s (perm s fl) y).length = (perm s fl).length + 1 := by
      unfold tkC; rw [if_neg hn, iL_pl, ins_len]
      have := pl_sp (s := s) (D := perm s fl) (y := y) (perm s fl).length (Nat.le_refl _)
      omega
    rw [elen] at e
    omega)
  rw [elen, perm_len] at h1 h2
  rw [← ep] at C2
  have a1 := F.n1
  have a2 := F.n2
  exact ⟨S2, d2, n2, m2, f2, fm_t F.fm m2', K2, C2, gtk, UQ_tk F.uq y, by omega, by omega⟩
theorem c_fd_75 {n m : Nat} (B : FB S d x s A U) (F : FD S d x s A U S1 d1 fl n m) {f : Nat} (hf : f < s 5 0) {v1 v2 : Int32} {kx : gS → gD → Int32 → Int32 → Option ((Unit × gS × gD) × Nat × Nat)} {z : gS → gD → Int32 → Int32 → Option Nat → Int32 → Option ((Unit × gS × gD) × Nat × Nat)} (Q : Option ((Unit × gS × gD) × Nat × Nat) → Prop) (hk : ∀ S' d' n' m', FD S d x s A U S' d' (tkL s fl (lst s f) (lst s f).length) n' m' → Q (ac n' m' (kx S' d' v1 v2))) : Q (ac n m (itr (f_M_fillDraft_B75 x kx) z fu S1 d1 v1 v2 (some (A 0 f)) 0)) := by
  have gll := gl_lst B.b _ f (Nat.lt_succ_self f) hf
  have hl := gl_len B.b gll
  refine itr_q (B := f_M_fillDraft_B75 x kx) (fun (y : gS × gD × Nat × Nat × Nat) K => ac y.2.2.1 y.2.2.2.1 (K y.1 y.2.1 v1 v2 (some (A 0 f)) (nI y.2.2.2.2))) Q (fun k y => y.2.2.2.2 = k ∧ FD S d x s A U y.1 y.2.1 (tkL s fl (lst s f) k) y.2.2.1 y.2.2.2.1) (lst s f).length (by omega) ?_ ?_ (x := (S1, d1, n, m, 0)) ⟨rfl, F⟩
  · rintro k hkk ⟨S3, d3, n3, m3, k'⟩ ⟨rfl, F3⟩ K hK
    simp only at hkk F3 hK ⊢
    have ce3 := ce_dr B.ce B.u F3.fm
    have c3 := ce3.F.2.1 f hf
    have al := al_dr B.ce B.u F3.fm hf (B.al f hf)
    obtain ⟨S4, d4, n4, m4, f4, F4⟩ := fd_take B F3 (vx_vm (gll.2 _ (getD_mem hkk)))
    simp (maxSteps := 1000000) (disch := omega) only [f_M_fillDraft_B75, kd_t (cs_K0 ce3.cs), cs_P0_0 ce3.cs, kd_t (cs_K1 ce3.cs), cs_P1_0 ce3.cs, kd_t (cs_K2 ce3.cs), cs_N2 ce3.cs, cs_P0_1 ce3.cs, kd_t (cs_K3 ce3.cs), cs_N3 ce3.cs, cs_P0_3 ce3.cs, kd_t (cs_K4 ce3.cs), cs_N4 ce3.cs, cs_P0_5 ce3.cs, kd_t (cs_K5 ce3.cs), cs_N5 ce3.cs, cs_P0_6 ce3.cs, kd_t (cs_K6 ce3.cs), cs_N6 ce3.cs, cs_P0_8 ce3.cs, kd_t (cs_K7 ce3.cs), cs_N7 ce3.cs, cs_P0_9 ce3.cs, kd_t (cs_K8 ce3.cs), cs_N8 ce3.cs, cs_P0_11 ce3.cs, kd_t (cs_K9 ce3.cs), cs_P9_0 ce3.cs, cs_P9_1 ce3.cs, kd_t (cs_K10 ce3.cs), cs_N10 ce3.cs, cs_P9_3 ce3.cs, kd_t (cs_K11 ce3.cs), cs_P11_0 ce3.cs, kd_t (cs_K12 ce3.cs), cs_N12 ce3.cs, cs_P0_12 ce3.cs, kd_t (cs_K13 ce3.cs), cs_P13_0 ce3.cs, kd_t (cs_K14 ce3.cs), cs_N14 ce3.cs, cs_P13_2 ce3.cs, kd_t (cs_K15 ce3.cs), cs_N15 ce3.cs, cs_P13_4 ce3.cs, kd_t (cs_K16 ce3.cs), cs_N16 ce3.cs, cs_P0_16 ce3.cs, kd_t (cs_K17 ce3.cs), cs_N17 ce3.cs, cs_P0_17 ce3.cs, kd_t (cs_K18 ce3.cs), cs_N18 ce3.cs, cs_P7_0 ce3.cs, cs_P7_1 ce3.cs, cs_P7_2 ce3.cs, l1_m, l1_a, l1_b, l1_s, l1_e, l1_le, l1_ge, l1_lt, l1_gt, lt_t, nn_t, bd_t, bdD_t, bdP_t, nI_clamp, gi_n, nI_add, nI_1, pk_mul, b2_eq0, b2_01, nb_t, if_true, if_false, ni_le, ni_eq, ni_lt, kd_t c3.sh.k, al.1, c3.sh.p8, kd_t c3.sh.k3, c3.sh.n3, al.2 k' hkk, f4, bdA_t]
    rw [if_neg (by omega), ac_ac]
    exact hK (S4, d4, n3 + n4, m3 + m4, k' + 1) ⟨rfl, F4⟩
  · rintro ⟨S3, d3, n3, m3, k'⟩ ⟨rfl, F3⟩ K
    simp only at F3 ⊢
    have ce3 := ce_dr B.ce B.u F3.fm
    have c3 := ce3.F.2.1 f hf
    have al := al_dr B.ce B.u F3.fm hf (B.al f hf)
    simp (maxSteps := 1000000) (disch := omega) only [f_M_fillDraft_B75, kd_t (cs_K0 ce3.cs), cs_P0_0 ce3.cs, kd_t (cs_K1 ce3.cs), cs_P1_0 ce3.cs, kd_t (cs_K2 ce3.cs), cs_N2 ce3.cs, cs_P0_1 ce3.cs, kd_t (cs_K3 ce3.cs), cs_N3 ce3.cs, cs_P0_3 ce3.cs, kd_t (cs_K4 ce3.cs), cs_N4 ce3.cs, cs_P0_5 ce3.cs, kd_t (cs_K5 ce3.cs), cs_N5 ce3.cs, cs_P0_6 ce3.cs, kd_t (cs_K6 ce3.cs), cs_N6 ce3.cs, cs_P0_8 ce3.cs, kd_t (cs_K7 ce3.cs), cs_N7 ce3.cs, cs_P0_9 ce3.cs, kd_t (cs_K8 ce3.cs), cs_N8 ce3.cs, cs_P0_11 ce3.cs, kd_t (cs_K9 ce3.cs), cs_P9_0 ce3.cs, cs_P9_1 ce3.cs, kd_t (cs_K10 ce3.cs), cs_N10 ce3.cs, cs_P9_3 ce3.cs, kd_t (cs_K11 ce3.cs), cs_P11_0 ce3.cs, kd_t (cs_K12 ce3.cs), cs_N12 ce3.cs, cs_P0_12 ce3.cs, kd_t (cs_K13 ce3.cs), cs_P13_0 ce3.cs, kd_t (cs_K14 ce3.cs), cs_N14 ce3.cs, cs_P13_2 ce3.cs, kd_t (cs_K15 ce3.cs), cs_N15 ce3.cs, cs_P13_4 ce3.cs, kd_t (cs_K16 ce3.cs), cs_N16 ce3.cs, cs_P0_16 ce3.cs, kd_t (cs_K17 ce3.cs), cs_N17 ce3.cs, cs_P0_17 ce3.cs, kd_t (cs_K18 ce3.cs), cs_N18 ce3.cs, cs_P7_0 ce3.cs, cs_P7_1 ce3.cs, cs_P7_2 ce3.cs, l1_m, l1_a, l1_b, l1_s, l1_e, l1_le, l1_ge, l1_lt, l1_gt, lt_t, nn_t, bd_t, bdD_t, bdP_t, nI_clamp, gi_n, nI_add, nI_1, pk_mul, b2_eq0, b2_01, nb_t, if_true, if_false, ni_le, ni_eq, ni_lt, kd_t c3.sh.k, al.1]
    rw [if_pos (Nat.le_refl _)]
    exact hk S3 d3 n3 m3 F3
theorem c_fd_50 {n m : Nat} (B : FB S d x s A U) {v : Int32} (ho : okL s v) (F : FD S d x s A U S1 d1 (rts s 3) n m) {z : gS → gD → Int32 → Int32 → Option ((Unit × gS × gD) × Nat × Nat)} : ∃ S' d' n' m', ac n m (itr (f_M_fillDraft_B50 x) z fu S1 d1 v 0) = some (((), S', d'), n', m') ∧ FD S d x s A U S' d' (dsc s v) n' m' := by
  have hl := ln_le v
  have hF := B.b.faces
  refine itr_q (B := f_M_fillDraft_B50 x) (fun (y : gS × gD × Nat × Nat × Nat) K => ac y.2.2.1 y.2.2.2.1 (K y.1 y.2.1 v (nI y.2.2.2.2))) (fun r => ∃ S' d' n' m', r = some (((), S', d'), n', m') ∧ FD S d x s A U S' d' (dsc s v) n' m') (fun k y => y.2.2.2.2 = k ∧ FD S d x s A U y.1 y.2.1 (dscK s v k) y.2.2.1 y.2.2.2.1) (ln v) (by omega) ?_ ?_ (x := (S1, d1, n, m, 0)) ⟨rfl, F⟩
  · rintro k hkk ⟨S3, d3, n3, m3, k'⟩ ⟨rfl, F3⟩ K hK
    simp only at hkk F3 hK ⊢
    have ce3 := ce_dr B.ce B.u F3.fm
    have hok := ho k' hkk
    have c3 := ce3.F.2.1 (ub v k' - 24) (by omega)
    simp (maxSteps := 1000000) (disch := omega) only [f_M_fillDraft_B50, kd_t (cs_K0 ce3.cs), cs_P0_0 ce3.cs, kd_t (cs_K1 ce3.cs), cs_P1_0 ce3.cs, kd_t (cs_K2 ce3.cs), cs_N2 ce3.cs, cs_P0_1 ce3.cs, kd_t (cs_K3 ce3.cs), cs_N3 ce3.cs, cs_P0_3 ce3.cs, kd_t (cs_K4 ce3.cs), cs_N4 ce3.cs, cs_P0_5 ce3.cs, kd_t (cs_K5 ce3.cs), cs_N5 ce3.cs, cs_P0_6 ce3.cs, kd_t (cs_K6 ce3.cs), cs_N6 ce3.cs, cs_P0_8 ce3.cs, kd_t (cs_K7 ce3.cs), cs_N7 ce3.cs, cs_P0_9 ce3.cs, kd_t (cs_K8 ce3.cs), cs_N8 ce3.cs, cs_P0_11 ce3.cs, kd_t (cs_K9 ce3.cs), cs_P9_0 ce3.cs, cs_P9_1 ce3.cs, kd_t (cs_K10 ce3.cs), cs_N10 ce3.cs, cs_P9_3 ce3.cs, kd_t (cs_K11 ce3.cs), cs_P11_0 ce3.cs, kd_t (cs_K12 ce3.cs), cs_N12 ce3.cs, cs_P0_12 ce3.cs, kd_t (cs_K13 ce3.cs), cs_P13_0 ce3.cs, kd_t (cs_K14 ce3.cs), cs_N14 ce3.cs, cs_P13_2 ce3.cs, kd_t (cs_K15 ce3.cs), cs_N15 ce3.cs, cs_P13_4 ce3.cs, kd_t (cs_K16 ce3.cs), cs_N16 ce3.cs, cs_P0_16 ce3.cs, kd_t (cs_K17 ce3.cs), cs_N17 ce3.cs, cs_P0_17 ce3.cs, kd_t (cs_K18 ce3.cs), cs_N18 ce3.cs, cs_P7_0 ce3.cs, cs_P7_1 ce3.cs, cs_P7_2 ce3.cs, l0_e, l0_le, l0_ge, l0_lt, l0_gt, l24_m, l24_a, l24_b, l24_s, l24_e, l24_le, l24_ge, l24_lt, l24_gt, lt_t, nn_t, bd_t, bdD_t, bdP_t, nI_clamp, gi_n, nI_add, nI_1, pk_mul, b2_eq0, b2_01, nb_t, if_true, if_false, ni_le, ni_eq, ni_lt, c_lengthOf v, c_byteOf v (show k' < 4 by omega), c3.p]
    rw [if_neg (by omega)]
    refine c_fd_75 B F3 (f := ub v k' - 24) (by omega) (fun r => ∃ S' d' n' m', r = some (((), S', d'), n', m') ∧ FD S d x s A U S' d' (dsc s v) n' m') ?_
    intro S4 d4 n4 m4 F4
    simp (maxSteps := 1000000) (disch := omega) only [f_M_fillDraft_J104, l1_m, l1_a, l1_b, l1_s, l1_e, l1_le, l1_ge, l1_lt, l1_gt, lt_t, nn_t, bd_t, bdD_t, bdP_t, nI_clamp, gi_n, nI_add, nI_1, pk_mul, b2_eq0, b2_01, nb_t, if_true, if_false, ni_le, ni_eq, ni_lt]
    exact hK (S4, d4, n4, m4, k' + 1) ⟨rfl, F4⟩
  · rintro ⟨S3, d3, n3, m3, k'⟩ ⟨rfl, F3⟩ K
    simp only at F3 ⊢
    simp (maxSteps := 1000000) (disch := omega) only [f_M_fillDraft_B50, l0_e, l0_le, l0_ge, l0_lt, l0_gt, l24_m, l24_a, l24_b, l24_s, l24_e, l24_le, l24_ge, l24_lt, l24_gt, lt_t, nn_t, bd_t, bdD_t, bdP_t, nI_clamp, gi_n, nI_add, nI_1, pk_mul, b2_eq0, b2_01, nb_t, if_true, if_false, ni_le, ni_eq, ni_lt, c_lengthOf v]
    rw [if_pos (Nat.le_refl _)]
    exact ⟨S3, d3, 0 + n3, 0 + m3, rfl, by rw [Nat.zero_add, Nat.zero_add]; exact F3⟩
theorem c_fd_11 (B : FB S d x s A U) (r : RT s) (K0 : DK S x U) {v : Int32} (ho : okL s v) : ∃ S' d' n' m', f_M_fillDraft_J11 x S d v = some (((), S', d'), n', m') ∧ FD S d x s A U S' d' (dsc s v) n' m' := by
  have hcs := B.ce.cs
  have e3 : Int32.ofNat 3 = nI 3 := rfl
  have C0 : DC S (wI d (x + 9) 2 0) x A (perm s (rts s 0)) := ⟨by rw [dI_wI, if_pos ⟨rfl, rfl⟩]; rfl, fun i hi => absurd hi (Nat.not_lt_zero _)⟩
  have F0 : FD S d x s A U S (wI d (x + 9) 2 0) (rts s 0) 0 0 := ⟨fm_wI (.inl ⟨rfl, rfl⟩), K0, C0, (GF_rts B.b 0 (by omega)).1, fun i j hi => absurd hi (Nat.not_lt_zero _), by omega, by omega⟩
  simp (maxSteps := 1000000) (disch := omega) only [f_M_fillDraft_J11, f_Dr_clear, kd_t (cs_K0 hcs), cs_P0_0 hcs, kd_t (cs_K1 hcs), cs_P1_0 hcs, kd_t (cs_K2 hcs), cs_N2 hcs, cs_P0_1 hcs, kd_t (cs_K3 hcs), cs_N3 hcs, cs_P0_3 hcs, kd_t (cs_K4 hcs), cs_N4 hcs, cs_P0_5 hcs, kd_t (cs_K5 hcs), cs_N5 hcs, cs_P0_6 hcs, kd_t (cs_K6 hcs), cs_N6 hcs, cs_P0_8 hcs, kd_t (cs_K7 hcs), cs_N7 hcs, cs_P0_9 hcs, kd_t (cs_K8 hcs), cs_N8 hcs, cs_P0_11 hcs, kd_t (cs_K9 hcs), cs_P9_0 hcs, cs_P9_1 hcs, kd_t (cs_K10 hcs), cs_N10 hcs, cs_P9_3 hcs, kd_t (cs_K11 hcs), cs_P11_0 hcs, kd_t (cs_K12 hcs), cs_N12 hcs, cs_P0_12 hcs, kd_t (cs_K13 hcs), cs_P13_0 hcs, kd_t (cs_K14 hcs), cs_N14 hcs, cs_P13_2 hcs, kd_t (cs_K15 hcs), cs_N15 hcs, cs_P13_4 hcs, kd_t (cs_K16 hcs), cs_N16 hcs, cs_P0_16 hcs, kd_t (cs_K17 hcs), cs_N17 hcs, cs_P0_17 hcs, kd_t (cs_K18 hcs), cs_N18 hcs, cs_P7_0 hcs, cs_P7_1 hcs, cs_P7_2 hcs, l0_e, l0_le, l0_ge, l0_lt, l0_gt, lt_t, nn_t, bd_t, bdD_t, bdP_t, nI_clamp, gi_n, nI_add, nI_1, pk_mul, b2_eq0, b2_01, nb_t, if_true, if_false, ni_le, ni_eq, ni_lt]
  have key : ∀ (z : gS → gD → Int32 → Int32 → Option ((Unit × gS × gD) × Nat × Nat)), (fun r => ∃ S' d' n' m', r = some (((), S', d'), n', m') ∧ FD S d x s A U S' d' (dsc s v) n' m') (ac 0 0 (itr (f_M_fillDraft_B20 x (f_M_fillDraft_J48 x)) z fu S (wI d (x + 9) 2 0) v 0)) := by
    intro z
    refine itr_q (B := f_M_fillDraft_B20 x (f_M_fillDraft_J48 x)) (fun (y : gS × gD × Nat × Nat × Nat) K => ac y.2.2.1 y.2.2.2.1 (K y.1 y.2.1 v (nI y.2.2.2.2))) (fun r => ∃ S' d' n' m', r = some (((), S', d'), n', m') ∧ FD S d x s A U S' d' (dsc s v) n' m') (fun k y => y.2.2.2.2 = k ∧ FD S d x s A U y.1 y.2.1 (rts s k) y.2.2.1 y.2.2.2.1) 3 (by omega) ?_ ?_ (x := (S, wI d (x + 9) 2 0, 0, 0, 0)) ⟨rfl, F0⟩
    · rintro k hkk ⟨S3, d3, n3, m3, k'⟩ ⟨rfl, F3⟩ K hK
      simp only at hkk F3 hK ⊢
      have ce3 := ce_dr B.ce B.u F3.fm
      obtain ⟨S4, d4, n4, m4, f4, F4⟩ := fd_take B F3 (y := 72 + k') (.inr ⟨by omega, by omega⟩)
      rw [← (rts_tk r k' hkk).1] at F4
      have e7 : sP S3 (x + 7) k' = some (A 1 (72 + k')) := by
        rw [B.ce.M.2 k' hkk]
        have q : ∀ k, k < 3 → sP S3 (x + 7) k = some (x + 19 + 3 * k) := by
          intro k hk
          rcases (show k = 0 ∨ k = 1 ∨ k = 2 by omega) with rfl | rfl | rfl
          · exact cs_P7_0 ce3.cs
          · exact cs_P7_1 ce3.cs
          · exact cs_P7_2 ce3.cs
        exact q k' hkk
      simp (maxSteps := 1000000) (disch := omega) only [f_M_fillDraft_B20, kd_t (cs_K0 ce3.cs), cs_P0_0 ce3.cs, kd_t (cs_K1 ce3.cs), cs_P1_0 ce3.cs, kd_t (cs_K2 ce3.cs), cs_N2 ce3.cs, cs_P0_1 ce3.cs, kd_t (cs_K3 ce3.cs), cs_N3 ce3.cs, cs_P0_3 ce3.cs, kd_t (cs_K4 ce3.cs), cs_N4 ce3.cs, cs_P0_5 ce3.cs, kd_t (cs_K5 ce3.cs), cs_N5 ce3.cs, cs_P0_6 ce3.cs, kd_t (cs_K6 ce3.cs), cs_N6 ce3.cs, cs_P0_8 ce3.cs, kd_t (cs_K7 ce3.cs), cs_N7 ce3.cs, cs_P0_9 ce3.cs, kd_t (cs_K8 ce3.cs), cs_N8 ce3.cs, cs_P0_11 ce3.cs, kd_t (cs_K9 ce3.cs), cs_P9_0 ce3.cs, cs_P9_1 ce3.cs, kd_t (cs_K10 ce3.cs), cs_N10 ce3.cs, cs_P9_3 ce3.cs, kd_t (cs_K11 ce3.cs), cs_P11_0 ce3.cs, kd_t (cs_K12 ce3.cs), cs_N12 ce3.cs, cs_P0_12 ce3.cs, kd_t (cs_K13 ce3.cs), cs_P13_0 ce3.cs, kd_t (cs_K14 ce3.cs), cs_N14 ce3.cs, cs_P13_2 ce3.cs, kd_t (cs_K15 ce3.cs), cs_N15 ce3.cs, cs_P13_4 ce3.cs, kd_t (cs_K16 ce3.cs), cs_N16 ce3.cs, cs_P0_16 ce3.cs, kd_t (cs_K17 ce3.cs), cs_N17 ce3.cs, cs_P0_17 ce3.cs, kd_t (cs_K18 ce3.cs), cs_N18 ce3.cs, cs_P7_0 ce3.cs, cs_P7_1 ce3.cs, cs_P7_2 ce3.cs, l1_m, l1_a, l1_b, l1_s, l1_e, l1_le, l1_ge, l1_lt, l1_gt, lt_t, nn_t, bd_t, bdD_t, bdP_t, nI_clamp, gi_n, nI_add, nI_1, pk_mul, b2_eq0, b2_01, nb_t, if_true, if_false, ni_le, ni_eq, ni_lt, e3, e7, f4, bdA_t]
      rw [if_neg (by omega), ac_ac]
      exact hK (S4, d4, n3 + n4, m3 + m4, k' + 1) ⟨rfl, F4⟩
    · rintro ⟨S3, d3, n3, m3, k'⟩ ⟨rfl, F3⟩ K
      simp only at F3 ⊢
      have ce3 := ce_dr B.ce B.u F3.fm
      simp (maxSteps := 1000000) (disch := omega) only [f_M_fillDraft_B20, f_M_fillDraft_J48, kd_t (cs_K0 ce3.cs), cs_P0_0 ce3.cs, kd_t (cs_K1 ce3.cs), cs_P1_0 ce3.cs, kd_t (cs_K2 ce3.cs), cs_N2 ce3.cs, cs_P0_1 ce3.cs, kd_t (cs_K3 ce3.cs), cs_N3 ce3.cs, cs_P0_3 ce3.cs, kd_t (cs_K4 ce3.cs), cs_N4 ce3.cs, cs_P0_5 ce3.cs, kd_t (cs_K5 ce3.cs), cs_N5 ce3.cs, cs_P0_6 ce3.cs, kd_t (cs_K6 ce3.cs), cs_N6 ce3.cs, cs_P0_8 ce3.cs, kd_t (cs_K7 ce3.cs), cs_N7 ce3.cs, cs_P0_9 ce3.cs, kd_t (cs_K8 ce3.cs), cs_N8 ce3.cs, cs_P0_11 ce3.cs, kd_t (cs_K9 ce3.cs), cs_P9_0 ce3.cs, cs_P9_1 ce3.cs, kd_t (cs_K10 ce3.cs), cs_N10 ce3.cs, cs_P9_3 ce3.cs, kd_t (cs_K11 ce3.cs), cs_P11_0 ce3.cs, kd_t (cs_K12 ce3.cs), cs_N12 ce3.cs, cs_P0_12 ce3.cs, kd_t (cs_K13 ce3.cs), cs_P13_0 ce3.cs, kd_t (cs_K14 ce3.cs), cs_N14 ce3.cs, cs_P13_2 ce3.cs, kd_t (cs_K15 ce3.cs), cs_N15 ce3.cs, cs_P13_4 ce3.cs, kd_t (cs_K16 ce3.cs), cs_N16 ce3.cs, cs_P0_16 ce3.cs, kd_t (cs_K17 ce3.cs), cs_N17 ce3.cs, cs_P0_17 ce3.cs, kd_t (cs_K18 ce3.cs), cs_N18 ce3.cs, cs_P7_0 ce3.cs, cs_P7_1 ce3.cs, cs_P7_2 ce3.cs, l0_e, l0_le, l0_ge, l0_lt, l0_gt, l1_m, l1_a, l1_b, l1_s, l1_e, l1_le, l1_ge, l1_lt, l1_gt, lt_t, nn_t, bd_t, bdD_t, bdP_t, nI_clamp, gi_n, nI_add, nI_1, pk_mul, b2_eq0, b2_01, nb_t, if_true, if_false, ni_le, ni_eq, ni_lt, e3]
      rw [if_pos (by decide)]
      exact c_fd_50 B ho F3
  have := key (fun _ _ _ _ => none)
  rw [ac_0] at this
  exact this
end cls
