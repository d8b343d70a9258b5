section st
variable {S S1 : gS} {d d1 : gD} {x : Nat} {s s' : Nat → Nat → Nat} {A A' : Nat → Nat → Nat} {hd : Nat → Int32} {U W : Nat → Prop} {D : List (Nat × List Nat)} {q : (Nat → Int64) × Int64 × (Nat → Int64) × (Nat → Int32)}
theorem ct_cg (t : CT d x s) (e : ∀ k i, k < 12 → s' k i = s k i) : CT d x s' := by
  have e3 := fun i => e 3 i (by omega)
  have e4 := fun i => e 4 i (by omega)
  have e5 := fun i => e 5 i (by omega)
  have e10 := fun i => e 10 i (by omega)
  have e11 := fun i => e 11 i (by omega)
  have te : TE s' = TE s := by
    funext a c
    unfold TE FE
    simp only [e3, e4, e5, e10, e11]
  have ty' : ∀ a, ty s' a ↔ ty s a := fun a => by unfold ty; rw [e3, e5]
  refine ⟨by rw [e3]; exact t.1, fun a c ha hc => ?_⟩
  rw [ty', te]; exact t.2 a c ha hc
theorem g2_cg (h : G2 d x s q) (e : ∀ k i, k < 20 ∨ k = 28 → s' k i = s k i) : G2 d x s' q := by
  refine ⟨⟨by rw [e 1 0 (by omega)]; exact h.cl.1, h.cl.2.1, fun i h1 h2 => by rw [e 1 0 (by omega)] at h2; rw [e 2 i (by omega)]; exact h.cl.2.2 i h1 h2⟩, ct_cg h.t (fun k i hk => e k i (by omega)), by rw [e 18 0 (by omega)]; exact h.o1, fun i hi => by rw [e 18 0 (by omega)] at hi; rw [e 19 i (by omega)]; exact h.o2 i hi, fun i hi => by rw [e 18 0 (by omega)] at hi; exact h.o3 i hi, by rw [e 28 0 (by omega)]; exact h.fa, h.oc, h.sn⟩
theorem g2_28 (h : G2 d x s q) (F : Nat) : G2 (wI d x 14 (nI F)) x (up2 s 28 0 F) q := by
  have e : ∀ k i, k < 20 → up2 s 28 0 F k i = s k i := fun k i hk => up2_ne (by omega) i
  have t : CT (wI d x 14 (nI F)) x s := ct_ch h.t (ch_w (P := fun a j => a = x) rfl) (by omega)
  refine ⟨⟨?_, ?_, fun i h1 h2 => ?_⟩, ct_cg t (fun k i hk => e k i (by omega)), ?_, fun i hi => ?_, fun i hi => ?_, ?_, h.oc, h.sn⟩
  · rw [e 1 0 (by omega), dI_wI, if_neg (by omega)]; exact h.cl.1
  · rw [dI_wI, if_neg (by omega)]; exact h.cl.2.1
  · rw [e 1 0 (by omega)] at h2
    rw [e 2 i (by omega), dI_wI, if_neg (by omega)]; exact h.cl.2.2 i h1 h2
  · rw [e 18 0 (by omega), dI_wI, if_neg (by omega)]; exact h.o1
  · rw [e 18 0 (by omega)] at hi
    rw [e 19 i (by omega), dI_wI, if_neg (by omega)]; exact h.o2 i hi
  · rw [e 18 0 (by omega)] at hi; exact h.o3 i hi
  · rw [dI_wI, if_pos ⟨rfl, rfl⟩, up2_eq]
theorem ag_28 {F : Nat} : Ag s (up2 s 28 0 F) := ag_same (fun k i _ _ h => up2_ne (by omega) i)
theorem g1_28 (h : G1 S d x s A hd) (b : BI s) (F : Nat) (v : Int32) : G1 S (wI d x 14 v) x (up2 s 28 0 F) A hd :=
  g1_ag (g1_sw (fm_wI (P := fun a j => a = x ∧ j = 14) ⟨rfl, rfl⟩) h (fun a j p => by unfold SW; omega)) b ag_28 (fun k i h1 h2 => up2_ne (by omega) i) (fun k i h1 h2 => up2_ne (by omega) i)
theorem sv_28 (h : SV s q) (b : BI s) (F : Nat) : SV (up2 s 28 0 F) q :=
  sv_ag h b ag_28 (fun i _ => up2_ne (by omega) i) (Nat.le_of_eq (up2_ne (by omega) _).symm) (Nat.le_of_eq (up2_ne (by omega) _).symm) (fun k i h1 h2 => up2_ne (by omega) i)
theorem up2_28 {F G : Nat} : up2 (up2 s 28 0 F) 28 0 G = up2 s 28 0 G := by
  funext k i
  unfold up2
  split <;> rfl
theorem pkK_28 {F : Nat} {v : Int32} : ∀ k, pkK (up2 s 28 0 F) v k = pkK s v k := by
  intro k
  induction k with
  | zero => rfl
  | succ k ih =>
    show (if s 9 (fc v k) = 0 then s 8 (fc v k) else pkK (up2 s 28 0 F) v k) = (if s 9 (fc v k) = 0 then s 8 (fc v k) else pkK s v k)
    rw [ih]
theorem cntP_28 {F pk : Nat} : ∀ k, cntP (up2 s 28 0 F) pk k = cntP s pk k := by
  intro k
  induction k with
  | zero => rfl
  | succ k ih =>
    show (if s 24 k = pk then cntP (up2 s 28 0 F) pk k + 1 else cntP (up2 s 28 0 F) pk k) = (if s 24 k = pk then cntP s pk k + 1 else cntP s pk k)
    rw [ih]
def F1 (s : Nat → Nat → Nat) (l : Nat) (v : Int32) : Nat := if fst (fun k => !vis s l (fc v k)) (ln v) < ln v then 1 else if twK v (ln v) then 2 else if mxK s v (ln v) then 3 else 0
noncomputable def F2 (s : Nat → Nat → Nat) (v : Int32) : Nat := if fst (fun i => wr s (dsc s v) i) (dsc s v).length < (dsc s v).length then 4 else if 40 < (dsc s v).length then 5 else if s 21 0 = 16 then 6 else 0
theorem fault_F {l : Nat} {v : Int32} : fault s l v = if F1 s l v = 0 then F2 s v else F1 s l v := by
  unfold fault F1
  split
  · rfl
  · split
    · rfl
    · split
      · rfl
      · rfl
theorem F1_le {l : Nat} {v : Int32} : F1 s l v ≤ 3 := by
  unfold F1
  (repeat' split) <;> omega
theorem F1_0 {l : Nat} {v : Int32} (h : F1 s l v = 0) : mxK s v (ln v) = false := by
  unfold F1 at h
  cases q : mxK s v (ln v) with
  | false => rfl
  | true =>
    rw [q] at h
    split at h
    · omega
    · split at h
      · omega
      · rw [if_pos rfl] at h; omega
theorem F2_le {v : Int32} : F2 s v ≤ 6 := by
  unfold F2
  (repeat' split) <;> omega
theorem F2_0 {v : Int32} (h : F2 s v = 0) : (dsc s v).length ≤ 40 ∧ s 21 0 ≠ 16 := by
  unfold F2 at h
  split at h
  · omega
  · split at h
    · omega
    · split at h <;> omega
theorem st_in {v1 v2 r : Int32} {n m : Nat} (h : IV S d x s A q) (f : f_M_stand S d x v1 v2 = some ((.inl r, S1, d1), n, m)) (g1 : G1 S1 d1 x s' A' q.2.2.2) (g2 : G2 d1 x s' q) (rp : RP S1 d1 (x + 28) s q) (b : BI s') (sv : SV s' q) (ok : sK S1 (x + 64) = 51 ∧ sN S1 (x + 64) = 1) (hn : n ≤ 1000) (hm : m ≤ 10000) (R : ∀ d9, RP S1 d9 (x + 28) s q → ∃ e, f_R_stand S1 d9 (x + 28) v1 v2 = some (r, e) ∧ RP S1 e (x + 28) s' q ∧ Rf (x + 28) d9 e ∧ dI e (x + 28) 0 = 0) : ∃ k S1 d1 n m r e s' A', f_L_stand S d (some x) v1 v2 (some (x + 64)) = some ((k, S1, d1), n, m) ∧ n ≤ 1000 ∧ m ≤ 10000 ∧ f_R_stand S1 d1 (x + 28) v1 v2 = some (r, e) ∧ IV S1 e x s' A' q ∧ dI e (x + 28) 0 = k ∧ (k = 0 → dL e (x + 64) 0 = Int32.toInt64 r) := by
  have hx := g1.ce.hx
  have fm : Fm (fun a _ => a = x + 64) S1 d1 S1 (wL d1 (x + 64) 0 (Int32.toInt64 r)) := fm_wL rfl
  obtain ⟨e, fe, re, rf, z⟩ := R _ (rp_cf fm rp hx (fun a j p => by omega))
  refine ⟨0, S1, wL d1 (x + 64) 0 (Int32.toInt64 r), n, m, r, e, s', A', ?_, hn, hm, fe, iv_fin (g1_sw fm g1 (fun a j p => by unfold SW; omega)) (g2_fm fm g2 hx (fun a j p => by omega)) re rf b sv ok, z, fun _ => ?_⟩
  · simp only [f_L_stand, nn_t, kd_t (cs_K0 h.g1.ce.cs), f]
    show ac n m (kd S1 (x + 64) 51 _) = _
    rw [kd_t ok.1, ok.2, gi0 1 (by omega) (by omega)]
    show some (_, 0 + n, 0 + m) = _
    rw [Nat.zero_add, Nat.zero_add]; rfl
  · rw [(rf (x + 64) 0 (by omega)).2, dL_wL, if_pos ⟨rfl, rfl⟩]
theorem st_out {v1 v2 : Int32} {n m : Nat} (h : IV S d x s A q) (f : f_M_stand S d x v1 v2 = some ((.inr 2, S1, d1), n, m)) (g1 : G1 S1 d1 x s' A' q.2.2.2) (g2 : G2 d1 x s' q) (rp : RP S1 d1 (x + 28) s q) (b : BI s') (sv : SV s' q) (ok : sK S1 (x + 64) = 51 ∧ sN S1 (x + 64) = 1) (hn : n ≤ 1000) (hm : m ≤ 10000) (R : ∀ d9, RP S1 d9 (x + 28) s q → ∃ r e, f_R_stand S1 d9 (x + 28) v1 v2 = some (r, e) ∧ RP S1 e (x + 28) s' q ∧ Rf (x + 28) d9 e ∧ dI e (x + 28) 0 = 2) : ∃ k S1 d1 n m r e s' A', f_L_stand S d (some x) v1 v2 (some (x + 64)) = some ((k, S1, d1), n, m) ∧ n ≤ 1000 ∧ m ≤ 10000 ∧ f_R_stand S1 d1 (x + 28) v1 v2 = some (r, e) ∧ IV S1 e x s' A' q ∧ dI e (x + 28) 0 = k ∧ (k = 0 → dL e (x + 64) 0 = Int32.toInt64 r) := by
  obtain ⟨r, e, fe, re, rf, z⟩ := R _ rp
  refine ⟨2, S1, d1, n, m, r, e, s', A', ?_, hn, hm, fe, iv_fin g1 g2 re rf b sv ok, z, fun c => absurd c (by decide)⟩
  simp only [f_L_stand, nn_t, kd_t (cs_K0 h.g1.ce.cs), f]
  show some (_, 0 + n, 0 + m) = _
  rw [Nat.zero_add, Nat.zero_add]
theorem st_stand_y (h : IV S d x s A q) {l : Nat} (hl : l < s 1 0) (cL : cIn 0 (nI (s 1 0)) (nI l) = true) {v2 : Int32} (ho : okL s v2) (hX : cln v2 (ln v2) ≠ 0) : ∃ k S1 d1 n m r e s' A', f_L_stand S d (some x) (nI l) v2 (some (x + 64)) = some ((k, S1, d1), n, m) ∧ n ≤ 1000 ∧ m ≤ 10000 ∧ f_R_stand S1 d1 (x + 28) (nI l) v2 = some (r, e) ∧ IV S1 e x s' A' q ∧ dI e (x + 28) 0 = k ∧ (k = 0 → dL e (x + 64) 0 = Int32.toInt64 r) := by
  have hcs := h.g1.ce.cs
  have hx := h.g1.ce.hx
  have hS := h.b.stands
  have hL := h.b.loaders
  have b0 : BI (up2 s 28 0 0) := bi_28 h.b (by omega)
  have e0 : ∀ k i, k ≠ 28 → up2 s 28 0 0 k i = s k i := fun k i hk => up2_ne hk i
  have g10 := g1_28 h.g1 h.b 0 0
  have g20 := g2_28 h.g2 0
  have sv0 := sv_28 h.sv h.b 0
  rw [show nI 0 = 0 from rfl] at g20
  have fm0 : Fm (fun a j => a = x ∧ j = 14) S d S (wI d x 14 0) := fm_wI ⟨rfl, rfl⟩
  have rp0 := rp_cf fm0 h.rp hx (fun a j p => by omega)
  have lo := c_isLoader hcs g20.cl (nI l)
  rw [e0 1 0 (by omega), cL] at lo
  have af := c_areFaces hcs g10.ce.F b0 (cln v2 (ln v2))
  have hcl : f_M_cutAtZero S (wI d x 14 0) v2 = some (cln v2 (ln v2)) := c_cutAtZero v2
  have ry : ∀ S9 d9, RP S9 d9 (x + 28) s q → _ := fun S9 d9 rp => r_stand_y rp h.b hl ho hX
  have lnX : ln (cln v2 (ln v2)) = ln v2 := ln_cln v2
  have oX : okL (up2 s 28 0 0) (cln v2 (ln v2)) := okL_cl.mpr ho
  have hy := xN_lt h.b ho
  generalize cln v2 (ln v2) = X at *
  rw [← lnX] at ry
  rw [decide_eq_true (okL_iff.mp oX)] at af
  have sm := c_standMadeFor g10 b0 (l := l) (by omega) X
  rw [e0 21 0 (by omega), show stHit (up2 s 28 0 0) l X = stHit s l X from rfl] at sm
  by_cases cH : fst (stHit s l X) (s 21 0) < s 21 0
  · rw [if_pos cH] at sm
    refine st_in (r := nI (fst (stHit s l X) (s 21 0))) (n := 0) (m := 0) h ?_ g10 g20 rp0 b0 sv0 h.ok (by omega) (by omega) (fun d9 rp => ?_)
    · simp only [f_M_stand, kd_t (cs_K0 hcs), lt_t, hcl, bd_t, lo, if_neg hX, af, sm]
      rw [if_neg (by decide), if_neg (by decide), if_neg (m1_lt (by omega)).2]
    · obtain ⟨e, r, s', fe, re, rf, dj⟩ := ry S d9 rp
      rcases dj with ⟨-, rfl, rfl, z⟩ | ⟨c, -⟩ | ⟨c, -⟩
      · exact ⟨e, fe, re, rf, z⟩
      · omega
      · omega
  · rw [if_neg cH] at sm
    have fl := c_faultOfList hcs g20.cl g10.ce.F b0 oX (l := l) (by rw [e0 1 0 (by omega)]; exact hl)
    rw [show (if fst (fun k => !vis (up2 s 28 0 0) l (fc X k)) (ln X) < ln X then 1 else if twK X (ln X) then 2 else if mxK (up2 s 28 0 0) X (ln X) then 3 else 0) = F1 (up2 s 28 0 0) l X from rfl] at fl
    have hF1 := F1_le (s := up2 s 28 0 0) (l := l) (v := X)
    have hF := fault_F (s := up2 s 28 0 0) (l := l) (v := X)
    have ev1 : f_M_stand S d x (nI l) v2 = (if nI (F1 (up2 s 28 0 0) l X) = 0 then (bdA (f_M_fillDraft S (wI (wI d x 14 0) x 14 (nI (F1 (up2 s 28 0 0) l X))) x X) fun _ S17 d18 => kd S17 x 1 <| bd (f_M_faultOfDraft S17 d18 x) fun x24 => lt_ (wI d18 x 14 x24) fun d26 => f_M_stand_J87 x S17 d26 (nI l) X) else f_M_stand_J87 x S (wI (wI d x 14 0) x 14 (nI (F1 (up2 s 28 0 0) l X))) (nI l) X) := by
      have g14 : dI (wI (wI d x 14 0) x 14 (nI (F1 (up2 s 28 0 0) l X))) x 14 = nI (F1 (up2 s 28 0 0) l X) := by rw [dI_wI, if_pos ⟨rfl, rfl⟩]
      simp only [f_M_stand, kd_t (cs_K0 hcs), lt_t, hcl, bd_t, lo, if_neg hX, af, sm, fl, g14]
      rw [if_neg (by decide), if_neg (by decide), if_pos trivial]
    by_cases c1 : F1 (up2 s 28 0 0) l X = 0
    · have hmx := F1_0 c1
      rw [if_pos c1] at hF
      rw [c1, if_pos (show nI 0 = 0 from rfl)] at ev1
      have g1D := g1_28 g10 b0 0 (nI 0)
      have g2D := g2_28 g20 0
      rw [up2_28] at g1D g2D
      have rpD := rp_cf (fm_wI (P := fun a j => a = x ∧ j = 14) (v := nI 0) ⟨rfl, rfl⟩) rp0 hx (fun a j p => by omega)
      obtain ⟨S7, d8, n7, m7, U, f7, ln7, lm7, g7, fm7, K7, C7, hU7⟩ := c_draft g1D g2D.t b0 sv0.rt oX
      have qP : ∀ a j, Pq x a j → x + 19 ≤ a ∨ (a = x ∧ (j = 4 ∨ j = 10 ∨ j = 13)) ∨ a = x + 4 ∨ a = x + 8 ∨ (x + 9 ≤ a ∧ a ≤ x + 17) := fun a j p => by unfold Pq at p; omega
      have g27 := g2_fm fm7 g2D hx qP
      have rp7 := rp_cf fm7 rpD hx (fun a j p => by unfold Pq at p; omega)
      have hx7 := g7.ce.hx
      have ok7 : sK S7 (x + 64) = 51 ∧ sN S7 (x + 64) = 1 := ⟨(fm_K fm7 (by omega)).trans h.ok.1, (fm_N fm7 (by omega)).trans h.ok.2⟩
      have gfX := GF_dscK b0 oX _ (Nat.le_refl _)
      rw [show dscK (up2 s 28 0 0) X (ln X) = dsc (up2 s 28 0 0) X from rfl] at gfX
      have hlen := GF_len gfX
      have dv : DV S7 d8 x (up2 s 28 0 0) A U (perm (up2 s 28 0 0) (dsc (up2 s 28 0 0) X)) := ⟨b0, g7.ce, g27.t, K7, C7, fun i hi => perm_vx b0 gfX hi, by rw [perm_len]; exact hlen⟩
      have fd := c_faultOfDraft dv g7.st1
      rw [show (if fst (fun i => wr (up2 s 28 0 0) (dsc (up2 s 28 0 0) X) i) (dsc (up2 s 28 0 0) X).length < (dsc (up2 s 28 0 0) X).length then 4 else if 40 < (dsc (up2 s 28 0 0) X).length then 5 else if (up2 s 28 0 0) 21 0 = 16 then 6 else 0) = F2 (up2 s 28 0 0) X from rfl] at fd
      have hF2 := F2_le (s := up2 s 28 0 0) (v := X)
      have ev2 : f_M_stand S d x (nI l) v2 = ac n7 m7 (f_M_stand_J87 x S7 (wI d8 x 14 (nI (F2 (up2 s 28 0 0) X))) (nI l) X) := by
        rw [ev1]
        simp only [f7, bdA_t, kd_t (cs_K0 g7.ce.cs), fd, bd_t, lt_t]
      have g14 : dI (wI d8 x 14 (nI (F2 (up2 s 28 0 0) X))) x 14 = nI (F2 (up2 s 28 0 0) X) := by rw [dI_wI, if_pos ⟨rfl, rfl⟩]
      have fm14 : Fm (fun a j => a = x ∧ j = 14) S7 d8 S7 (wI d8 x 14 (nI (F2 (up2 s 28 0 0) X))) := fm_wI ⟨rfl, rfl⟩
      have rp14 := rp_cf fm14 rp7 hx7 (fun a j p => by omega)
      have g1F := g1_28 g7 b0 (F2 (up2 s 28 0 0) X) (nI (F2 (up2 s 28 0 0) X))
      have g2F := g2_28 g27 (F2 (up2 s 28 0 0) X)
      have svF := sv_28 sv0 b0 (F2 (up2 s 28 0 0) X)
      have bF := bi_28 b0 (v := F2 (up2 s 28 0 0) X) (by omega)
      rw [up2_28] at g1F g2F svF bF
      by_cases c2 : F2 (up2 s 28 0 0) X = 0
      · have h40 := F2_0 c2
        rw [c2] at ev2 g14 fm14 rp14 g1F g2F svF bF hF
        rw [e0 21 0 (by omega)] at h40
        have K14 : DK S7 x U := K7
        have C14 : DC S7 (wI d8 x 14 (nI 0)) x A (perm (up2 s 28 0 0) (dsc (up2 s 28 0 0) X)) := by
          refine ⟨by rw [dI_wI, if_neg (by omega)]; exact C7.n, fun i hi => ?_⟩
          obtain ⟨u, k1, k2, k3⟩ := C7.c i hi
          have := (K7.sl i u (by rw [perm_len] at hi; omega) k1).2.1
          exact ⟨u, k1, k2, rwd_ch k3 (ch_w (P := fun a j => a = x) rfl) (by omega) (fun j _ => by omega)⟩
        have hh := sv0.hn (s 21 0) (Nat.le_refl _) (by omega)
        obtain ⟨S1, d1, n1, m1, W, f1, ln1, lm1, w6, fm1, g1'⟩ := c_st87 g1F g2F.t b0 K14 hU7 C14 h40.1 sv0.ok (by rw [e0 21 0 (by omega)]; omega) (l := l) (by omega) hy oX hmx g14 hh
        rw [pkK_28, cntP_28, e0 21 0 (by omega)] at g1'
        rw [e0 21 0 (by omega)] at f1 fm1
        have pkl : pkK (up2 s 28 0 0) X (ln X) ≤ 4 := pkK_le b0 oX _ (Nat.le_refl _)
        rw [pkK_28] at pkl
        have cnl := cntP_le s (pkK s X (ln X)) (s 21 0)
        have P6o : ∀ a j, P6 x (s 21 0) W a j → x + 19 ≤ a ∨ (a = x ∧ (j = 4 ∨ j = 10 ∨ j = 13)) ∨ a = x + 4 ∨ a = x + 8 ∨ (x + 9 ≤ a ∧ a ≤ x + 17) := by
          rintro a j (p | p | p | p | p | ⟨u, hu, p⟩)
          · omega
          · omega
          · omega
          · unfold PUw at p; omega
          · omega
          · have := (w6 u hu).2.1
            unfold PRw at p; omega
        have P6r : ∀ a j, P6 x (s 21 0) W a j → ¬ (x + 28 ≤ a ∧ a ≤ x + 63) := by
          rintro a j (p | p | p | p | p | ⟨u, hu, p⟩)
          · omega
          · omega
          · omega
          · unfold PUw at p; omega
          · omega
          · have := (w6 u hu).2.1
            unfold PRw at p; omega
        have ok1 : sK S1 (x + 64) = 51 ∧ sN S1 (x + 64) = 1 := ⟨(fm_K fm1 (by omega)).trans ok7.1, (fm_N fm1 (by omega)).trans ok7.2⟩
        have g21 := g2_cg (s' := sSt (up2 s 28 0 0) l (xN X) (pkK s X (ln X)) (cntP s (pkK s X (ln X)) (s 21 0))) (g2_fm fm1 g2F hx7 P6o) (fun k i hk => sSt_o (by omega))
        have bN := bi_sSt b0 (l := l) (y := xN X) (pk := pkK s X (ln X)) (n := cntP s (pkK s X (ln X)) (s 21 0)) (by rw [e0 21 0 (by omega)]; omega) (by omega) hy (by omega) (by omega)
        have svN := sv_sSt sv0 b0 (l := l) (v := X) (pk := pkK s X (ln X)) (n := cntP s (pkK s X (ln X)) (s 21 0)) (by rw [e0 21 0 (by omega)]; omega) oX h40.1 (by omega) (by omega)
        refine st_in (r := nI (s 21 0)) (n := n1 + n7) (m := m1 + m7) h ?_ g1' g21 (rp_cf fm1 rp14 hx7 P6r) bN svN ok1 (by omega) (by omega) (fun d9 rp => ?_)
        · rw [ev2, f1]; rfl
        · obtain ⟨e, r, s', fe, re, rf, dj⟩ := ry S1 d9 rp
          rcases dj with ⟨c, -⟩ | ⟨-, c, -⟩ | ⟨-, -, rfl, rfl, z⟩
          · omega
          · omega
          · exact ⟨e, fe, re, rf, z⟩
      · generalize F2 (up2 s 28 0 0) X = G at *
        have fz := fm_nZ (P := fun _ _ => False) (S := S7) (d := wI d8 x 14 (nI G))
        refine st_out (n := 1 + n7) (m := 6 + m7) h ?_ (g1_sw fz g1F (fun _ _ f => f.elim)) g2F (rp_cf fz rp14 hx7 (fun _ _ f => f.elim)) bF svF ok7 (by omega) (by omega) (fun d9 rp => ?_)
        · rw [ev2]
          simp only [f_M_stand_J87, kd_t (cs_K0 g7.ce.cs), lt_t, g14]
          rw [if_neg (fun c => c2 ((l0_e _ (by omega)).mp c))]
          rfl
        · obtain ⟨e, r, s', fe, re, rf, dj⟩ := ry (nZ S7) d9 rp
          rcases dj with ⟨c, -⟩ | ⟨-, -, -, rfl, z⟩ | ⟨-, c, -⟩
          · omega
          · rw [hF] at re; exact ⟨r, e, fe, re, rf, z⟩
          · omega
    · rw [if_neg c1] at hF
      generalize F1 (up2 s 28 0 0) l X = G at *
      rw [if_neg (fun c => c1 ((l0_e _ (by omega)).mp c))] at ev1
      have g1F := g1_28 g10 b0 G (nI G)
      have g2F := g2_28 g20 G
      have svF := sv_28 sv0 b0 G
      have bF := bi_28 b0 (v := G) (by omega)
      rw [up2_28] at g1F g2F svF bF
      have rpF := rp_cf (fm_wI (P := fun a j => a = x ∧ j = 14) (v := nI G) ⟨rfl, rfl⟩) rp0 hx (fun a j p => by omega)
      have fz := fm_nZ (P := fun _ _ => False) (S := S) (d := wI (wI d x 14 0) x 14 (nI G))
      refine st_out (n := 1) (m := 6) h ?_ (g1_sw fz g1F (fun _ _ f => f.elim)) g2F (rp_cf fz rpF hx (fun _ _ f => f.elim)) bF svF h.ok (by omega) (by omega) (fun d9 rp => ?_)
      · rw [ev1]
        have g14 : dI (wI (wI d x 14 0) x 14 (nI G)) x 14 = nI G := by rw [dI_wI, if_pos ⟨rfl, rfl⟩]
        simp only [f_M_stand_J87, kd_t (cs_K0 hcs), lt_t, g14]
        rw [if_neg (fun c => c1 ((l0_e _ (by omega)).mp c))]
        rfl
      · obtain ⟨e, r, s', fe, re, rf, dj⟩ := ry (nZ S) d9 rp
        rcases dj with ⟨c, -⟩ | ⟨-, -, -, rfl, z⟩ | ⟨-, c, -⟩
        · omega
        · rw [hF] at re; exact ⟨r, e, fe, re, rf, z⟩
        · omega
theorem st_stand (h : IV S d x s A q) (v1 v2 : Int32) : ∃ k S1 d1 n m r e s' A', f_L_stand S d (some x) v1 v2 (some (x + 64)) = some ((k, S1, d1), n, m) ∧ n ≤ 1000 ∧ m ≤ 10000 ∧ f_R_stand S1 d1 (x + 28) v1 v2 = some (r, e) ∧ IV S1 e x s' A' q ∧ dI e (x + 28) 0 = k ∧ (k = 0 → dL e (x + 64) 0 = Int32.toInt64 r) := by
  have hcs := h.g1.ce.cs
  have hx := h.g1.ce.hx
  have hS := h.b.stands
  have hL := h.b.loaders
  have b0 : BI (up2 s 28 0 0) := bi_28 h.b (by omega)
  have e0 : ∀ k i, k ≠ 28 → up2 s 28 0 0 k i = s k i := fun k i hk => up2_ne hk i
  have g10 := g1_28 h.g1 h.b 0 0
  have g20 := g2_28 h.g2 0
  have sv0 := sv_28 h.sv h.b 0
  rw [show nI 0 = 0 from rfl] at g20
  have fm0 : Fm (fun a j => a = x ∧ j = 14) S d S (wI d x 14 0) := fm_wI ⟨rfl, rfl⟩
  have rp0 := rp_cf fm0 h.rp hx (fun a j p => by omega)
  have mo : ∀ F, f_M_cutAtZero S (wI d x 14 F) v2 = some (cln v2 (ln v2)) := fun F => c_cutAtZero v2
  have lo := c_isLoader hcs g20.cl v1
  rw [e0 1 0 (by omega)] at lo
  have af := c_areFaces hcs g10.ce.F b0 (cln v2 (ln v2))
  have throw1 : ∀ (hn : cIn 0 (nI (s 1 0)) v1 = false ∨ cleanV s v2 = 0) (hm : f_M_stand S d x v1 v2 = f_M_stand_J30 x S (wI d x 14 0)), ∃ k S1 d1 n m r e s' A', f_L_stand S d (some x) v1 v2 (some (x + 64)) = some ((k, S1, d1), n, m) ∧ n ≤ 1000 ∧ m ≤ 10000 ∧ f_R_stand S1 d1 (x + 28) v1 v2 = some (r, e) ∧ IV S1 e x s' A' q ∧ dI e (x + 28) 0 = k ∧ (k = 0 → dL e (x + 64) 0 = Int32.toInt64 r) := by
    intro hn hm
    have fz := fm_nZ (P := fun _ _ => False) (S := S) (d := wI d x 14 0)
    obtain ⟨e, fe, re, rf, z⟩ := r_stand_1 (rp_cf fz rp0 hx (fun _ _ f => f.elim)) h.b hn
    refine ⟨1, nZ S, wI d x 14 0, 1, 6, 0, e, up2 s 28 0 0, A, ?_, by omega, by omega, fe, iv_fin (g1_sw fz g10 (fun _ _ f => f.elim)) g20 re rf b0 sv0 h.ok, z, fun c => absurd c (by decide)⟩
    simp only [f_L_stand, nn_t, kd_t (cs_K0 hcs), hm, f_M_stand_J30]
    rfl
  have hcl : f_M_cutAtZero S (wI d x 14 0) v2 = some (cln v2 (ln v2)) := c_cutAtZero v2
  cases cL : cIn 0 (nI (s 1 0)) v1 with
  | false =>
    refine throw1 (.inl cL) ?_
    simp only [f_M_stand, kd_t (cs_K0 hcs), lt_t, hcl, bd_t, lo, cL]
    rfl
  | true =>
    rw [cL] at lo
    by_cases cX : cln v2 (ln v2) = 0
    · refine throw1 (.inr (cleanV_0.mpr (.inl cX))) ?_
      simp only [f_M_stand, kd_t (cs_K0 hcs), lt_t, hcl, bd_t, lo, cX]
      rfl
    · by_cases cO : okL s v2
      · obtain ⟨l, -, hl, rfl⟩ := cIn_of (lo := 0) cL (by omega) (by omega)
        exact st_stand_y h hl cL cO cX
      · have nO : ¬ okL (up2 s 28 0 0) (cln v2 (ln v2)) := fun c => cO (okL_cl.mp c)
        rw [decide_eq_false (fun c => nO (okL_iff.mpr c))] at af
        refine throw1 (.inr (cleanV_0.mpr (.inr cO))) ?_
        simp only [f_M_stand, kd_t (cs_K0 hcs), lt_t, hcl, bd_t, lo, if_neg cX, af]
        rfl
end st
