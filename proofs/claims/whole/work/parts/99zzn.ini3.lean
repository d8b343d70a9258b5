section ini
variable {x n o j κ m t k lo : Nat} {H : hT} {E : eT} {v : Int32} {w : Int64}
theorem kd_t0 {α : Type} {r : Option α} (h : H.1 0 = κ) : kd (tS x n H) x κ r = r := kd_tt (o := 0) h
theorem wP_t0 : wP (tS x n H) x j (some (x + t)) = tS x n (hW H 0 j t) := wP_t (o := 0)
theorem wI_t0 : wI (tD x E) x j v = tD x (eI E 0 j v) := wI_t (o := 0)
theorem wL_t0 : wL (tD x E) x j w = tD x (eL E 0 j w) := wL_t (o := 0)
theorem sP_t0 (h : H.2.2 0 j = some t) : sP (tS x n H) x j = some (x + t) := sP_tt (o := 0) h
theorem i_fillL (h2 : H.1 o = 51) (h3 : H.2.1 o = 9) : f_Ar_fillJ (tS x n H) (tD x E) (some (x + o)) (-1) = some ((), tD x (eR E o 0 9 (fun _ => -1))) := by
  unfold f_Ar_fillJ
  rw [nn_t, kd_tt h2, sN_t, h3]
  have key := itr_0 (B := f_Ar_fillJ_B6 (tS x n H)) (z := fun _ _ _ _ _ => none) (fun k K => K (tD x (eR E o 0 k (fun _ => -1))) (some (x + o)) (-1) (nI k) (Int32.ofNat 9)) (some ((), tD x (eR E o 0 9 (fun _ => -1)))) 9 (by omega) ?_ ?_
  · rw [eR_0] at key
    exact key
  · intro k hk K hK
    unfold f_Ar_fillJ_B6
    rw [if_neg (by show ¬ nI 9 ≤ nI k; rw [ni_le _ _ (by omega) (by omega)]; omega), nn_t, kd_tt h2, sN_t, h3, gi_n (by omega) (by omega), lt_t, nI_clamp (by omega), wL_t, l1_a, eR_s (g := fun _ => -1) (by omega)]
    exact hK
  · intro K
    unfold f_Ar_fillJ_B6
    rw [if_pos (by decide)]
def HM : hT := (hW (hW (hW (hN (hN (hN (hW (hW (hW (hN (hN (hN (hW (hW (hW (hN (hN (hN (hW (hN (hW (hN (hW (hW (hN (hW (hN (hW (hN (hN (hW (hW (hW (hW (hN (hN (hW (hN (hN (hW (hN (hW (hN (hW (hN (hW (hN (hW (hN (hW (hN (hW H3 0 0 1) 3 50 4) 0 1 3) 4 60 12) 0 3 4) 5 50 32) 0 5 5) 6 51 32) 0 6 6) 7 61 3) 0 8 7) 8 62 16) 0 9 8) 9 3 0) 10 63 75) 9 1 10) 11 2 0) 12 50 16) 11 0 12) 9 3 11) 9 0 1) 0 11 9) 13 9 0) 14 50 292) 13 0 14) 15 52 512) 13 2 15) 16 52 3200) 13 4 16) 0 12 13) 17 51 3) 0 16 17) 18 51 9) 0 17 18) 19 5 0) 20 2 0) 21 50 3) 20 0 21) 19 5 20) 7 0 19) 22 5 0) 23 2 0) 24 50 3) 23 0 24) 22 5 23) 7 1 22) 25 5 0) 26 2 0) 27 50 3) 26 0 27) 25 5 26) 7 2 25)
def EM (E : eT) : eT := (eR (eI (eI (eI (eI (eI (eN (eN (eN (eI (eI (eI (eI (eI (eN (eN (eN (eI (eI (eI (eI (eI (eN (eN (eN (eI (eI (eN (eN (eL (eN (eN (eN (eN (eN (eN (eN (eN (eN (eN (eN (eN (eN (eN (eR (eT1 (eN E 1)) 2 41 47 gTy) 3) 4) 5) 6) 7) 8) 9) 10) 11) 12) 13) 14) 15) 16) 0 15 (-1)) 17) 18) 3 0 (-1)) 0 2 1) 19) 20) 21) 19 0 7) 19 1 0) 19 2 26) 19 3 0) 19 4 5) 22) 23) 24) 22 0 7) 22 1 1) 22 2 27) 22 3 7) 22 4 1) 25) 26) 27) 25 0 7) 25 1 2) 25 2 28) 25 3 0) 25 4 7) 18 0 9 (fun _ => -1))
theorem i_M : f_M_init (tS x 1 (hN h0 0 1 0)) (tD x E) x = some (((), tS x 28 HM, tD x (EM E)), 27, 4300) := by
  have lk : ∀ n H j t, H.2.2 0 j = some t → sP (tS x n H) x j = some (x + t) := fun n H j t h => sP_t0 h
  have fl := fun n H E h1 h2 => i_fillL (x := x) (n := n) (o := 18) (H := H) (E := E) h1 h2
  unfold f_M_init
  simp (maxSteps := 4000000) (disch := first | rfl | decide) only [↓lt_t, f_Dr_init, f_Uw_init, f_Om_init, f_Rw_init, nl_l, nS_t, nD_t, sZ_t, kd_tt, kd_t0, wP_t, wP_t0, wI_t, wI_t0, wL_t, wL_t0, i_Ty, bdA_t, bdD_t, Nat.reduceAdd, show (0 : Int32).toNatClampNeg = 0 from rfl, show (1 : Int32).toNatClampNeg = 1 from rfl, show (2 : Int32).toNatClampNeg = 2 from rfl, show (3 : Int32).toNatClampNeg = 3 from rfl, show (4 : Int32).toNatClampNeg = 4 from rfl, show (9 : Int32).toNatClampNeg = 9 from rfl, show (12 : Int32).toNatClampNeg = 12 from rfl, show (16 : Int32).toNatClampNeg = 16 from rfl, show (32 : Int32).toNatClampNeg = 32 from rfl, show (75 : Int32).toNatClampNeg = 75 from rfl, show (292 : Int32).toNatClampNeg = 292 from rfl, show (512 : Int32).toNatClampNeg = 512 from rfl, show (3200 : Int32).toNatClampNeg = 3200 from rfl, sP_t0 (j := 0) (t := 1), sP_t0 (j := 1) (t := 3), sP_t0 (j := 8) (t := 7), sP_t0 (j := 17) (t := 18), nn_t, gi_t2, i_fillL, ac_t]
  rfl
end ini
