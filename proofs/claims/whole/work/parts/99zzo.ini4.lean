section ini
variable {x n o j κ m t k lo : Nat} {H : hT} {E : eT} {v : Int32} {w : Int64}
theorem i_RL1 {kx : gS → gD → Option ((Unit × gS × gD) × Nat × Nat)} (h0 : H.1 28 = 10) (h1 : H.2.2 28 44 = some 61) (h2 : H.1 61 = 51) (h3 : H.2.1 61 = 9) : itr (f_R_init_B441 (x + 28) kx) (fun _ _ _ => none) fu (tS x n H) (tD x E) 0 = kx (tS x n H) (tD x (eR E 61 0 9 (fun _ => -1))) := by
  have key := itr_0 (B := f_R_init_B441 (x + 28) kx) (z := fun _ _ _ => none) (fun k K => K (tS x n H) (tD x (eR E 61 0 k (fun _ => -1))) (nI k)) (kx (tS x n H) (tD x (eR E 61 0 9 (fun _ => -1)))) 9 (by omega) ?_ ?_
  · rw [eR_0] at key
    exact key
  · intro k hk K hK
    unfold f_R_init_B441
    rw [if_neg (by rw [l9_ge _ (by omega)]; omega), kd_tt h0, sP_tt h1, lt_t, nn_t, kd_tt h2, sN_t, h3, gi_n (by omega) (by omega), lt_t, nI_clamp (by omega), wL_t, l1_a, eR_s (g := fun _ => -1) (by omega)]
    exact hK
  · intro K
    unfold f_R_init_B441
    rw [if_pos (by decide)]
theorem i_RL2 (h0 : H.1 28 = 10) (h1 : H.2.2 28 26 = some 49) (h2 : H.1 49 = 50) (h3 : H.2.1 49 = 16) : itr (f_R_init_B464 (x + 28)) (fun _ _ _ => none) fu (tS x n H) (tD x E) 0 = some (((), tS x n H, tD x (eQ E 49 16 (-1))), 0, 0) := by
  have key := itr_0 (B := f_R_init_B464 (x + 28)) (z := fun _ _ _ => none) (fun k K => K (tS x n H) (tD x (eQ E 49 k (-1))) (nI k)) (some (((), tS x n H, tD x (eQ E 49 16 (-1))), 0, 0)) 16 (by omega) ?_ ?_
  · rw [eQ_0] at key
    exact key
  · intro k hk K hK
    unfold f_R_init_B464
    rw [if_neg (by rw [l16_ge _ (by omega)]; omega), kd_tt h0, sP_tt h1, lt_t, nn_t, kd_tt h2, sN_t, h3, gi_n (by omega) (by omega), lt_t, nI_clamp (by omega), wI_t, l1_a, eQ_s]
    exact hK
  · intro K
    unfold f_R_init_B464
    rw [if_pos (by decide)]
def HR : hT := (hW (hN (hW (hN (hW (hN (hW (hN (hW (hN (hW (hN (hW (hN (hW (hN (hW (hN (hW (hN (hW (hN (hW (hN (hW (hN (hW (hN (hW (hN (hW (hN (hW (hN (hW (hN (hW (hN (hW (hN (hW (hN (hW (hN (hW (hN (hW (hN (hW (hN (hW (hN (hW (hN (hW (hN (hW (hN (hW (hN (hW (hN (hW (hN (hW (hN (hW (hN (hW (hN (hN HM 28 10 0) 29 50 4) 28 2 29) 30 50 24) 28 4 30) 31 50 12) 28 6 31) 32 50 12) 28 7 32) 33 50 12) 28 8 33) 34 53 12) 28 9 34) 35 50 24) 28 10 35) 36 50 12) 28 11 36) 37 50 12) 28 12 37) 38 50 75) 28 13 38) 39 50 75) 28 14 39) 40 50 225) 28 15 40) 41 50 75) 28 16 41) 42 50 225) 28 17 42) 43 50 32) 28 19 43) 44 51 32) 28 20 44) 45 50 16) 28 22 45) 46 50 16) 28 23 46) 47 50 16) 28 24 47) 48 50 16) 28 25 48) 49 50 16) 28 26 49) 50 53 16) 28 27 50) 51 50 864) 28 29 51) 52 50 12) 28 30 52) 53 50 80) 28 32 53) 54 50 1280) 28 33 54) 55 50 80) 28 34 55) 56 50 16) 28 35 56) 57 50 80) 28 36 57) 58 50 16) 28 38 58) 59 50 3600) 28 39 59) 60 50 768) 28 41 60) 61 51 9) 28 44 61) 62 50 3) 28 45 62) 63 51 3) 28 46 63)
def ER (E : eT) : eT := eQ (eR (eI (eI (eI (eI (eI (eI (eI (eI (eI (eI (eN (eN (eN (eL (eI (eN (eI (eN (eN (eI (eN (eN (eN (eN (eN (eI (eN (eN (eI (eN (eN (eN (eN (eN (eN (eI (eN (eN (eI (eN (eN (eN (eN (eN (eN (eN (eN (eN (eN (eN (eN (eI (eN (eI (eN (eI (eI (eN E 28) 28 0 0) 28 1 1) 29) 28 3 11) 30) 28 5 0) 31) 32) 33) 34) 35) 36) 37) 38) 39) 40) 41) 42) 28 18 0) 43) 44) 28 21 0) 45) 46) 47) 48) 49) 50) 28 28 0) 51) 52) 28 31 0) 53) 54) 55) 56) 57) 28 37 0) 58) 59) 28 40 0) 60) 28 42 0) 28 43 (-1)) 61) 62) 63) 30 8 7) 30 9 8) 30 10 8) 38 72 26) 39 72 5) 38 73 27) 39 73 1) 40 219 7) 38 74 28) 39 74 7) 61 0 9 (fun _ => -1)) 49 16 (-1)
set_option maxRecDepth 100000 in
set_option maxHeartbeats 4000000 in
theorem i_R : f_R_init (tS x 29 (hN HM 28 10 0)) (tD x (eN E 28)) (x + 28) = some (((), tS x 64 HR, tD x (ER E)), 35, 7770) := by
  unfold f_R_init
  simp (maxSteps := 4000000) (disch := first | rfl | decide) only [↓lt_t, nl_l, nS_t, nD_t, sZ_t, kd_tt, wP_t, wI_t, wL_t, Nat.reduceAdd, show (3 : Int32).toNatClampNeg = 3 from rfl, show (4 : Int32).toNatClampNeg = 4 from rfl, show (8 : Int32).toNatClampNeg = 8 from rfl, show (9 : Int32).toNatClampNeg = 9 from rfl, show (10 : Int32).toNatClampNeg = 10 from rfl, show (12 : Int32).toNatClampNeg = 12 from rfl, show (16 : Int32).toNatClampNeg = 16 from rfl, show (24 : Int32).toNatClampNeg = 24 from rfl, show (32 : Int32).toNatClampNeg = 32 from rfl, show (72 : Int32).toNatClampNeg = 72 from rfl, show (73 : Int32).toNatClampNeg = 73 from rfl, show (74 : Int32).toNatClampNeg = 74 from rfl, show (75 : Int32).toNatClampNeg = 75 from rfl, show (80 : Int32).toNatClampNeg = 80 from rfl, show (219 : Int32).toNatClampNeg = 219 from rfl, show (225 : Int32).toNatClampNeg = 225 from rfl, show (768 : Int32).toNatClampNeg = 768 from rfl, show (864 : Int32).toNatClampNeg = 864 from rfl, show (1280 : Int32).toNatClampNeg = 1280 from rfl, show (3600 : Int32).toNatClampNeg = 3600 from rfl, sP_tt (o := 28) (j := 4) (t := 30), sP_tt (o := 28) (j := 13) (t := 38), sP_tt (o := 28) (j := 14) (t := 39), sP_tt (o := 28) (j := 15) (t := 40), nn_t, gi_t2, i_RL1, f_R_init_J462, i_RL2, ac_t]
  rfl
def HF : hT := hN HR 64 51 1
def EF : eT := eN (ER (EM (eN e0 0))) 64
theorem i_law {z L : Nat} (f : Nat → Int32) : f_L_law L f (S0 z) d0 = ac 65 12136 (itr (f_L_law_B23 L f) (fun _ _ _ _ _ _ => none) fu (tS z 65 HF) (tD z EF) (some z) (some (z + 28)) (some (z + 64)) 0) := by
  rw [t_0, t_d0 (z := z)]
  unfold f_L_law
  have z0 : sZ (tS z 0 h0) = z := rfl
  simp (maxSteps := 4000000) (disch := first | rfl | decide) only [↓lt_t, z0, nl_l, nS_t, nD_t, sZ_t, i_M, bdA_t, i_R, Nat.reduceAdd, show (1 : Int32).toNatClampNeg = 1 from rfl, ac_ac]
  rfl
end ini
