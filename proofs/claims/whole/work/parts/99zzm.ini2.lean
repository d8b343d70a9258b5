section ini
variable {x n o j κ m t k lo : Nat} {H : hT} {E : eT} {v : Int32} {w : Int64}
def gTy (k : Nat) : Int64 := (1 <<< (Int32.toInt64 (nI k) &&& 63)) ||| (1 <<< (Int32.toInt64 7 &&& 63))
theorem i_TyL (h0 : H.1 1 = 8) (h1 : H.2.2 1 0 = some 2) (h2 : H.1 2 = 51) (h3 : H.2.1 2 = 47) : itr (f_Ty_init_B91 (x + 1)) (fun _ _ _ => none) fu (tS x n H) (tD x E) 41 = some (((), tS x n H, tD x (eR E 2 41 47 gTy)), 0, 0) := by
  have key := itr_0 (B := f_Ty_init_B91 (x + 1)) (z := fun _ _ _ => none) (fun k K => K (tS x n H) (tD x (eR E 2 41 (41 + k) gTy)) (nI (41 + k))) (some (((), tS x n H, tD x (eR E 2 41 47 gTy)), 0, 0)) 6 (by omega) ?_ ?_
  · rw [show 41 + 0 = 41 from rfl, eR_0] at key
    exact key
  · intro k hk K hK
    unfold f_Ty_init_B91
    rw [if_neg (by rw [l46_gt _ (by omega)]; omega), kd_tt h0]
    simp only [lt_t, sP_tt h1, f_Ty_bit, bd_t, nn_t]
    rw [kd_tt h2, sN_t, h3, gi_n (by omega) (by omega), nI_clamp (by omega), wL_t, l1_a]
    have e := eR_s (E := E) (o := 2) (lo := 41) (k := 41 + k) (g := gTy) (by omega)
    unfold gTy at e hK ⊢
    rw [e]
    exact hK
  · intro K
    unfold f_Ty_init_B91
    rw [if_pos (by decide)]
def H3 : hT := hW (hN (hN (hN h0 0 1 0) 1 8 0) 2 51 47) 1 0 2
def eT1 (E : eT) : eT := eL (eL (eL (eL (eI (eN E 2) 1 1 11) 2 7 (1 <<< (Int32.toInt64 7 &&& 63))) 2 8 ((1 <<< (Int32.toInt64 8 &&& 63)) ||| (1 <<< (Int32.toInt64 7 &&& 63)))) 2 9 ((1 <<< (Int32.toInt64 9 &&& 63)) ||| ((1 <<< (Int32.toInt64 8 &&& 63)) ||| (1 <<< (Int32.toInt64 7 &&& 63))))) 2 10 ((1 <<< (Int32.toInt64 10 &&& 63)) ||| ((1 <<< (Int32.toInt64 8 &&& 63)) ||| (1 <<< (Int32.toInt64 7 &&& 63))))
theorem i_Ty : f_Ty_init (tS x 2 (hN (hN h0 0 1 0) 1 8 0)) (tD x E) (x + 1) = some (((), tS x 3 H3, tD x (eR (eT1 E) 2 41 47 gTy)), 1, 47) := by
  have lp := fun E => i_TyL (x := x) (n := 3) (H := H3) (E := E) rfl rfl rfl rfl
  unfold f_Ty_init
  simp (disch := first | rfl | decide) only [↓lt_t, nl_l, nS_t, nD_t, sZ_t, kd_tt, wP_t, wI_t, f_Ty_bit, bd_t, Nat.reduceAdd, show (47 : Int32).toNatClampNeg = 47 from rfl, show hW (hN (hN (hN h0 0 1 0) 1 8 0) 2 51 47) 1 0 2 = H3 from rfl, sP_tt (H := H3) (o := 1) (j := 0) (t := 2) rfl, nn_t, gi_t2, wL_t, dL_t, show (7 : Int32).toNatClampNeg = 7 from rfl, show (8 : Int32).toNatClampNeg = 8 from rfl, show (9 : Int32).toNatClampNeg = 9 from rfl, show (10 : Int32).toNatClampNeg = 10 from rfl, lp, ac_t]
  rfl
end ini
