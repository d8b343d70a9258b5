theorem d_R_fitted_0 : dc b_R_fitted 0 (.iload_n 0) 1 1 := ⟨by decide +kernel, rfl⟩
theorem d_R_fitted_1 : dc b_R_fitted 1 (.iconst 1) 1 2 := ⟨by decide +kernel, rfl⟩
theorem d_R_fitted_2 : db b_R_fitted 2 (.if_icmp .ne 15) 15 17 5 := ⟨by decide +kernel, by decide, rfl⟩
theorem d_R_fitted_5 : dc b_R_fitted 5 (.lload_n 1) 1 6 := ⟨by decide +kernel, rfl⟩
theorem d_R_fitted_6 : dc b_R_fitted 6 (.lconst 0) 1 7 := ⟨by decide +kernel, rfl⟩
theorem d_R_fitted_7 : dc b_R_fitted 7 (.lcmp) 1 8 := ⟨by decide +kernel, rfl⟩
theorem d_R_fitted_8 : db b_R_fitted 8 (.ifCond .ne 7) 7 15 11 := ⟨by decide +kernel, by decide, rfl⟩
theorem d_R_fitted_11 : dc b_R_fitted 11 (.lconst 0) 1 12 := ⟨by decide +kernel, rfl⟩
theorem d_R_fitted_12 : db b_R_fitted 12 (.goto 4) 4 16 15 := ⟨by decide +kernel, by decide, rfl⟩
theorem d_R_fitted_15 : dc b_R_fitted 15 (.lconst 1) 1 16 := ⟨by decide +kernel, rfl⟩
theorem d_R_fitted_16 : dc b_R_fitted 16 (.lreturn) 1 17 := ⟨by decide +kernel, rfl⟩
theorem d_R_fitted_17 : dc b_R_fitted 17 (.iload_n 0) 1 18 := ⟨by decide +kernel, rfl⟩
theorem d_R_fitted_18 : dc b_R_fitted 18 (.iconst 2) 1 19 := ⟨by decide +kernel, rfl⟩
theorem d_R_fitted_19 : db b_R_fitted 19 (.if_icmp .ne 8) 8 27 22 := ⟨by decide +kernel, by decide, rfl⟩
theorem d_R_fitted_22 : dc b_R_fitted 22 (.lload_n 1) 1 23 := ⟨by decide +kernel, rfl⟩
theorem d_R_fitted_23 : dc b_R_fitted 23 (.l2i) 1 24 := ⟨by decide +kernel, rfl⟩
theorem d_R_fitted_24 : dc b_R_fitted 24 (.i2b) 1 25 := ⟨by decide +kernel, rfl⟩
theorem d_R_fitted_25 : dc b_R_fitted 25 (.i2l) 1 26 := ⟨by decide +kernel, rfl⟩
theorem d_R_fitted_26 : dc b_R_fitted 26 (.lreturn) 1 27 := ⟨by decide +kernel, rfl⟩
theorem d_R_fitted_27 : dc b_R_fitted 27 (.iload_n 0) 1 28 := ⟨by decide +kernel, rfl⟩
theorem d_R_fitted_28 : dc b_R_fitted 28 (.iconst 3) 1 29 := ⟨by decide +kernel, rfl⟩
theorem d_R_fitted_29 : db b_R_fitted 29 (.if_icmp .ne 8) 8 37 32 := ⟨by decide +kernel, by decide, rfl⟩
theorem d_R_fitted_32 : dc b_R_fitted 32 (.lload_n 1) 1 33 := ⟨by decide +kernel, rfl⟩
theorem d_R_fitted_33 : dc b_R_fitted 33 (.l2i) 1 34 := ⟨by decide +kernel, rfl⟩
theorem d_R_fitted_34 : dc b_R_fitted 34 (.i2c) 1 35 := ⟨by decide +kernel, rfl⟩
theorem d_R_fitted_35 : dc b_R_fitted 35 (.i2l) 1 36 := ⟨by decide +kernel, rfl⟩
theorem d_R_fitted_36 : dc b_R_fitted 36 (.lreturn) 1 37 := ⟨by decide +kernel, rfl⟩
theorem d_R_fitted_37 : dc b_R_fitted 37 (.iload_n 0) 1 38 := ⟨by decide +kernel, rfl⟩
theorem d_R_fitted_38 : dc b_R_fitted 38 (.iconst 4) 1 39 := ⟨by decide +kernel, rfl⟩
theorem d_R_fitted_39 : db b_R_fitted 39 (.if_icmp .ne 8) 8 47 42 := ⟨by decide +kernel, by decide, rfl⟩
theorem d_R_fitted_42 : dc b_R_fitted 42 (.lload_n 1) 1 43 := ⟨by decide +kernel, rfl⟩
theorem d_R_fitted_43 : dc b_R_fitted 43 (.l2i) 1 44 := ⟨by decide +kernel, rfl⟩
theorem d_R_fitted_44 : dc b_R_fitted 44 (.i2s) 1 45 := ⟨by decide +kernel, rfl⟩
theorem d_R_fitted_45 : dc b_R_fitted 45 (.i2l) 1 46 := ⟨by decide +kernel, rfl⟩
theorem d_R_fitted_46 : dc b_R_fitted 46 (.lreturn) 1 47 := ⟨by decide +kernel, rfl⟩
theorem d_R_fitted_47 : dc b_R_fitted 47 (.iload_n 0) 1 48 := ⟨by decide +kernel, rfl⟩
theorem d_R_fitted_48 : dc b_R_fitted 48 (.iconst 5) 1 49 := ⟨by decide +kernel, rfl⟩
theorem d_R_fitted_49 : db b_R_fitted 49 (.if_icmp .ne 9) 9 58 52 := ⟨by decide +kernel, by decide, rfl⟩
theorem d_R_fitted_52 : dc b_R_fitted 52 (.lload_n 1) 1 53 := ⟨by decide +kernel, rfl⟩
theorem d_R_fitted_53 : dc b_R_fitted 53 (.l2i) 1 54 := ⟨by decide +kernel, rfl⟩
theorem d_R_fitted_54 : dc b_R_fitted 54 (.i2l) 1 55 := ⟨by decide +kernel, rfl⟩
theorem d_R_fitted_55 : db b_R_fitted 55 (.goto 4) 4 59 58 := ⟨by decide +kernel, by decide, rfl⟩
theorem d_R_fitted_58 : dc b_R_fitted 58 (.lload_n 1) 1 59 := ⟨by decide +kernel, rfl⟩
theorem d_R_fitted_59 : dc b_R_fitted 59 (.lreturn) 1 60 := ⟨by decide +kernel, rfl⟩
set_option maxRecDepth 100000 in
def f_R_fitted (S : gS) (d : gD) (v0 : Int32) (v1 : Int64) : Option (Int64) :=
  if v0 = 1 then (
    if (lg_cmp v1 0) = 0 then (
      some 0)
    else (
      some 1))
  else (
    if v0 = 2 then (
      some (Int32.toInt64 ((Int32.toInt8 (Int64.toInt32 v1)).toInt32)))
    else (
      if v0 = 3 then (
        some (Int32.toInt64 ((Int32.toUInt32 (Int64.toInt32 v1) % 65536).toInt32)))
      else (
        if v0 = 4 then (
          some (Int32.toInt64 ((Int32.toInt16 (Int64.toInt32 v1)).toInt32)))
        else (
          if v0 = 5 then (
            some (Int32.toInt64 (Int64.toInt32 v1)))
          else (
            some v1)))))
set_option maxRecDepth 100000 in
set_option maxHeartbeats 4000000 in
theorem c_R_fitted (l : Launch) (G : gG) {S : gS} {d : gD} {v0 : Int32} {v1 : Int64} {r : Int64} (h : f_R_fitted S d v0 v1 = some r) : GM l G y_R_fitted b_R_fitted 3 (some (.long)) 0 0 0 0 [.inl v0, .inr (.inl v1)] S d (some (.long r)) S d := by
  refine GM.of (by decide) (Nat.le_of_ble_eq_true rfl) ?_
  intro X hl0 hG0 hR0 hE0
  have hE : gE X b_R_fitted 3 "StandInMillModel" (some (.long)) "fitted" 0 0 := hE0
  unfold f_R_fitted at h
  refine gw.less (lv' := [some (.int v0), some (.long v1), none]) (And.intro rfl (And.intro rfl trivial)) ?_
  refine g_iload_n (i := 0) hE d_R_fitted_0 rfl rfl ?_
  refine g_iconst hE d_R_fitted_1 ki_1 ?_
  refine g_icmp_ne hE d_R_fitted_2 (fun c6 => ?_) (fun c6 => ?_)
  · replace h := if_f c6 h
    refine g_iload_n (i := 0) hE d_R_fitted_17 rfl rfl ?_
    refine g_iconst hE d_R_fitted_18 ki_2 ?_
    refine g_icmp_ne hE d_R_fitted_19 (fun c4 => ?_) (fun c4 => ?_)
    · replace h := if_f c4 h
      refine g_iload_n (i := 0) hE d_R_fitted_27 rfl rfl ?_
      refine g_iconst hE d_R_fitted_28 ki_3 ?_
      refine g_icmp_ne hE d_R_fitted_29 (fun c3 => ?_) (fun c3 => ?_)
      · replace h := if_f c3 h
        refine g_iload_n (i := 0) hE d_R_fitted_37 rfl rfl ?_
        refine g_iconst hE d_R_fitted_38 ki_4 ?_
        refine g_icmp_ne hE d_R_fitted_39 (fun c2 => ?_) (fun c2 => ?_)
        · replace h := if_f c2 h
          refine g_iload_n (i := 0) hE d_R_fitted_47 rfl rfl ?_
          refine g_iconst hE d_R_fitted_48 ki_5 ?_
          refine g_icmp_ne hE d_R_fitted_49 (fun c1 => ?_) (fun c1 => ?_)
          · replace h := if_f c1 h
            refine g_lload_n (i := 1) hE d_R_fitted_58 rfl rfl ?_
            cases h
            exact g_lret hE d_R_fitted_59 rfl rfl
          · replace h := if_t c1 h
            refine g_lload_n (i := 1) hE d_R_fitted_52 rfl rfl ?_
            refine g_l2i hE d_R_fitted_53 ?_
            refine g_i2l hE d_R_fitted_54 ?_
            refine g_goto hE d_R_fitted_55 ?_
            cases h
            exact g_lret hE d_R_fitted_59 rfl rfl
        · replace h := if_t c2 h
          refine g_lload_n (i := 1) hE d_R_fitted_42 rfl rfl ?_
          refine g_l2i hE d_R_fitted_43 ?_
          refine g_i2s hE d_R_fitted_44 ?_
          refine g_i2l hE d_R_fitted_45 ?_
          cases h
          exact g_lret hE d_R_fitted_46 rfl rfl
      · replace h := if_t c3 h
        refine g_lload_n (i := 1) hE d_R_fitted_32 rfl rfl ?_
        refine g_l2i hE d_R_fitted_33 ?_
        refine g_i2c hE d_R_fitted_34 ?_
        refine g_i2l hE d_R_fitted_35 ?_
        cases h
        exact g_lret hE d_R_fitted_36 rfl rfl
    · replace h := if_t c4 h
      refine g_lload_n (i := 1) hE d_R_fitted_22 rfl rfl ?_
      refine g_l2i hE d_R_fitted_23 ?_
      refine g_i2b hE d_R_fitted_24 ?_
      refine g_i2l hE d_R_fitted_25 ?_
      cases h
      exact g_lret hE d_R_fitted_26 rfl rfl
  · replace h := if_t c6 h
    refine g_lload_n (i := 1) hE d_R_fitted_5 rfl rfl ?_
    refine g_lconst (v := 0) hE d_R_fitted_6 rfl ?_
    refine g_lcmp hE d_R_fitted_7 ?_
    refine g_if_ne hE d_R_fitted_8 (fun c5 => ?_) (fun c5 => ?_)
    · replace h := if_f c5 h
      refine g_lconst (v := 1) hE d_R_fitted_15 rfl ?_
      cases h
      exact g_lret hE d_R_fitted_16 rfl rfl
    · replace h := if_t c5 h
      refine g_lconst (v := 0) hE d_R_fitted_11 rfl ?_
      refine g_goto hE d_R_fitted_12 ?_
      cases h
      exact g_lret hE d_R_fitted_16 rfl rfl
theorem d_R_madeBy_0 : dc b_R_madeBy 0 (.iconst 0) 1 1 := ⟨by decide +kernel, rfl⟩
theorem d_R_madeBy_1 : dc b_R_madeBy 1 (.istore 4) 2 3 := ⟨by decide +kernel, rfl⟩
theorem d_R_madeBy_3 : dc b_R_madeBy 3 (.iload 4) 2 5 := ⟨by decide +kernel, rfl⟩
theorem d_R_madeBy_5 : dc b_R_madeBy 5 (.aload_n 0) 1 6 := ⟨by decide +kernel, rfl⟩
theorem d_R_madeBy_6 : dc b_R_madeBy 6 (.getfield 26) 3 9 := ⟨by decide +kernel, rfl⟩
theorem d_R_madeBy_9 : db b_R_madeBy 9 (.if_icmp .ge 45) 45 54 12 := ⟨by decide +kernel, by decide, rfl⟩
theorem d_R_madeBy_12 : dc b_R_madeBy 12 (.aload_n 0) 1 13 := ⟨by decide +kernel, rfl⟩
theorem d_R_madeBy_13 : dc b_R_madeBy 13 (.getfield 29) 3 16 := ⟨by decide +kernel, rfl⟩
theorem d_R_madeBy_16 : dc b_R_madeBy 16 (.iload 4) 2 18 := ⟨by decide +kernel, rfl⟩
theorem d_R_madeBy_18 : dc b_R_madeBy 18 (.iaload) 1 19 := ⟨by decide +kernel, rfl⟩
theorem d_R_madeBy_19 : dc b_R_madeBy 19 (.iload_n 1) 1 20 := ⟨by decide +kernel, rfl⟩
theorem d_R_madeBy_20 : db b_R_madeBy 20 (.if_icmp .ne 28) 28 48 23 := ⟨by decide +kernel, by decide, rfl⟩
theorem d_R_madeBy_23 : dc b_R_madeBy 23 (.aload_n 0) 1 24 := ⟨by decide +kernel, rfl⟩
theorem d_R_madeBy_24 : dc b_R_madeBy 24 (.getfield 32) 3 27 := ⟨by decide +kernel, rfl⟩
theorem d_R_madeBy_27 : dc b_R_madeBy 27 (.iload 4) 2 29 := ⟨by decide +kernel, rfl⟩
theorem d_R_madeBy_29 : dc b_R_madeBy 29 (.iaload) 1 30 := ⟨by decide +kernel, rfl⟩
theorem d_R_madeBy_30 : dc b_R_madeBy 30 (.iload_n 2) 1 31 := ⟨by decide +kernel, rfl⟩
theorem d_R_madeBy_31 : db b_R_madeBy 31 (.if_icmp .ne 17) 17 48 34 := ⟨by decide +kernel, by decide, rfl⟩
theorem d_R_madeBy_34 : dc b_R_madeBy 34 (.aload_n 0) 1 35 := ⟨by decide +kernel, rfl⟩
theorem d_R_madeBy_35 : dc b_R_madeBy 35 (.getfield 35) 3 38 := ⟨by decide +kernel, rfl⟩
theorem d_R_madeBy_38 : dc b_R_madeBy 38 (.iload 4) 2 40 := ⟨by decide +kernel, rfl⟩
theorem d_R_madeBy_40 : dc b_R_madeBy 40 (.iaload) 1 41 := ⟨by decide +kernel, rfl⟩
theorem d_R_madeBy_41 : dc b_R_madeBy 41 (.iload_n 3) 1 42 := ⟨by decide +kernel, rfl⟩
theorem d_R_madeBy_42 : db b_R_madeBy 42 (.if_icmp .ne 6) 6 48 45 := ⟨by decide +kernel, by decide, rfl⟩
theorem d_R_madeBy_45 : dc b_R_madeBy 45 (.iload 4) 2 47 := ⟨by decide +kernel, rfl⟩
theorem d_R_madeBy_47 : dc b_R_madeBy 47 (.ireturn) 1 48 := ⟨by decide +kernel, rfl⟩
theorem d_R_madeBy_48 : dc b_R_madeBy 48 (.iinc 4 1) 3 51 := ⟨by decide +kernel, rfl⟩
theorem d_R_madeBy_51 : db b_R_madeBy 51 (.goto (-48)) (-48) 3 54 := ⟨by decide +kernel, by decide, rfl⟩
theorem d_R_madeBy_54 : dc b_R_madeBy 54 (.iconst (-1)) 1 55 := ⟨by decide +kernel, rfl⟩
theorem d_R_madeBy_55 : dc b_R_madeBy 55 (.ireturn) 1 56 := ⟨by decide +kernel, rfl⟩
def f_R_madeBy_J48 (S : gS) (d : gD) (o : Nat) (kb : Int32 → Int32 → Int32 → Int32 → Option (Int32)) (v1 : Int32) (v2 : Int32) (v3 : Int32) (v4 : Int32) : Option (Int32) :=
  kb v1 v2 v3 (v4 + 1)
set_option maxRecDepth 100000 in
set_option maxHeartbeats 4000000 in
theorem w_R_madeBy_J48 {X : GX} (hE : gE X b_R_madeBy 5 "StandInMillModel" (some (.int)) "madeBy" 0 0) {S : gS} {d : gD} {o : Nat} {r : Int32} {kb : Int32 → Int32 → Int32 → Int32 → Option (Int32)} (hkb : ∀ (v1 : Int32) (v2 : Int32) (v3 : Int32) (v4 : Int32), kb v1 v2 v3 v4 = some r → gw X 0 0 (gQ X (some (.int r)) S d 0 0) S d 3 [some (va_rf (some o)), some (.int v1), some (.int v2), some (.int v3), some (.int v4)] []) :
    ∀ (v1 : Int32) (v2 : Int32) (v3 : Int32) (v4 : Int32), f_R_madeBy_J48 S d o kb v1 v2 v3 v4 = some r → gw X 0 0 (gQ X (some (.int r)) S d 0 0) S d 48 [some (va_rf (some o)), some (.int v1), some (.int v2), some (.int v3), some (.int v4)] [] := by
  intro v1 v2 v3 v4 h
  unfold f_R_madeBy_J48 at h
  refine g_iinc (i := 4) (lv' := [some (va_rf (some o)), some (.int v1), some (.int v2), some (.int v3), some (.int (v4 + 1))]) hE d_R_madeBy_48 ki_1 rfl (Nat.le_of_ble_eq_true rfl) ⟨rfl, Nat.le_of_ble_eq_true rfl⟩ (lvp_i rfl) ?_
  refine g_goto hE d_R_madeBy_51 ?_
  exact gw.less (lv' := [some (va_rf (some o)), some (.int v1), some (.int v2), some (.int v3), some (.int (v4 + 1))]) (And.intro rfl (And.intro rfl (And.intro rfl (And.intro rfl (And.intro rfl trivial))))) (hkb v1 v2 v3 (v4 + 1) h)
def f_R_madeBy_B3 (S : gS) (d : gD) (o : Nat) (kb : Int32 → Int32 → Int32 → Int32 → Option (Int32)) (v1 : Int32) (v2 : Int32) (v3 : Int32) (v4 : Int32) : Option (Int32) :=
  kd S o 10 <|
  lt_ (dI d o 5) fun x2 =>
  if x2 ≤ v4 then (
    some (-1))
  else (
    lt_ (sP S o 6) fun x3 =>
    nn x3 fun a4 =>
    kd S a4 50 <|
    gi v4 (sN S a4) <|
    lt_ (dI d a4 v4.toNatClampNeg) fun x7 =>
    if x7 = v1 then (
      lt_ (sP S o 7) fun x8 =>
      nn x8 fun a9 =>
      kd S a9 50 <|
      gi v4 (sN S a9) <|
      lt_ (dI d a9 v4.toNatClampNeg) fun x12 =>
      if x12 = v2 then (
        lt_ (sP S o 8) fun x13 =>
        nn x13 fun a14 =>
        kd S a14 50 <|
        gi v4 (sN S a14) <|
        lt_ (dI d a14 v4.toNatClampNeg) fun x17 =>
        if x17 = v3 then (
          some v4)
        else (
          f_R_madeBy_J48 S d o kb v1 v2 v3 v4))
      else (
        f_R_madeBy_J48 S d o kb v1 v2 v3 v4))
    else (
      f_R_madeBy_J48 S d o kb v1 v2 v3 v4))
set_option maxRecDepth 100000 in
set_option maxHeartbeats 4000000 in
theorem w_R_madeBy_B3 {X : GX} (hE : gE X b_R_madeBy 5 "StandInMillModel" (some (.int)) "madeBy" 0 0) {S : gS} {d : gD} {o : Nat} {r : Int32} {kb : Int32 → Int32 → Int32 → Int32 → Option (Int32)} (hkb : ∀ (v1 : Int32) (v2 : Int32) (v3 : Int32) (v4 : Int32), kb v1 v2 v3 v4 = some r → gw X 0 0 (gQ X (some (.int r)) S d 0 0) S d 3 [some (va_rf (some o)), some (.int v1), some (.int v2), some (.int v3), some (.int v4)] []) :
    ∀ (v1 : Int32) (v2 : Int32) (v3 : Int32) (v4 : Int32), f_R_madeBy_B3 S d o kb v1 v2 v3 v4 = some r → gw X 0 0 (gQ X (some (.int r)) S d 0 0) S d 3 [some (va_rf (some o)), some (.int v1), some (.int v2), some (.int v3), some (.int v4)] [] := by
  intro v1 v2 v3 v4 h
  unfold f_R_madeBy_B3 at h
  refine g_iload (i := 4) hE d_R_madeBy_3 rfl ?_
  refine g_aload_n (i := 0) hE d_R_madeBy_5 rfl rfl ?_
  obtain ⟨k1, h⟩ := kd_s h
  refine g_getI 5 hE kc_R k1 (Nat.le_of_ble_eq_true rfl) rfl m_381 d_R_madeBy_6 (fun x2 e => ?_)
  replace h := lt_i e h; clear e
  refine g_icmp_ge hE d_R_madeBy_9 (fun c21 => ?_) (fun c21 => ?_)
  · replace h := if_t c21 h
    refine g_iconst hE d_R_madeBy_54 ki_m1 ?_
    cases h
    exact g_iret hE d_R_madeBy_55 rfl rfl
  · replace h := if_f c21 h
    refine g_aload_n (i := 0) hE d_R_madeBy_12 rfl rfl ?_
    refine g_getR 6 hE kc_R k1 (Nat.le_of_ble_eq_true rfl) rfl m_382 d_R_madeBy_13 (fun x3 e => ?_)
    replace h := lt_i e h; clear e
    refine g_iload (i := 4) hE d_R_madeBy_16 rfl ?_
    obtain ⟨a4, rfl, h⟩ := nn_s h
    obtain ⟨k5, h⟩ := kd_s h
    obtain ⟨g6, h⟩ := gi_s h
    refine g_iald hE k5 g6 d_R_madeBy_18 (fun x7 e => ?_)
    replace h := lt_i e h; clear e
    refine g_iload_n (i := 1) hE d_R_madeBy_19 rfl rfl ?_
    refine g_icmp_ne hE d_R_madeBy_20 (fun c20 => ?_) (fun c20 => ?_)
    · replace h := if_f c20 h
      exact gw.less (lv' := [some (va_rf (some o)), some (.int v1), some (.int v2), some (.int v3), some (.int v4)]) (And.intro rfl (And.intro rfl (And.intro rfl (And.intro rfl (And.intro rfl trivial))))) (w_R_madeBy_J48 hE hkb v1 v2 v3 v4 h)
    · replace h := if_t c20 h
      refine g_aload_n (i := 0) hE d_R_madeBy_23 rfl rfl ?_
      refine g_getR 7 hE kc_R k1 (Nat.le_of_ble_eq_true rfl) rfl m_383 d_R_madeBy_24 (fun x8 e => ?_)
      replace h := lt_i e h; clear e
      refine g_iload (i := 4) hE d_R_madeBy_27 rfl ?_
      obtain ⟨a9, rfl, h⟩ := nn_s h
      obtain ⟨k10, h⟩ := kd_s h
      obtain ⟨g11, h⟩ := gi_s h
      refine g_iald hE k10 g11 d_R_madeBy_29 (fun x12 e => ?_)
      replace h := lt_i e h; clear e
      refine g_iload_n (i := 2) hE d_R_madeBy_30 rfl rfl ?_
      refine g_icmp_ne hE d_R_madeBy_31 (fun c19 => ?_) (fun c19 => ?_)
      · replace h := if_f c19 h
        exact gw.less (lv' := [some (va_rf (some o)), some (.int v1), some (.int v2), some (.int v3), some (.int v4)]) (And.intro rfl (And.intro rfl (And.intro rfl (And.intro rfl (And.intro rfl trivial))))) (w_R_madeBy_J48 hE hkb v1 v2 v3 v4 h)
      · replace h := if_t c19 h
        refine g_aload_n (i := 0) hE d_R_madeBy_34 rfl rfl ?_
        refine g_getR 8 hE kc_R k1 (Nat.le_of_ble_eq_true rfl) rfl m_384 d_R_madeBy_35 (fun x13 e => ?_)
        replace h := lt_i e h; clear e
        refine g_iload (i := 4) hE d_R_madeBy_38 rfl ?_
        obtain ⟨a14, rfl, h⟩ := nn_s h
        obtain ⟨k15, h⟩ := kd_s h
        obtain ⟨g16, h⟩ := gi_s h
        refine g_iald hE k15 g16 d_R_madeBy_40 (fun x17 e => ?_)
        replace h := lt_i e h; clear e
        refine g_iload_n (i := 3) hE d_R_madeBy_41 rfl rfl ?_
        refine g_icmp_ne hE d_R_madeBy_42 (fun c18 => ?_) (fun c18 => ?_)
        · replace h := if_f c18 h
          exact gw.less (lv' := [some (va_rf (some o)), some (.int v1), some (.int v2), some (.int v3), some (.int v4)]) (And.intro rfl (And.intro rfl (And.intro rfl (And.intro rfl (And.intro rfl trivial))))) (w_R_madeBy_J48 hE hkb v1 v2 v3 v4 h)
        · replace h := if_t c18 h
          refine g_iload (i := 4) hE d_R_madeBy_45 rfl ?_
          cases h
          exact g_iret hE d_R_madeBy_47 rfl rfl
theorem w_R_madeBy_L3 {X : GX} (hE : gE X b_R_madeBy 5 "StandInMillModel" (some (.int)) "madeBy" 0 0) {S : gS} {d : gD} {o : Nat} {r : Int32} : ∀ (n : Nat) (v1 : Int32) (v2 : Int32) (v3 : Int32) (v4 : Int32), itr (f_R_madeBy_B3 S d o) (fun _ _ _ _ => none) n v1 v2 v3 v4 = some r → gw X 0 0 (gQ X (some (.int r)) S d 0 0) S d 3 [some (va_rf (some o)), some (.int v1), some (.int v2), some (.int v3), some (.int v4)] [] := by
  intro n
  induction n with
  | zero => intro v1 v2 v3 v4 h; cases h
  | succ n ih => exact w_R_madeBy_B3 hE ih
set_option maxRecDepth 100000 in
def f_R_madeBy (S : gS) (d : gD) (o : Nat) (v1 : Int32) (v2 : Int32) (v3 : Int32) : Option (Int32) :=
  itr (f_R_madeBy_B3 S d o) (fun _ _ _ _ => none) fu v1 v2 v3 0
set_option maxRecDepth 100000 in
set_option maxHeartbeats 4000000 in
theorem c_R_madeBy (l : Launch) (G : gG) {S : gS} {d : gD} {o : Nat} {v1 : Int32} {v2 : Int32} {v3 : Int32} {r : Int32} (h : f_R_madeBy S d o v1 v2 v3 = some r) : GM l G y_R_madeBy b_R_madeBy 5 (some (.int)) 0 0 0 0 [.inr (.inr (some o)), .inl v1, .inl v2, .inl v3] S d (some (.int r)) S d := by
  refine GM.of (by decide) (Nat.le_of_ble_eq_true rfl) ?_
  intro X hl0 hG0 hR0 hE0
  have hE : gE X b_R_madeBy 5 "StandInMillModel" (some (.int)) "madeBy" 0 0 := hE0
  unfold f_R_madeBy at h
  refine gw.less (lv' := [some (va_rf (some o)), some (.int v1), some (.int v2), some (.int v3), none]) (And.intro rfl (And.intro rfl (And.intro rfl (And.intro rfl trivial)))) ?_
  refine g_iconst hE d_R_madeBy_0 ki_0 ?_
  refine g_istore (i := 4) (lv' := [some (va_rf (some o)), some (.int v1), some (.int v2), some (.int v3), some (.int 0)]) hE d_R_madeBy_1 (Nat.le_of_ble_eq_true rfl) ⟨rfl, Nat.le_of_ble_eq_true rfl⟩ (lvp_i rfl) ?_
  exact gw.less (lv' := [some (va_rf (some o)), some (.int v1), some (.int v2), some (.int v3), some (.int 0)]) (And.intro rfl (And.intro rfl (And.intro rfl (And.intro rfl (And.intro rfl trivial))))) (w_R_madeBy_L3 hE fu v1 v2 v3 0 h)
theorem d_R_finds_0 : dc b_R_finds 0 (.iconst (-1)) 1 1 := ⟨by decide +kernel, rfl⟩
theorem d_R_finds_1 : dc b_R_finds 1 (.istore 4) 2 3 := ⟨by decide +kernel, rfl⟩
theorem d_R_finds_3 : dc b_R_finds 3 (.iload_n 1) 1 4 := ⟨by decide +kernel, rfl⟩
theorem d_R_finds_4 : dc b_R_finds 4 (.istore 5) 2 6 := ⟨by decide +kernel, rfl⟩
theorem d_R_finds_6 : dc b_R_finds 6 (.iload 5) 2 8 := ⟨by decide +kernel, rfl⟩
theorem d_R_finds_8 : db b_R_finds 8 (.ifCond .lt 43) 43 51 11 := ⟨by decide +kernel, by decide, rfl⟩
theorem d_R_finds_11 : dc b_R_finds 11 (.aload_n 0) 1 12 := ⟨by decide +kernel, rfl⟩
theorem d_R_finds_12 : dc b_R_finds 12 (.iload 5) 2 14 := ⟨by decide +kernel, rfl⟩
theorem d_R_finds_14 : dc b_R_finds 14 (.iload_n 2) 1 15 := ⟨by decide +kernel, rfl⟩
theorem d_R_finds_15 : dc b_R_finds 15 (.iload_n 3) 1 16 := ⟨by decide +kernel, rfl⟩
theorem d_R_finds_16 : dc b_R_finds 16 (.invokevirtual 173) 3 19 := ⟨by decide +kernel, rfl⟩
theorem d_R_finds_19 : dc b_R_finds 19 (.istore 6) 2 21 := ⟨by decide +kernel, rfl⟩
theorem d_R_finds_21 : dc b_R_finds 21 (.iload 6) 2 23 := ⟨by decide +kernel, rfl⟩
theorem d_R_finds_23 : db b_R_finds 23 (.ifCond .lt 7) 7 30 26 := ⟨by decide +kernel, by decide, rfl⟩
theorem d_R_finds_26 : dc b_R_finds 26 (.iload 6) 2 28 := ⟨by decide +kernel, rfl⟩
theorem d_R_finds_28 : dc b_R_finds 28 (.istore 4) 2 30 := ⟨by decide +kernel, rfl⟩
theorem d_R_finds_30 : dc b_R_finds 30 (.iload 5) 2 32 := ⟨by decide +kernel, rfl⟩
theorem d_R_finds_32 : db b_R_finds 32 (.ifCond .ne 7) 7 39 35 := ⟨by decide +kernel, by decide, rfl⟩
theorem d_R_finds_35 : dc b_R_finds 35 (.iconst (-1)) 1 36 := ⟨by decide +kernel, rfl⟩
theorem d_R_finds_36 : db b_R_finds 36 (.goto 10) 10 46 39 := ⟨by decide +kernel, by decide, rfl⟩
theorem d_R_finds_39 : dc b_R_finds 39 (.aload_n 0) 1 40 := ⟨by decide +kernel, rfl⟩
theorem d_R_finds_40 : dc b_R_finds 40 (.getfield 16) 3 43 := ⟨by decide +kernel, rfl⟩
theorem d_R_finds_43 : dc b_R_finds 43 (.iload 5) 2 45 := ⟨by decide +kernel, rfl⟩
theorem d_R_finds_45 : dc b_R_finds 45 (.iaload) 1 46 := ⟨by decide +kernel, rfl⟩
theorem d_R_finds_46 : dc b_R_finds 46 (.istore 5) 2 48 := ⟨by decide +kernel, rfl⟩
theorem d_R_finds_48 : db b_R_finds 48 (.goto (-42)) (-42) 6 51 := ⟨by decide +kernel, by decide, rfl⟩
theorem d_R_finds_51 : dc b_R_finds 51 (.iload 4) 2 53 := ⟨by decide +kernel, rfl⟩
theorem d_R_finds_53 : dc b_R_finds 53 (.ireturn) 1 54 := ⟨by decide +kernel, rfl⟩
def f_R_finds_J46 (S : gS) (d : gD) (o : Nat) (kb : Int32 → Int32 → Int32 → Int32 → Option (Int32)) (v2 : Int32) (v3 : Int32) (v4 : Int32) (u0 : Int32) : Option (Int32) :=
  kb v2 v3 v4 u0
set_option maxRecDepth 100000 in
set_option maxHeartbeats 4000000 in
theorem w_R_finds_J46 {X : GX} (hE : gE X b_R_finds 7 "StandInMillModel" (some (.int)) "finds" 1 24) {S : gS} {d : gD} {o : Nat} {r : Int32} {kb : Int32 → Int32 → Int32 → Int32 → Option (Int32)} (hkb : ∀ (v2 : Int32) (v3 : Int32) (v4 : Int32) (v5 : Int32), kb v2 v3 v4 v5 = some r → gw X 0 0 (gQ X (some (.int r)) S d 0 0) S d 6 [some (va_rf (some o)), none, some (.int v2), some (.int v3), some (.int v4), some (.int v5), none] []) :
    ∀ (v2 : Int32) (v3 : Int32) (v4 : Int32) (u0 : Int32), f_R_finds_J46 S d o kb v2 v3 v4 u0 = some r → gw X 0 0 (gQ X (some (.int r)) S d 0 0) S d 46 [some (va_rf (some o)), none, some (.int v2), some (.int v3), some (.int v4), none, none] [.int u0] := by
  intro v2 v3 v4 u0 h
  unfold f_R_finds_J46 at h
  refine g_istore (i := 5) (lv' := [some (va_rf (some o)), none, some (.int v2), some (.int v3), some (.int v4), some (.int u0), none]) hE d_R_finds_46 (Nat.le_of_ble_eq_true rfl) ⟨rfl, Nat.le_of_ble_eq_true rfl⟩ (lvp_i rfl) ?_
  refine g_goto hE d_R_finds_48 ?_
  exact gw.less (lv' := [some (va_rf (some o)), none, some (.int v2), some (.int v3), some (.int v4), some (.int u0), none]) (And.intro rfl (And.intro rfl (And.intro rfl (And.intro rfl (And.intro rfl trivial))))) (hkb v2 v3 v4 u0 h)
def f_R_finds_J30 (S : gS) (d : gD) (o : Nat) (kb : Int32 → Int32 → Int32 → Int32 → Option (Int32)) (v2 : Int32) (v3 : Int32) (v4 : Int32) (v5 : Int32) : Option (Int32) :=
  if v5 = 0 then (
    f_R_finds_J46 S d o kb v2 v3 v4 (-1))
  else (
    kd S o 10 <|
    lt_ (sP S o 2) fun x2 =>
    nn x2 fun a3 =>
    kd S a3 50 <|
    gi v5 (sN S a3) <|
    lt_ (dI d a3 v5.toNatClampNeg) fun x6 =>
    f_R_finds_J46 S d o kb v2 v3 v4 x6)
set_option maxRecDepth 100000 in
set_option maxHeartbeats 4000000 in
theorem w_R_finds_J30 {X : GX} (hE : gE X b_R_finds 7 "StandInMillModel" (some (.int)) "finds" 1 24) {S : gS} {d : gD} {o : Nat} {r : Int32} {kb : Int32 → Int32 → Int32 → Int32 → Option (Int32)} (hkb : ∀ (v2 : Int32) (v3 : Int32) (v4 : Int32) (v5 : Int32), kb v2 v3 v4 v5 = some r → gw X 0 0 (gQ X (some (.int r)) S d 0 0) S d 6 [some (va_rf (some o)), none, some (.int v2), some (.int v3), some (.int v4), some (.int v5), none] []) :
    ∀ (v2 : Int32) (v3 : Int32) (v4 : Int32) (v5 : Int32), f_R_finds_J30 S d o kb v2 v3 v4 v5 = some r → gw X 0 0 (gQ X (some (.int r)) S d 0 0) S d 30 [some (va_rf (some o)), none, some (.int v2), some (.int v3), some (.int v4), some (.int v5), none] [] := by
  intro v2 v3 v4 v5 h
  unfold f_R_finds_J30 at h
  refine g_iload (i := 5) hE d_R_finds_30 rfl ?_
  refine g_if_ne hE d_R_finds_32 (fun c7 => ?_) (fun c7 => ?_)
  · replace h := if_f c7 h
    refine g_aload_n (i := 0) hE d_R_finds_39 rfl rfl ?_
    obtain ⟨k1, h⟩ := kd_s h
    refine g_getR 2 hE kc_R k1 (Nat.le_of_ble_eq_true rfl) rfl m_378 d_R_finds_40 (fun x2 e => ?_)
    replace h := lt_i e h; clear e
    refine g_iload (i := 5) hE d_R_finds_43 rfl ?_
    obtain ⟨a3, rfl, h⟩ := nn_s h
    obtain ⟨k4, h⟩ := kd_s h
    obtain ⟨g5, h⟩ := gi_s h
    refine g_iald hE k4 g5 d_R_finds_45 (fun x6 e => ?_)
    replace h := lt_i e h; clear e
    exact gw.less (lv' := [some (va_rf (some o)), none, some (.int v2), some (.int v3), some (.int v4), none, none]) (And.intro rfl (And.intro rfl (And.intro rfl (And.intro rfl trivial)))) (w_R_finds_J46 hE hkb v2 v3 v4 x6 h)
  · replace h := if_t c7 h
    refine g_iconst hE d_R_finds_35 ki_m1 ?_
    refine g_goto hE d_R_finds_36 ?_
    exact gw.less (lv' := [some (va_rf (some o)), none, some (.int v2), some (.int v3), some (.int v4), none, none]) (And.intro rfl (And.intro rfl (And.intro rfl (And.intro rfl trivial)))) (w_R_finds_J46 hE hkb v2 v3 v4 (-1) h)
def f_R_finds_B6 (S : gS) (d : gD) (o : Nat) (kb : Int32 → Int32 → Int32 → Int32 → Option (Int32)) (v2 : Int32) (v3 : Int32) (v4 : Int32) (v5 : Int32) : Option (Int32) :=
  if v5 < 0 then (
    some v4)
  else (
    kd S o 10 <|
    bd (f_R_madeBy S d o v5 v2 v3) fun x2 =>
    if x2 < 0 then (
      f_R_finds_J30 S d o kb v2 v3 v4 v5)
    else (
      f_R_finds_J30 S d o kb v2 v3 x2 v5))
set_option maxRecDepth 100000 in
set_option maxHeartbeats 4000000 in
theorem w_R_finds_B6 {X : GX} (hE : gE X b_R_finds 7 "StandInMillModel" (some (.int)) "finds" 1 24) {S : gS} {d : gD} {o : Nat} {r : Int32} {kb : Int32 → Int32 → Int32 → Int32 → Option (Int32)} (hkb : ∀ (v2 : Int32) (v3 : Int32) (v4 : Int32) (v5 : Int32), kb v2 v3 v4 v5 = some r → gw X 0 0 (gQ X (some (.int r)) S d 0 0) S d 6 [some (va_rf (some o)), none, some (.int v2), some (.int v3), some (.int v4), some (.int v5), none] []) :
    ∀ (v2 : Int32) (v3 : Int32) (v4 : Int32) (v5 : Int32), f_R_finds_B6 S d o kb v2 v3 v4 v5 = some r → gw X 0 0 (gQ X (some (.int r)) S d 0 0) S d 6 [some (va_rf (some o)), none, some (.int v2), some (.int v3), some (.int v4), some (.int v5), none] [] := by
  intro v2 v3 v4 v5 h
  unfold f_R_finds_B6 at h
  refine g_iload (i := 5) hE d_R_finds_6 rfl ?_
  refine g_if_lt hE d_R_finds_8 (fun c5 => ?_) (fun c5 => ?_)
  · replace h := if_t c5 h
    refine g_iload (i := 4) hE d_R_finds_51 rfl ?_
    cases h
    exact g_iret hE d_R_finds_53 rfl rfl
  · replace h := if_f c5 h
    refine g_aload_n (i := 0) hE d_R_finds_11 rfl rfl ?_
    refine g_iload (i := 5) hE d_R_finds_12 rfl ?_
    refine g_iload_n (i := 2) hE d_R_finds_14 rfl rfl ?_
    refine g_iload_n (i := 3) hE d_R_finds_15 rfl rfl ?_
    obtain ⟨k1, h⟩ := kd_s h
    obtain ⟨x2, e3, h⟩ := bd_s h
    refine g_callV (av := [.inr (.inr (some o)), .inl v5, .inl v2, .inl v3]) (as := [.inl v5, .inl v2, .inl v3]) (stk := [.int x2]) [] hE (c_R_madeBy (xl X) (xG X) e3) ky_R_madeBy ⟨Nat.le_of_ble_eq_true rfl, Nat.le_of_ble_eq_true rfl⟩ rfl kc_R k1 m_438 m_439 m_440 rfl d_R_finds_16 rfl rfl ct_0 (Nat.zero_le _) (Nat.zero_le _) ?_
    refine gw.cs (c2 := 0) (s2 := 0) rfl rfl ?_
    refine g_istore (i := 6) (lv' := [some (va_rf (some o)), none, some (.int v2), some (.int v3), some (.int v4), some (.int v5), some (.int x2)]) hE d_R_finds_19 (Nat.le_of_ble_eq_true rfl) ⟨rfl, Nat.le_of_ble_eq_true rfl⟩ (lvp_i rfl) ?_
    refine g_iload (i := 6) hE d_R_finds_21 rfl ?_
    refine g_if_lt hE d_R_finds_23 (fun c4 => ?_) (fun c4 => ?_)
    · replace h := if_t c4 h
      exact gw.less (lv' := [some (va_rf (some o)), none, some (.int v2), some (.int v3), some (.int v4), some (.int v5), none]) (And.intro rfl (And.intro rfl (And.intro rfl (And.intro rfl (And.intro rfl trivial))))) (w_R_finds_J30 hE hkb v2 v3 v4 v5 h)
    · replace h := if_f c4 h
      refine g_iload (i := 6) hE d_R_finds_26 rfl ?_
      refine g_istore (i := 4) (lv' := [some (va_rf (some o)), none, some (.int v2), some (.int v3), some (.int x2), some (.int v5), some (.int x2)]) hE d_R_finds_28 (Nat.le_of_ble_eq_true rfl) ⟨rfl, Nat.le_of_ble_eq_true rfl⟩ (lvp_i rfl) ?_
      exact gw.less (lv' := [some (va_rf (some o)), none, some (.int v2), some (.int v3), some (.int x2), some (.int v5), none]) (And.intro rfl (And.intro rfl (And.intro rfl (And.intro rfl (And.intro rfl trivial))))) (w_R_finds_J30 hE hkb v2 v3 x2 v5 h)
theorem w_R_finds_L6 {X : GX} (hE : gE X b_R_finds 7 "StandInMillModel" (some (.int)) "finds" 1 24) {S : gS} {d : gD} {o : Nat} {r : Int32} : ∀ (n : Nat) (v2 : Int32) (v3 : Int32) (v4 : Int32) (v5 : Int32), itr (f_R_finds_B6 S d o) (fun _ _ _ _ => none) n v2 v3 v4 v5 = some r → gw X 0 0 (gQ X (some (.int r)) S d 0 0) S d 6 [some (va_rf (some o)), none, some (.int v2), some (.int v3), some (.int v4), some (.int v5), none] [] := by
  intro n
  induction n with
  | zero => intro v2 v3 v4 v5 h; cases h
  | succ n ih => exact w_R_finds_B6 hE ih
set_option maxRecDepth 100000 in
def f_R_finds (S : gS) (d : gD) (o : Nat) (v1 : Int32) (v2 : Int32) (v3 : Int32) : Option (Int32) :=
  itr (f_R_finds_B6 S d o) (fun _ _ _ _ => none) fu v2 v3 (-1) v1
set_option maxRecDepth 100000 in
set_option maxHeartbeats 4000000 in
theorem c_R_finds (l : Launch) (G : gG) {S : gS} {d : gD} {o : Nat} {v1 : Int32} {v2 : Int32} {v3 : Int32} {r : Int32} (h : f_R_finds S d o v1 v2 v3 = some r) : GM l G y_R_finds b_R_finds 7 (some (.int)) 1 24 0 0 [.inr (.inr (some o)), .inl v1, .inl v2, .inl v3] S d (some (.int r)) S d := by
  refine GM.of (by decide) (Nat.le_of_ble_eq_true rfl) ?_
  intro X hl0 hG0 hR0 hE0
  have hE : gE X b_R_finds 7 "StandInMillModel" (some (.int)) "finds" 1 24 := hE0
  unfold f_R_finds at h
  refine gw.less (lv' := [some (va_rf (some o)), some (.int v1), some (.int v2), some (.int v3), none, none, none]) (And.intro rfl (And.intro rfl (And.intro rfl (And.intro rfl trivial)))) ?_
  refine g_iconst hE d_R_finds_0 ki_m1 ?_
  refine g_istore (i := 4) (lv' := [some (va_rf (some o)), some (.int v1), some (.int v2), some (.int v3), some (.int (-1)), none, none]) hE d_R_finds_1 (Nat.le_of_ble_eq_true rfl) ⟨rfl, Nat.le_of_ble_eq_true rfl⟩ (lvp_i rfl) ?_
  refine g_iload_n (i := 1) hE d_R_finds_3 rfl rfl ?_
  refine g_istore (i := 5) (lv' := [some (va_rf (some o)), some (.int v1), some (.int v2), some (.int v3), some (.int (-1)), some (.int v1), none]) hE d_R_finds_4 (Nat.le_of_ble_eq_true rfl) ⟨rfl, Nat.le_of_ble_eq_true rfl⟩ (lvp_i rfl) ?_
  exact gw.less (lv' := [some (va_rf (some o)), none, some (.int v2), some (.int v3), some (.int (-1)), some (.int v1), none]) (And.intro rfl (And.intro rfl (And.intro rfl (And.intro rfl (And.intro rfl trivial))))) (w_R_finds_L6 hE fu v2 v3 (-1) v1 h)
theorem d_R_visible_0 : dc b_R_visible 0 (.aload_n 0) 1 1 := ⟨by decide +kernel, rfl⟩
theorem d_R_visible_1 : dc b_R_visible 1 (.iload_n 1) 1 2 := ⟨by decide +kernel, rfl⟩
theorem d_R_visible_2 : dc b_R_visible 2 (.aload_n 0) 1 3 := ⟨by decide +kernel, rfl⟩
theorem d_R_visible_3 : dc b_R_visible 3 (.getfield 32) 3 6 := ⟨by decide +kernel, rfl⟩
theorem d_R_visible_6 : dc b_R_visible 6 (.iload_n 2) 1 7 := ⟨by decide +kernel, rfl⟩
theorem d_R_visible_7 : dc b_R_visible 7 (.iaload) 1 8 := ⟨by decide +kernel, rfl⟩
theorem d_R_visible_8 : dc b_R_visible 8 (.aload_n 0) 1 9 := ⟨by decide +kernel, rfl⟩
theorem d_R_visible_9 : dc b_R_visible 9 (.getfield 35) 3 12 := ⟨by decide +kernel, rfl⟩
theorem d_R_visible_12 : dc b_R_visible 12 (.iload_n 2) 1 13 := ⟨by decide +kernel, rfl⟩
theorem d_R_visible_13 : dc b_R_visible 13 (.iaload) 1 14 := ⟨by decide +kernel, rfl⟩
theorem d_R_visible_14 : dc b_R_visible 14 (.invokevirtual 177) 3 17 := ⟨by decide +kernel, rfl⟩
theorem d_R_visible_17 : dc b_R_visible 17 (.iload_n 2) 1 18 := ⟨by decide +kernel, rfl⟩
theorem d_R_visible_18 : db b_R_visible 18 (.if_icmp .ne 7) 7 25 21 := ⟨by decide +kernel, by decide, rfl⟩
theorem d_R_visible_21 : dc b_R_visible 21 (.iconst 1) 1 22 := ⟨by decide +kernel, rfl⟩
theorem d_R_visible_22 : db b_R_visible 22 (.goto 4) 4 26 25 := ⟨by decide +kernel, by decide, rfl⟩
theorem d_R_visible_25 : dc b_R_visible 25 (.iconst 0) 1 26 := ⟨by decide +kernel, rfl⟩
theorem d_R_visible_26 : dc b_R_visible 26 (.ireturn) 1 27 := ⟨by decide +kernel, rfl⟩
set_option maxRecDepth 100000 in
def f_R_visible (S : gS) (d : gD) (o : Nat) (v1 : Int32) (v2 : Int32) : Option (Int32) :=
  kd S o 10 <|
  lt_ (sP S o 7) fun x2 =>
  nn x2 fun a3 =>
  kd S a3 50 <|
  gi v2 (sN S a3) <|
  lt_ (dI d a3 v2.toNatClampNeg) fun x6 =>
  lt_ (sP S o 8) fun x7 =>
  nn x7 fun a8 =>
  kd S a8 50 <|
  gi v2 (sN S a8) <|
  lt_ (dI d a8 v2.toNatClampNeg) fun x11 =>
  bd (f_R_finds S d o v1 x6 x11) fun x12 =>
  if x12 = v2 then (
    some 1)
  else (
    some 0)
set_option maxRecDepth 100000 in
set_option maxHeartbeats 4000000 in
theorem c_R_visible (l : Launch) (G : gG) {S : gS} {d : gD} {o : Nat} {v1 : Int32} {v2 : Int32} {r : Int32} (h : f_R_visible S d o v1 v2 = some r) : GM l G y_R_visible b_R_visible 3 (some (.boolean)) 2 50 0 0 [.inr (.inr (some o)), .inl v1, .inl v2] S d (some (.int r)) S d := by
  refine GM.of (by decide) (Nat.le_of_ble_eq_true rfl) ?_
  intro X hl0 hG0 hR0 hE0
  have hE : gE X b_R_visible 3 "StandInMillModel" (some (.boolean)) "visible" 2 50 := hE0
  unfold f_R_visible at h
  refine gw.less (lv' := [some (va_rf (some o)), some (.int v1), some (.int v2)]) (And.intro rfl (And.intro rfl (And.intro rfl trivial))) ?_
  refine g_aload_n (i := 0) hE d_R_visible_0 rfl rfl ?_
  refine g_iload_n (i := 1) hE d_R_visible_1 rfl rfl ?_
  refine g_aload_n (i := 0) hE d_R_visible_2 rfl rfl ?_
  obtain ⟨k1, h⟩ := kd_s h
  refine g_getR 7 hE kc_R k1 (Nat.le_of_ble_eq_true rfl) rfl m_383 d_R_visible_3 (fun x2 e => ?_)
  replace h := lt_i e h; clear e
  refine g_iload_n (i := 2) hE d_R_visible_6 rfl rfl ?_
  obtain ⟨a3, rfl, h⟩ := nn_s h
  obtain ⟨k4, h⟩ := kd_s h
  obtain ⟨g5, h⟩ := gi_s h
  refine g_iald hE k4 g5 d_R_visible_7 (fun x6 e => ?_)
  replace h := lt_i e h; clear e
  refine g_aload_n (i := 0) hE d_R_visible_8 rfl rfl ?_
  refine g_getR 8 hE kc_R k1 (Nat.le_of_ble_eq_true rfl) rfl m_384 d_R_visible_9 (fun x7 e => ?_)
  replace h := lt_i e h; clear e
  refine g_iload_n (i := 2) hE d_R_visible_12 rfl rfl ?_
  obtain ⟨a8, rfl, h⟩ := nn_s h
  obtain ⟨k9, h⟩ := kd_s h
  obtain ⟨g10, h⟩ := gi_s h
  refine g_iald hE k9 g10 d_R_visible_13 (fun x11 e => ?_)
  replace h := lt_i e h; clear e
  obtain ⟨x12, e13, h⟩ := bd_s h
  refine g_callV (av := [.inr (.inr (some o)), .inl v1, .inl x6, .inl x11]) (as := [.inl v1, .inl x6, .inl x11]) (stk := [.int x12]) [] hE (c_R_finds (xl X) (xG X) e13) ky_R_finds ⟨Nat.le_of_ble_eq_true rfl, Nat.le_of_ble_eq_true rfl⟩ rfl kc_R k1 m_441 m_442 m_443 rfl d_R_visible_14 rfl rfl ct_0 (Nat.zero_le _) (Nat.zero_le _) ?_
  refine gw.cs (c2 := 0) (s2 := 0) rfl rfl ?_
  refine g_iload_n (i := 2) hE d_R_visible_17 rfl rfl ?_
  refine g_icmp_ne hE d_R_visible_18 (fun c14 => ?_) (fun c14 => ?_)
  · replace h := if_f c14 h
    refine g_iconst hE d_R_visible_25 ki_0 ?_
    cases h
    exact g_zret hE (Or.inl rfl) d_R_visible_26 rfl rfl
  · replace h := if_t c14 h
    refine g_iconst hE d_R_visible_21 ki_1 ?_
    refine g_goto hE d_R_visible_22 ?_
    cases h
    exact g_zret hE (Or.inr rfl) d_R_visible_26 rfl rfl
theorem d_R_sameSignature_0 : dc b_R_sameSignature 0 (.aload_n 0) 1 1 := ⟨by decide +kernel, rfl⟩
theorem d_R_sameSignature_1 : dc b_R_sameSignature 1 (.getfield 51) 3 4 := ⟨by decide +kernel, rfl⟩
theorem d_R_sameSignature_4 : dc b_R_sameSignature 4 (.iload_n 1) 1 5 := ⟨by decide +kernel, rfl⟩
theorem d_R_sameSignature_5 : dc b_R_sameSignature 5 (.iaload) 1 6 := ⟨by decide +kernel, rfl⟩
theorem d_R_sameSignature_6 : dc b_R_sameSignature 6 (.aload_n 0) 1 7 := ⟨by decide +kernel, rfl⟩
theorem d_R_sameSignature_7 : dc b_R_sameSignature 7 (.getfield 51) 3 10 := ⟨by decide +kernel, rfl⟩
theorem d_R_sameSignature_10 : dc b_R_sameSignature 10 (.iload_n 2) 1 11 := ⟨by decide +kernel, rfl⟩
theorem d_R_sameSignature_11 : dc b_R_sameSignature 11 (.iaload) 1 12 := ⟨by decide +kernel, rfl⟩
theorem d_R_sameSignature_12 : db b_R_sameSignature 12 (.if_icmp .ne 72) 72 84 15 := ⟨by decide +kernel, by decide, rfl⟩
theorem d_R_sameSignature_15 : dc b_R_sameSignature 15 (.aload_n 0) 1 16 := ⟨by decide +kernel, rfl⟩
theorem d_R_sameSignature_16 : dc b_R_sameSignature 16 (.getfield 57) 3 19 := ⟨by decide +kernel, rfl⟩
theorem d_R_sameSignature_19 : dc b_R_sameSignature 19 (.iconst 3) 1 20 := ⟨by decide +kernel, rfl⟩
theorem d_R_sameSignature_20 : dc b_R_sameSignature 20 (.iload_n 1) 1 21 := ⟨by decide +kernel, rfl⟩
theorem d_R_sameSignature_21 : dc b_R_sameSignature 21 (.imul) 1 22 := ⟨by decide +kernel, rfl⟩
theorem d_R_sameSignature_22 : dc b_R_sameSignature 22 (.iaload) 1 23 := ⟨by decide +kernel, rfl⟩
theorem d_R_sameSignature_23 : dc b_R_sameSignature 23 (.aload_n 0) 1 24 := ⟨by decide +kernel, rfl⟩
theorem d_R_sameSignature_24 : dc b_R_sameSignature 24 (.getfield 57) 3 27 := ⟨by decide +kernel, rfl⟩
theorem d_R_sameSignature_27 : dc b_R_sameSignature 27 (.iconst 3) 1 28 := ⟨by decide +kernel, rfl⟩
theorem d_R_sameSignature_28 : dc b_R_sameSignature 28 (.iload_n 2) 1 29 := ⟨by decide +kernel, rfl⟩
theorem d_R_sameSignature_29 : dc b_R_sameSignature 29 (.imul) 1 30 := ⟨by decide +kernel, rfl⟩
theorem d_R_sameSignature_30 : dc b_R_sameSignature 30 (.iaload) 1 31 := ⟨by decide +kernel, rfl⟩
theorem d_R_sameSignature_31 : db b_R_sameSignature 31 (.if_icmp .ne 53) 53 84 34 := ⟨by decide +kernel, by decide, rfl⟩
theorem d_R_sameSignature_34 : dc b_R_sameSignature 34 (.aload_n 0) 1 35 := ⟨by decide +kernel, rfl⟩
theorem d_R_sameSignature_35 : dc b_R_sameSignature 35 (.getfield 57) 3 38 := ⟨by decide +kernel, rfl⟩
theorem d_R_sameSignature_38 : dc b_R_sameSignature 38 (.iconst 3) 1 39 := ⟨by decide +kernel, rfl⟩
theorem d_R_sameSignature_39 : dc b_R_sameSignature 39 (.iload_n 1) 1 40 := ⟨by decide +kernel, rfl⟩
theorem d_R_sameSignature_40 : dc b_R_sameSignature 40 (.imul) 1 41 := ⟨by decide +kernel, rfl⟩
theorem d_R_sameSignature_41 : dc b_R_sameSignature 41 (.iconst 1) 1 42 := ⟨by decide +kernel, rfl⟩
theorem d_R_sameSignature_42 : dc b_R_sameSignature 42 (.iadd) 1 43 := ⟨by decide +kernel, rfl⟩
theorem d_R_sameSignature_43 : dc b_R_sameSignature 43 (.iaload) 1 44 := ⟨by decide +kernel, rfl⟩
theorem d_R_sameSignature_44 : dc b_R_sameSignature 44 (.aload_n 0) 1 45 := ⟨by decide +kernel, rfl⟩
theorem d_R_sameSignature_45 : dc b_R_sameSignature 45 (.getfield 57) 3 48 := ⟨by decide +kernel, rfl⟩
theorem d_R_sameSignature_48 : dc b_R_sameSignature 48 (.iconst 3) 1 49 := ⟨by decide +kernel, rfl⟩
theorem d_R_sameSignature_49 : dc b_R_sameSignature 49 (.iload_n 2) 1 50 := ⟨by decide +kernel, rfl⟩
theorem d_R_sameSignature_50 : dc b_R_sameSignature 50 (.imul) 1 51 := ⟨by decide +kernel, rfl⟩
theorem d_R_sameSignature_51 : dc b_R_sameSignature 51 (.iconst 1) 1 52 := ⟨by decide +kernel, rfl⟩
theorem d_R_sameSignature_52 : dc b_R_sameSignature 52 (.iadd) 1 53 := ⟨by decide +kernel, rfl⟩
theorem d_R_sameSignature_53 : dc b_R_sameSignature 53 (.iaload) 1 54 := ⟨by decide +kernel, rfl⟩
theorem d_R_sameSignature_54 : db b_R_sameSignature 54 (.if_icmp .ne 30) 30 84 57 := ⟨by decide +kernel, by decide, rfl⟩
theorem d_R_sameSignature_57 : dc b_R_sameSignature 57 (.aload_n 0) 1 58 := ⟨by decide +kernel, rfl⟩
theorem d_R_sameSignature_58 : dc b_R_sameSignature 58 (.getfield 57) 3 61 := ⟨by decide +kernel, rfl⟩
theorem d_R_sameSignature_61 : dc b_R_sameSignature 61 (.iconst 3) 1 62 := ⟨by decide +kernel, rfl⟩
theorem d_R_sameSignature_62 : dc b_R_sameSignature 62 (.iload_n 1) 1 63 := ⟨by decide +kernel, rfl⟩
theorem d_R_sameSignature_63 : dc b_R_sameSignature 63 (.imul) 1 64 := ⟨by decide +kernel, rfl⟩
theorem d_R_sameSignature_64 : dc b_R_sameSignature 64 (.iconst 2) 1 65 := ⟨by decide +kernel, rfl⟩
theorem d_R_sameSignature_65 : dc b_R_sameSignature 65 (.iadd) 1 66 := ⟨by decide +kernel, rfl⟩
theorem d_R_sameSignature_66 : dc b_R_sameSignature 66 (.iaload) 1 67 := ⟨by decide +kernel, rfl⟩
theorem d_R_sameSignature_67 : dc b_R_sameSignature 67 (.aload_n 0) 1 68 := ⟨by decide +kernel, rfl⟩
theorem d_R_sameSignature_68 : dc b_R_sameSignature 68 (.getfield 57) 3 71 := ⟨by decide +kernel, rfl⟩
theorem d_R_sameSignature_71 : dc b_R_sameSignature 71 (.iconst 3) 1 72 := ⟨by decide +kernel, rfl⟩
theorem d_R_sameSignature_72 : dc b_R_sameSignature 72 (.iload_n 2) 1 73 := ⟨by decide +kernel, rfl⟩
theorem d_R_sameSignature_73 : dc b_R_sameSignature 73 (.imul) 1 74 := ⟨by decide +kernel, rfl⟩
theorem d_R_sameSignature_74 : dc b_R_sameSignature 74 (.iconst 2) 1 75 := ⟨by decide +kernel, rfl⟩
theorem d_R_sameSignature_75 : dc b_R_sameSignature 75 (.iadd) 1 76 := ⟨by decide +kernel, rfl⟩
theorem d_R_sameSignature_76 : dc b_R_sameSignature 76 (.iaload) 1 77 := ⟨by decide +kernel, rfl⟩
theorem d_R_sameSignature_77 : db b_R_sameSignature 77 (.if_icmp .ne 7) 7 84 80 := ⟨by decide +kernel, by decide, rfl⟩
theorem d_R_sameSignature_80 : dc b_R_sameSignature 80 (.iconst 1) 1 81 := ⟨by decide +kernel, rfl⟩
theorem d_R_sameSignature_81 : db b_R_sameSignature 81 (.goto 4) 4 85 84 := ⟨by decide +kernel, by decide, rfl⟩
theorem d_R_sameSignature_84 : dc b_R_sameSignature 84 (.iconst 0) 1 85 := ⟨by decide +kernel, rfl⟩
theorem d_R_sameSignature_85 : dc b_R_sameSignature 85 (.ireturn) 1 86 := ⟨by decide +kernel, rfl⟩
set_option maxRecDepth 100000 in
def f_R_sameSignature (S : gS) (d : gD) (o : Nat) (v1 : Int32) (v2 : Int32) : Option (Int32) :=
  kd S o 10 <|
  lt_ (sP S o 13) fun x2 =>
  nn x2 fun a3 =>
  kd S a3 50 <|
  gi v1 (sN S a3) <|
  lt_ (dI d a3 v1.toNatClampNeg) fun x6 =>
  lt_ (sP S o 13) fun x7 =>
  nn x7 fun a8 =>
  kd S a8 50 <|
  gi v2 (sN S a8) <|
  lt_ (dI d a8 v2.toNatClampNeg) fun x11 =>
  if x6 = x11 then (
    lt_ (sP S o 15) fun x12 =>
    nn x12 fun a13 =>
    kd S a13 50 <|
    gi (3 * v1) (sN S a13) <|
    lt_ (dI d a13 (3 * v1 : Int32).toNatClampNeg) fun x16 =>
    lt_ (sP S o 15) fun x17 =>
    nn x17 fun a18 =>
    kd S a18 50 <|
    gi (3 * v2) (sN S a18) <|
    lt_ (dI d a18 (3 * v2 : Int32).toNatClampNeg) fun x21 =>
    if x16 = x21 then (
      lt_ (sP S o 15) fun x22 =>
      nn x22 fun a23 =>
      kd S a23 50 <|
      gi ((3 * v1) + 1) (sN S a23) <|
      lt_ (dI d a23 ((3 * v1) + 1 : Int32).toNatClampNeg) fun x26 =>
      lt_ (sP S o 15) fun x27 =>
      nn x27 fun a28 =>
      kd S a28 50 <|
      gi ((3 * v2) + 1) (sN S a28) <|
      lt_ (dI d a28 ((3 * v2) + 1 : Int32).toNatClampNeg) fun x31 =>
      if x26 = x31 then (
        lt_ (sP S o 15) fun x32 =>
        nn x32 fun a33 =>
        kd S a33 50 <|
        gi ((3 * v1) + 2) (sN S a33) <|
        lt_ (dI d a33 ((3 * v1) + 2 : Int32).toNatClampNeg) fun x36 =>
        lt_ (sP S o 15) fun x37 =>
        nn x37 fun a38 =>
        kd S a38 50 <|
        gi ((3 * v2) + 2) (sN S a38) <|
        lt_ (dI d a38 ((3 * v2) + 2 : Int32).toNatClampNeg) fun x41 =>
        if x36 = x41 then (
          some 1)
        else (
          some 0))
      else (
        some 0))
    else (
      some 0))
  else (
    some 0)
set_option maxRecDepth 100000 in
set_option maxHeartbeats 4000000 in
theorem c_R_sameSignature (l : Launch) (G : gG) {S : gS} {d : gD} {o : Nat} {v1 : Int32} {v2 : Int32} {r : Int32} (h : f_R_sameSignature S d o v1 v2 = some r) : GM l G y_R_sameSignature b_R_sameSignature 3 (some (.boolean)) 0 0 0 0 [.inr (.inr (some o)), .inl v1, .inl v2] S d (some (.int r)) S d := by
  refine GM.of (by decide) (Nat.le_of_ble_eq_true rfl) ?_
  intro X hl0 hG0 hR0 hE0
  have hE : gE X b_R_sameSignature 3 "StandInMillModel" (some (.boolean)) "sameSignature" 0 0 := hE0
  unfold f_R_sameSignature at h
  refine gw.less (lv' := [some (va_rf (some o)), some (.int v1), some (.int v2)]) (And.intro rfl (And.intro rfl (And.intro rfl trivial))) ?_
  refine g_aload_n (i := 0) hE d_R_sameSignature_0 rfl rfl ?_
  obtain ⟨k1, h⟩ := kd_s h
  refine g_getR 13 hE kc_R k1 (Nat.le_of_ble_eq_true rfl) rfl m_390 d_R_sameSignature_1 (fun x2 e => ?_)
  replace h := lt_i e h; clear e
  refine g_iload_n (i := 1) hE d_R_sameSignature_4 rfl rfl ?_
  obtain ⟨a3, rfl, h⟩ := nn_s h
  obtain ⟨k4, h⟩ := kd_s h
  obtain ⟨g5, h⟩ := gi_s h
  refine g_iald hE k4 g5 d_R_sameSignature_5 (fun x6 e => ?_)
  replace h := lt_i e h; clear e
  refine g_aload_n (i := 0) hE d_R_sameSignature_6 rfl rfl ?_
  refine g_getR 13 hE kc_R k1 (Nat.le_of_ble_eq_true rfl) rfl m_390 d_R_sameSignature_7 (fun x7 e => ?_)
  replace h := lt_i e h; clear e
  refine g_iload_n (i := 2) hE d_R_sameSignature_10 rfl rfl ?_
  obtain ⟨a8, rfl, h⟩ := nn_s h
  obtain ⟨k9, h⟩ := kd_s h
  obtain ⟨g10, h⟩ := gi_s h
  refine g_iald hE k9 g10 d_R_sameSignature_11 (fun x11 e => ?_)
  replace h := lt_i e h; clear e
  refine g_icmp_ne hE d_R_sameSignature_12 (fun c45 => ?_) (fun c45 => ?_)
  · replace h := if_f c45 h
    refine g_iconst hE d_R_sameSignature_84 ki_0 ?_
    cases h
    exact g_zret hE (Or.inl rfl) d_R_sameSignature_85 rfl rfl
  · replace h := if_t c45 h
    refine g_aload_n (i := 0) hE d_R_sameSignature_15 rfl rfl ?_
    refine g_getR 15 hE kc_R k1 (Nat.le_of_ble_eq_true rfl) rfl m_392 d_R_sameSignature_16 (fun x12 e => ?_)
    replace h := lt_i e h; clear e
    refine g_iconst hE d_R_sameSignature_19 ki_3 ?_
    refine g_iload_n (i := 1) hE d_R_sameSignature_20 rfl rfl ?_
    refine g_imul hE d_R_sameSignature_21 ?_
    obtain ⟨a13, rfl, h⟩ := nn_s h
    obtain ⟨k14, h⟩ := kd_s h
    obtain ⟨g15, h⟩ := gi_s h
    refine g_iald hE k14 g15 d_R_sameSignature_22 (fun x16 e => ?_)
    replace h := lt_i e h; clear e
    refine g_aload_n (i := 0) hE d_R_sameSignature_23 rfl rfl ?_
    refine g_getR 15 hE kc_R k1 (Nat.le_of_ble_eq_true rfl) rfl m_392 d_R_sameSignature_24 (fun x17 e => ?_)
    replace h := lt_i e h; clear e
    refine g_iconst hE d_R_sameSignature_27 ki_3 ?_
    refine g_iload_n (i := 2) hE d_R_sameSignature_28 rfl rfl ?_
    refine g_imul hE d_R_sameSignature_29 ?_
    obtain ⟨a18, rfl, h⟩ := nn_s h
    obtain ⟨k19, h⟩ := kd_s h
    obtain ⟨g20, h⟩ := gi_s h
    refine g_iald hE k19 g20 d_R_sameSignature_30 (fun x21 e => ?_)
    replace h := lt_i e h; clear e
    refine g_icmp_ne hE d_R_sameSignature_31 (fun c44 => ?_) (fun c44 => ?_)
    · replace h := if_f c44 h
      refine g_iconst hE d_R_sameSignature_84 ki_0 ?_
      cases h
      exact g_zret hE (Or.inl rfl) d_R_sameSignature_85 rfl rfl
    · replace h := if_t c44 h
      refine g_aload_n (i := 0) hE d_R_sameSignature_34 rfl rfl ?_
      refine g_getR 15 hE kc_R k1 (Nat.le_of_ble_eq_true rfl) rfl m_392 d_R_sameSignature_35 (fun x22 e => ?_)
      replace h := lt_i e h; clear e
      refine g_iconst hE d_R_sameSignature_38 ki_3 ?_
      refine g_iload_n (i := 1) hE d_R_sameSignature_39 rfl rfl ?_
      refine g_imul hE d_R_sameSignature_40 ?_
      refine g_iconst hE d_R_sameSignature_41 ki_1 ?_
      refine g_iadd hE d_R_sameSignature_42 ?_
      obtain ⟨a23, rfl, h⟩ := nn_s h
      obtain ⟨k24, h⟩ := kd_s h
      obtain ⟨g25, h⟩ := gi_s h
      refine g_iald hE k24 g25 d_R_sameSignature_43 (fun x26 e => ?_)
      replace h := lt_i e h; clear e
      refine g_aload_n (i := 0) hE d_R_sameSignature_44 rfl rfl ?_
      refine g_getR 15 hE kc_R k1 (Nat.le_of_ble_eq_true rfl) rfl m_392 d_R_sameSignature_45 (fun x27 e => ?_)
      replace h := lt_i e h; clear e
      refine g_iconst hE d_R_sameSignature_48 ki_3 ?_
      refine g_iload_n (i := 2) hE d_R_sameSignature_49 rfl rfl ?_
      refine g_imul hE d_R_sameSignature_50 ?_
      refine g_iconst hE d_R_sameSignature_51 ki_1 ?_
      refine g_iadd hE d_R_sameSignature_52 ?_
      obtain ⟨a28, rfl, h⟩ := nn_s h
      obtain ⟨k29, h⟩ := kd_s h
      obtain ⟨g30, h⟩ := gi_s h
      refine g_iald hE k29 g30 d_R_sameSignature_53 (fun x31 e => ?_)
      replace h := lt_i e h; clear e
      refine g_icmp_ne hE d_R_sameSignature_54 (fun c43 => ?_) (fun c43 => ?_)
      · replace h := if_f c43 h
        refine g_iconst hE d_R_sameSignature_84 ki_0 ?_
        cases h
        exact g_zret hE (Or.inl rfl) d_R_sameSignature_85 rfl rfl
      · replace h := if_t c43 h
        refine g_aload_n (i := 0) hE d_R_sameSignature_57 rfl rfl ?_
        refine g_getR 15 hE kc_R k1 (Nat.le_of_ble_eq_true rfl) rfl m_392 d_R_sameSignature_58 (fun x32 e => ?_)
        replace h := lt_i e h; clear e
        refine g_iconst hE d_R_sameSignature_61 ki_3 ?_
        refine g_iload_n (i := 1) hE d_R_sameSignature_62 rfl rfl ?_
        refine g_imul hE d_R_sameSignature_63 ?_
        refine g_iconst hE d_R_sameSignature_64 ki_2 ?_
        refine g_iadd hE d_R_sameSignature_65 ?_
        obtain ⟨a33, rfl, h⟩ := nn_s h
        obtain ⟨k34, h⟩ := kd_s h
        obtain ⟨g35, h⟩ := gi_s h
        refine g_iald hE k34 g35 d_R_sameSignature_66 (fun x36 e => ?_)
        replace h := lt_i e h; clear e
        refine g_aload_n (i := 0) hE d_R_sameSignature_67 rfl rfl ?_
        refine g_getR 15 hE kc_R k1 (Nat.le_of_ble_eq_true rfl) rfl m_392 d_R_sameSignature_68 (fun x37 e => ?_)
        replace h := lt_i e h; clear e
        refine g_iconst hE d_R_sameSignature_71 ki_3 ?_
        refine g_iload_n (i := 2) hE d_R_sameSignature_72 rfl rfl ?_
        refine g_imul hE d_R_sameSignature_73 ?_
        refine g_iconst hE d_R_sameSignature_74 ki_2 ?_
        refine g_iadd hE d_R_sameSignature_75 ?_
        obtain ⟨a38, rfl, h⟩ := nn_s h
        obtain ⟨k39, h⟩ := kd_s h
        obtain ⟨g40, h⟩ := gi_s h
        refine g_iald hE k39 g40 d_R_sameSignature_76 (fun x41 e => ?_)
        replace h := lt_i e h; clear e
        refine g_icmp_ne hE d_R_sameSignature_77 (fun c42 => ?_) (fun c42 => ?_)
        · replace h := if_f c42 h
          refine g_iconst hE d_R_sameSignature_84 ki_0 ?_
          cases h
          exact g_zret hE (Or.inl rfl) d_R_sameSignature_85 rfl rfl
        · replace h := if_t c42 h
          refine g_iconst hE d_R_sameSignature_80 ki_1 ?_
          refine g_goto hE d_R_sameSignature_81 ?_
          cases h
          exact g_zret hE (Or.inr rfl) d_R_sameSignature_85 rfl rfl
theorem d_R_takesCount_0 : dc b_R_takesCount 0 (.iconst 0) 1 1 := ⟨by decide +kernel, rfl⟩
theorem d_R_takesCount_1 : dc b_R_takesCount 1 (.istore_n 2) 1 2 := ⟨by decide +kernel, rfl⟩
theorem d_R_takesCount_2 : dc b_R_takesCount 2 (.iload_n 2) 1 3 := ⟨by decide +kernel, rfl⟩
theorem d_R_takesCount_3 : dc b_R_takesCount 3 (.iconst 3) 1 4 := ⟨by decide +kernel, rfl⟩
theorem d_R_takesCount_4 : db b_R_takesCount 4 (.if_icmp .ge 22) 22 26 7 := ⟨by decide +kernel, by decide, rfl⟩
theorem d_R_takesCount_7 : dc b_R_takesCount 7 (.aload_n 0) 1 8 := ⟨by decide +kernel, rfl⟩
theorem d_R_takesCount_8 : dc b_R_takesCount 8 (.getfield 57) 3 11 := ⟨by decide +kernel, rfl⟩
theorem d_R_takesCount_11 : dc b_R_takesCount 11 (.iconst 3) 1 12 := ⟨by decide +kernel, rfl⟩
theorem d_R_takesCount_12 : dc b_R_takesCount 12 (.iload_n 1) 1 13 := ⟨by decide +kernel, rfl⟩
theorem d_R_takesCount_13 : dc b_R_takesCount 13 (.imul) 1 14 := ⟨by decide +kernel, rfl⟩
theorem d_R_takesCount_14 : dc b_R_takesCount 14 (.iload_n 2) 1 15 := ⟨by decide +kernel, rfl⟩
theorem d_R_takesCount_15 : dc b_R_takesCount 15 (.iadd) 1 16 := ⟨by decide +kernel, rfl⟩
theorem d_R_takesCount_16 : dc b_R_takesCount 16 (.iaload) 1 17 := ⟨by decide +kernel, rfl⟩
theorem d_R_takesCount_17 : db b_R_takesCount 17 (.ifCond .eq 9) 9 26 20 := ⟨by decide +kernel, by decide, rfl⟩
theorem d_R_takesCount_20 : dc b_R_takesCount 20 (.iinc 2 1) 3 23 := ⟨by decide +kernel, rfl⟩
theorem d_R_takesCount_23 : db b_R_takesCount 23 (.goto (-21)) (-21) 2 26 := ⟨by decide +kernel, by decide, rfl⟩
theorem d_R_takesCount_26 : dc b_R_takesCount 26 (.iload_n 2) 1 27 := ⟨by decide +kernel, rfl⟩
theorem d_R_takesCount_27 : dc b_R_takesCount 27 (.ireturn) 1 28 := ⟨by decide +kernel, rfl⟩
def f_R_takesCount_B2 (S : gS) (d : gD) (o : Nat) (kb : Int32 → Int32 → Option (Int32)) (v1 : Int32) (v2 : Int32) : Option (Int32) :=
  if 3 ≤ v2 then (
    some v2)
  else (
    kd S o 10 <|
    lt_ (sP S o 15) fun x2 =>
    nn x2 fun a3 =>
    kd S a3 50 <|
    gi ((3 * v1) + v2) (sN S a3) <|
    lt_ (dI d a3 ((3 * v1) + v2 : Int32).toNatClampNeg) fun x6 =>
    if x6 = 0 then (
      some v2)
    else (
      kb v1 (v2 + 1)))
set_option maxRecDepth 100000 in
set_option maxHeartbeats 4000000 in
theorem w_R_takesCount_B2 {X : GX} (hE : gE X b_R_takesCount 3 "StandInMillModel" (some (.int)) "takesCount" 0 0) {S : gS} {d : gD} {o : Nat} {r : Int32} {kb : Int32 → Int32 → Option (Int32)} (hkb : ∀ (v1 : Int32) (v2 : Int32), kb v1 v2 = some r → gw X 0 0 (gQ X (some (.int r)) S d 0 0) S d 2 [some (va_rf (some o)), some (.int v1), some (.int v2)] []) :
    ∀ (v1 : Int32) (v2 : Int32), f_R_takesCount_B2 S d o kb v1 v2 = some r → gw X 0 0 (gQ X (some (.int r)) S d 0 0) S d 2 [some (va_rf (some o)), some (.int v1), some (.int v2)] [] := by
  intro v1 v2 h
  unfold f_R_takesCount_B2 at h
  refine g_iload_n (i := 2) hE d_R_takesCount_2 rfl rfl ?_
  refine g_iconst hE d_R_takesCount_3 ki_3 ?_
  refine g_icmp_ge hE d_R_takesCount_4 (fun c8 => ?_) (fun c8 => ?_)
  · replace h := if_t c8 h
    refine g_iload_n (i := 2) hE d_R_takesCount_26 rfl rfl ?_
    cases h
    exact g_iret hE d_R_takesCount_27 rfl rfl
  · replace h := if_f c8 h
    refine g_aload_n (i := 0) hE d_R_takesCount_7 rfl rfl ?_
    obtain ⟨k1, h⟩ := kd_s h
    refine g_getR 15 hE kc_R k1 (Nat.le_of_ble_eq_true rfl) rfl m_392 d_R_takesCount_8 (fun x2 e => ?_)
    replace h := lt_i e h; clear e
    refine g_iconst hE d_R_takesCount_11 ki_3 ?_
    refine g_iload_n (i := 1) hE d_R_takesCount_12 rfl rfl ?_
    refine g_imul hE d_R_takesCount_13 ?_
    refine g_iload_n (i := 2) hE d_R_takesCount_14 rfl rfl ?_
    refine g_iadd hE d_R_takesCount_15 ?_
    obtain ⟨a3, rfl, h⟩ := nn_s h
    obtain ⟨k4, h⟩ := kd_s h
    obtain ⟨g5, h⟩ := gi_s h
    refine g_iald hE k4 g5 d_R_takesCount_16 (fun x6 e => ?_)
    replace h := lt_i e h; clear e
    refine g_if_eq hE d_R_takesCount_17 (fun c7 => ?_) (fun c7 => ?_)
    · replace h := if_t c7 h
      refine g_iload_n (i := 2) hE d_R_takesCount_26 rfl rfl ?_
      cases h
      exact g_iret hE d_R_takesCount_27 rfl rfl
    · replace h := if_f c7 h
      refine g_iinc (i := 2) (lv' := [some (va_rf (some o)), some (.int v1), some (.int (v2 + 1))]) hE d_R_takesCount_20 ki_1 rfl (Nat.le_of_ble_eq_true rfl) ⟨rfl, Nat.le_of_ble_eq_true rfl⟩ (lvp_i rfl) ?_
      refine g_goto hE d_R_takesCount_23 ?_
      exact gw.less (lv' := [some (va_rf (some o)), some (.int v1), some (.int (v2 + 1))]) (And.intro rfl (And.intro rfl (And.intro rfl trivial))) (hkb v1 (v2 + 1) h)
theorem w_R_takesCount_L2 {X : GX} (hE : gE X b_R_takesCount 3 "StandInMillModel" (some (.int)) "takesCount" 0 0) {S : gS} {d : gD} {o : Nat} {r : Int32} : ∀ (n : Nat) (v1 : Int32) (v2 : Int32), itr (f_R_takesCount_B2 S d o) (fun _ _ => none) n v1 v2 = some r → gw X 0 0 (gQ X (some (.int r)) S d 0 0) S d 2 [some (va_rf (some o)), some (.int v1), some (.int v2)] [] := by
  intro n
  induction n with
  | zero => intro v1 v2 h; cases h
  | succ n ih => exact w_R_takesCount_B2 hE ih
set_option maxRecDepth 100000 in
def f_R_takesCount (S : gS) (d : gD) (o : Nat) (v1 : Int32) : Option (Int32) :=
  itr (f_R_takesCount_B2 S d o) (fun _ _ => none) fu v1 0
set_option maxRecDepth 100000 in
set_option maxHeartbeats 4000000 in
theorem c_R_takesCount (l : Launch) (G : gG) {S : gS} {d : gD} {o : Nat} {v1 : Int32} {r : Int32} (h : f_R_takesCount S d o v1 = some r) : GM l G y_R_takesCount b_R_takesCount 3 (some (.int)) 0 0 0 0 [.inr (.inr (some o)), .inl v1] S d (some (.int r)) S d := by
  refine GM.of (by decide) (Nat.le_of_ble_eq_true rfl) ?_
  intro X hl0 hG0 hR0 hE0
  have hE : gE X b_R_takesCount 3 "StandInMillModel" (some (.int)) "takesCount" 0 0 := hE0
  unfold f_R_takesCount at h
  refine gw.less (lv' := [some (va_rf (some o)), some (.int v1), none]) (And.intro rfl (And.intro rfl trivial)) ?_
  refine g_iconst hE d_R_takesCount_0 ki_0 ?_
  refine g_istore_n (i := 2) (lv' := [some (va_rf (some o)), some (.int v1), some (.int 0)]) hE d_R_takesCount_1 rfl (Nat.le_of_ble_eq_true rfl) ⟨rfl, Nat.le_of_ble_eq_true rfl⟩ (lvp_i rfl) ?_
  exact gw.less (lv' := [some (va_rf (some o)), some (.int v1), some (.int 0)]) (And.intro rfl (And.intro rfl (And.intro rfl trivial))) (w_R_takesCount_L2 hE fu v1 0 h)
