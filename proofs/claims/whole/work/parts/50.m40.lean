theorem d_R_handler_0 : dc b_R_handler 0 (.aload_n 0) 1 1 := ⟨by decide +kernel, rfl⟩
theorem d_R_handler_1 : dc b_R_handler 1 (.iconst 0) 1 2 := ⟨by decide +kernel, rfl⟩
theorem d_R_handler_2 : dc b_R_handler 2 (.putfield 7) 3 5 := ⟨by decide +kernel, rfl⟩
theorem d_R_handler_5 : dc b_R_handler 5 (.aload_n 0) 1 6 := ⟨by decide +kernel, rfl⟩
theorem d_R_handler_6 : dc b_R_handler 6 (.iload_n 1) 1 7 := ⟨by decide +kernel, rfl⟩
theorem d_R_handler_7 : dc b_R_handler 7 (.invokevirtual 246) 3 10 := ⟨by decide +kernel, rfl⟩
theorem d_R_handler_10 : db b_R_handler 10 (.ifCond .eq 16) 16 26 13 := ⟨by decide +kernel, by decide, rfl⟩
theorem d_R_handler_13 : dc b_R_handler 13 (.iload_n 2) 1 14 := ⟨by decide +kernel, rfl⟩
theorem d_R_handler_14 : dc b_R_handler 14 (.iconst (-1)) 1 15 := ⟨by decide +kernel, rfl⟩
theorem d_R_handler_15 : db b_R_handler 15 (.if_icmp .lt 11) 11 26 18 := ⟨by decide +kernel, by decide, rfl⟩
theorem d_R_handler_18 : dc b_R_handler 18 (.iload_n 2) 1 19 := ⟨by decide +kernel, rfl⟩
theorem d_R_handler_19 : dc b_R_handler 19 (.aload_n 0) 1 20 := ⟨by decide +kernel, rfl⟩
theorem d_R_handler_20 : dc b_R_handler 20 (.getfield 66) 3 23 := ⟨by decide +kernel, rfl⟩
theorem d_R_handler_23 : db b_R_handler 23 (.if_icmp .lt 5) 5 28 26 := ⟨by decide +kernel, by decide, rfl⟩
theorem d_R_handler_26 : dc b_R_handler 26 (.iconst 0) 1 27 := ⟨by decide +kernel, rfl⟩
theorem d_R_handler_27 : dc b_R_handler 27 (.ireturn) 1 28 := ⟨by decide +kernel, rfl⟩
theorem d_R_handler_28 : dc b_R_handler 28 (.iload_n 3) 1 29 := ⟨by decide +kernel, rfl⟩
theorem d_R_handler_29 : db b_R_handler 29 (.ifCond .eq 25) 25 54 32 := ⟨by decide +kernel, by decide, rfl⟩
theorem d_R_handler_32 : dc b_R_handler 32 (.iload_n 2) 1 33 := ⟨by decide +kernel, rfl⟩
theorem d_R_handler_33 : dc b_R_handler 33 (.iconst (-1)) 1 34 := ⟨by decide +kernel, rfl⟩
theorem d_R_handler_34 : db b_R_handler 34 (.if_icmp .eq 18) 18 52 37 := ⟨by decide +kernel, by decide, rfl⟩
theorem d_R_handler_37 : dc b_R_handler 37 (.aload_n 0) 1 38 := ⟨by decide +kernel, rfl⟩
theorem d_R_handler_38 : dc b_R_handler 38 (.aload_n 0) 1 39 := ⟨by decide +kernel, rfl⟩
theorem d_R_handler_39 : dc b_R_handler 39 (.getfield 69) 3 42 := ⟨by decide +kernel, rfl⟩
theorem d_R_handler_42 : dc b_R_handler 42 (.iload_n 2) 1 43 := ⟨by decide +kernel, rfl⟩
theorem d_R_handler_43 : dc b_R_handler 43 (.iaload) 1 44 := ⟨by decide +kernel, rfl⟩
theorem d_R_handler_44 : dc b_R_handler 44 (.bipush 8) 2 46 := ⟨by decide +kernel, rfl⟩
theorem d_R_handler_46 : dc b_R_handler 46 (.invokevirtual 184) 3 49 := ⟨by decide +kernel, rfl⟩
theorem d_R_handler_49 : db b_R_handler 49 (.ifCond .ne 5) 5 54 52 := ⟨by decide +kernel, by decide, rfl⟩
theorem d_R_handler_52 : dc b_R_handler 52 (.iconst 0) 1 53 := ⟨by decide +kernel, rfl⟩
theorem d_R_handler_53 : dc b_R_handler 53 (.ireturn) 1 54 := ⟨by decide +kernel, rfl⟩
theorem d_R_handler_54 : dc b_R_handler 54 (.aload_n 0) 1 55 := ⟨by decide +kernel, rfl⟩
theorem d_R_handler_55 : dc b_R_handler 55 (.getfield 91) 3 58 := ⟨by decide +kernel, rfl⟩
theorem d_R_handler_58 : dc b_R_handler 58 (.iload_n 1) 1 59 := ⟨by decide +kernel, rfl⟩
theorem d_R_handler_59 : dc b_R_handler 59 (.iload_n 2) 1 60 := ⟨by decide +kernel, rfl⟩
theorem d_R_handler_60 : dc b_R_handler 60 (.iastore) 1 61 := ⟨by decide +kernel, rfl⟩
theorem d_R_handler_61 : dc b_R_handler 61 (.aload_n 0) 1 62 := ⟨by decide +kernel, rfl⟩
theorem d_R_handler_62 : dc b_R_handler 62 (.getfield 94) 3 65 := ⟨by decide +kernel, rfl⟩
theorem d_R_handler_65 : dc b_R_handler 65 (.iload_n 1) 1 66 := ⟨by decide +kernel, rfl⟩
theorem d_R_handler_66 : dc b_R_handler 66 (.iload_n 3) 1 67 := ⟨by decide +kernel, rfl⟩
theorem d_R_handler_67 : dc b_R_handler 67 (.bastore) 1 68 := ⟨by decide +kernel, rfl⟩
theorem d_R_handler_68 : dc b_R_handler 68 (.iconst 1) 1 69 := ⟨by decide +kernel, rfl⟩
theorem d_R_handler_69 : dc b_R_handler 69 (.ireturn) 1 70 := ⟨by decide +kernel, rfl⟩
def f_R_handler_J54 (S : gS) (o : Nat) (d : gD) (v1 : Int32) (v2 : Int32) (v3 : Int32) : Option (Int32 × gD) :=
  kd S o 10 <|
  lt_ (sP S o 26) fun x2 =>
  nn x2 fun a3 =>
  kd S a3 50 <|
  gi v1 (sN S a3) <|
  lt_ (wI d a3 v1.toNatClampNeg v2) fun d6 =>
  lt_ (sP S o 27) fun x7 =>
  nn x7 fun a8 =>
  kd S a8 53 <|
  gi v1 (sN S a8) <|
  lt_ (wI d6 a8 v1.toNatClampNeg (vp_nar .boolean v3)) fun d11 =>
  some (1, d11)
set_option maxRecDepth 100000 in
set_option maxHeartbeats 4000000 in
theorem w_R_handler_J54 {X : GX} (hE : gE X b_R_handler 4 "StandInMillModel" (some (.boolean)) "handler" 3 67) {S : gS} {o : Nat} {r : Int32} {d' : gD} :
    ∀ (d : gD) (v1 : Int32) (v2 : Int32) (v3 : Int32), f_R_handler_J54 S o d v1 v2 v3 = some (r, d') → gw X 0 0 (gQ X (some (.int r)) S d' 0 0) S d 54 [some (va_rf (some o)), some (.int v1), some (.int v2), some (.int v3)] [] := by
  intro d v1 v2 v3 h
  unfold f_R_handler_J54 at h
  refine g_aload_n (i := 0) hE d_R_handler_54 rfl rfl ?_
  obtain ⟨k1, h⟩ := kd_s h
  refine g_getR 26 hE kc_R k1 (Nat.le_of_ble_eq_true rfl) rfl m_403 d_R_handler_55 (fun x2 e => ?_)
  replace h := lt_i e h; clear e
  refine g_iload_n (i := 1) hE d_R_handler_58 rfl rfl ?_
  refine g_iload_n (i := 2) hE d_R_handler_59 rfl rfl ?_
  obtain ⟨a3, rfl, h⟩ := nn_s h
  obtain ⟨k4, h⟩ := kd_s h
  obtain ⟨g5, h⟩ := gi_s h
  refine g_iast hE k4 g5 d_R_handler_60 (fun d6 e => ?_)
  replace h := lt_i e h; clear e
  refine g_aload_n (i := 0) hE d_R_handler_61 rfl rfl ?_
  refine g_getR 27 hE kc_R k1 (Nat.le_of_ble_eq_true rfl) rfl m_404 d_R_handler_62 (fun x7 e => ?_)
  replace h := lt_i e h; clear e
  refine g_iload_n (i := 1) hE d_R_handler_65 rfl rfl ?_
  refine g_iload_n (i := 3) hE d_R_handler_66 rfl rfl ?_
  obtain ⟨a8, rfl, h⟩ := nn_s h
  obtain ⟨k9, h⟩ := kd_s h
  obtain ⟨g10, h⟩ := gi_s h
  refine g_zast hE k9 g10 d_R_handler_67 (fun d11 e => ?_)
  replace h := lt_i e h; clear e
  refine g_iconst hE d_R_handler_68 ki_1 ?_
  cases h
  exact g_zret hE (Or.inr rfl) d_R_handler_69 rfl rfl
set_option maxRecDepth 100000 in
def f_R_handler (S : gS) (d : gD) (o : Nat) (v1 : Int32) (v2 : Int32) (v3 : Int32) : Option (Int32 × gD) :=
  kd S o 10 <|
  lt_ (wI d o 0 0) fun d2 =>
  bd (f_R_isStand S d2 o v1) fun x3 =>
  if x3 = 0 then (
    some (0, d2))
  else (
    if v2 < (-1) then (
      some (0, d2))
    else (
      lt_ (dI d2 o 18) fun x5 =>
      if v2 < x5 then (
        if v3 = 0 then (
          f_R_handler_J54 S o d2 v1 v2 v3)
        else (
          if v2 = (-1) then (
            some (0, d2))
          else (
            lt_ (sP S o 19) fun x6 =>
            nn x6 fun a7 =>
            kd S a7 50 <|
            gi v2 (sN S a7) <|
            lt_ (dI d2 a7 v2.toNatClampNeg) fun x10 =>
            bd (f_R_isBelow S d2 o x10 8) fun x11 =>
            if x11 = 0 then (
              some (0, d2))
            else (
              f_R_handler_J54 S o d2 v1 v2 v3))))
      else (
        some (0, d2))))
set_option maxRecDepth 100000 in
set_option maxHeartbeats 4000000 in
theorem c_R_handler (l : Launch) (G : gG) {S : gS} {d : gD} {o : Nat} {v1 : Int32} {v2 : Int32} {v3 : Int32} {r : Int32} {d' : gD} (h : f_R_handler S d o v1 v2 v3 = some (r, d')) : GM l G y_R_handler b_R_handler 4 (some (.boolean)) 3 67 0 0 [.inr (.inr (some o)), .inl v1, .inl v2, .inl v3] S d (some (.int r)) S d' := by
  refine GM.of (by decide) (Nat.le_of_ble_eq_true rfl) ?_
  intro X hl0 hG0 hR0 hE0
  have hE : gE X b_R_handler 4 "StandInMillModel" (some (.boolean)) "handler" 3 67 := hE0
  unfold f_R_handler at h
  refine gw.less (lv' := [some (va_rf (some o)), some (.int v1), some (.int v2), some (.int v3)]) (And.intro rfl (And.intro rfl (And.intro rfl (And.intro rfl trivial)))) ?_
  refine g_aload_n (i := 0) hE d_R_handler_0 rfl rfl ?_
  refine g_iconst hE d_R_handler_1 ki_0 ?_
  obtain ⟨k1, h⟩ := kd_s h
  refine g_putI 0 hE kc_R k1 (Nat.le_of_ble_eq_true rfl) rfl m_376 rfl (by decide +kernel) d_R_handler_2 (fun d2 e => ?_)
  replace h := lt_i e h; clear e
  refine g_aload_n (i := 0) hE d_R_handler_5 rfl rfl ?_
  refine g_iload_n (i := 1) hE d_R_handler_6 rfl rfl ?_
  obtain ⟨x3, e4, h⟩ := bd_s h
  refine g_callV (av := [.inr (.inr (some o)), .inl v1]) (as := [.inl v1]) (stk := [.int x3]) [] hE (c_R_isStand (xl X) (xG X) e4) ky_R_isStand ⟨Nat.le_of_ble_eq_true rfl, Nat.le_of_ble_eq_true rfl⟩ rfl kc_R k1 m_501 m_502 m_503 rfl d_R_handler_7 rfl rfl ct_0 (Nat.zero_le _) (Nat.zero_le _) ?_
  refine gw.cs (c2 := 0) (s2 := 0) rfl rfl ?_
  refine g_if_eq hE d_R_handler_10 (fun c18 => ?_) (fun c18 => ?_)
  · replace h := if_t c18 h
    refine g_iconst hE d_R_handler_26 ki_0 ?_
    cases h
    exact g_zret hE (Or.inl rfl) d_R_handler_27 rfl rfl
  · replace h := if_f c18 h
    refine g_iload_n (i := 2) hE d_R_handler_13 rfl rfl ?_
    refine g_iconst hE d_R_handler_14 ki_m1 ?_
    refine g_icmp_lt hE d_R_handler_15 (fun c17 => ?_) (fun c17 => ?_)
    · replace h := if_t c17 h
      refine g_iconst hE d_R_handler_26 ki_0 ?_
      cases h
      exact g_zret hE (Or.inl rfl) d_R_handler_27 rfl rfl
    · replace h := if_f c17 h
      refine g_iload_n (i := 2) hE d_R_handler_18 rfl rfl ?_
      refine g_aload_n (i := 0) hE d_R_handler_19 rfl rfl ?_
      refine g_getI 18 hE kc_R k1 (Nat.le_of_ble_eq_true rfl) rfl m_395 d_R_handler_20 (fun x5 e => ?_)
      replace h := lt_i e h; clear e
      refine g_icmp_lt hE d_R_handler_23 (fun c16 => ?_) (fun c16 => ?_)
      · replace h := if_t c16 h
        refine g_iload_n (i := 3) hE d_R_handler_28 rfl rfl ?_
        refine g_if_eq hE d_R_handler_29 (fun c15 => ?_) (fun c15 => ?_)
        · replace h := if_t c15 h
          exact gw.less (lv' := [some (va_rf (some o)), some (.int v1), some (.int v2), some (.int v3)]) (And.intro rfl (And.intro rfl (And.intro rfl (And.intro rfl trivial)))) (w_R_handler_J54 hE d2 v1 v2 v3 h)
        · replace h := if_f c15 h
          refine g_iload_n (i := 2) hE d_R_handler_32 rfl rfl ?_
          refine g_iconst hE d_R_handler_33 ki_m1 ?_
          refine g_icmp_eq hE d_R_handler_34 (fun c14 => ?_) (fun c14 => ?_)
          · replace h := if_t c14 h
            refine g_iconst hE d_R_handler_52 ki_0 ?_
            cases h
            exact g_zret hE (Or.inl rfl) d_R_handler_53 rfl rfl
          · replace h := if_f c14 h
            refine g_aload_n (i := 0) hE d_R_handler_37 rfl rfl ?_
            refine g_aload_n (i := 0) hE d_R_handler_38 rfl rfl ?_
            refine g_getR 19 hE kc_R k1 (Nat.le_of_ble_eq_true rfl) rfl m_396 d_R_handler_39 (fun x6 e => ?_)
            replace h := lt_i e h; clear e
            refine g_iload_n (i := 2) hE d_R_handler_42 rfl rfl ?_
            obtain ⟨a7, rfl, h⟩ := nn_s h
            obtain ⟨k8, h⟩ := kd_s h
            obtain ⟨g9, h⟩ := gi_s h
            refine g_iald hE k8 g9 d_R_handler_43 (fun x10 e => ?_)
            replace h := lt_i e h; clear e
            refine g_bipush hE d_R_handler_44 kb_8 ?_
            obtain ⟨x11, e12, h⟩ := bd_s h
            refine g_callV (av := [.inr (.inr (some o)), .inl x10, .inl 8]) (as := [.inl x10, .inl 8]) (stk := [.int x11]) [] hE (c_R_isBelow (xl X) (xG X) e12) ky_R_isBelow ⟨Nat.le_of_ble_eq_true rfl, Nat.le_of_ble_eq_true rfl⟩ rfl kc_R k1 m_447 m_448 m_449 rfl d_R_handler_46 rfl rfl ct_0 (Nat.zero_le _) (Nat.zero_le _) ?_
            refine gw.cs (c2 := 0) (s2 := 0) rfl rfl ?_
            refine g_if_ne hE d_R_handler_49 (fun c13 => ?_) (fun c13 => ?_)
            · replace h := if_f c13 h
              exact gw.less (lv' := [some (va_rf (some o)), some (.int v1), some (.int v2), some (.int v3)]) (And.intro rfl (And.intro rfl (And.intro rfl (And.intro rfl trivial)))) (w_R_handler_J54 hE d2 v1 v2 v3 h)
            · replace h := if_t c13 h
              refine g_iconst hE d_R_handler_52 ki_0 ?_
              cases h
              exact g_zret hE (Or.inl rfl) d_R_handler_53 rfl rfl
      · replace h := if_f c16 h
        refine g_iconst hE d_R_handler_26 ki_0 ?_
        cases h
        exact g_zret hE (Or.inl rfl) d_R_handler_27 rfl rfl
theorem d_R_takesAs_0 : dc b_R_takesAs 0 (.aload_n 0) 1 1 := ⟨by decide +kernel, rfl⟩
theorem d_R_takesAs_1 : dc b_R_takesAs 1 (.getfield 151) 3 4 := ⟨by decide +kernel, rfl⟩
theorem d_R_takesAs_4 : dc b_R_takesAs 4 (.iload_n 1) 1 5 := ⟨by decide +kernel, rfl⟩
theorem d_R_takesAs_5 : dc b_R_takesAs 5 (.iconst (-1)) 1 6 := ⟨by decide +kernel, rfl⟩
theorem d_R_takesAs_6 : dc b_R_takesAs 6 (.iastore) 1 7 := ⟨by decide +kernel, rfl⟩
theorem d_R_takesAs_7 : dc b_R_takesAs 7 (.aload_n 0) 1 8 := ⟨by decide +kernel, rfl⟩
theorem d_R_takesAs_8 : dc b_R_takesAs 8 (.getfield 154) 3 11 := ⟨by decide +kernel, rfl⟩
theorem d_R_takesAs_11 : dc b_R_takesAs 11 (.iload_n 1) 1 12 := ⟨by decide +kernel, rfl⟩
theorem d_R_takesAs_12 : dc b_R_takesAs 12 (.lconst 0) 1 13 := ⟨by decide +kernel, rfl⟩
theorem d_R_takesAs_13 : dc b_R_takesAs 13 (.lastore) 1 14 := ⟨by decide +kernel, rfl⟩
theorem d_R_takesAs_14 : dc b_R_takesAs 14 (.iload_n 2) 1 15 := ⟨by decide +kernel, rfl⟩
theorem d_R_takesAs_15 : dc b_R_takesAs 15 (.invokestatic 157) 3 18 := ⟨by decide +kernel, rfl⟩
theorem d_R_takesAs_18 : db b_R_takesAs 18 (.ifCond .eq 26) 26 44 21 := ⟨by decide +kernel, by decide, rfl⟩
theorem d_R_takesAs_21 : dc b_R_takesAs 21 (.aload_n 0) 1 22 := ⟨by decide +kernel, rfl⟩
theorem d_R_takesAs_22 : dc b_R_takesAs 22 (.getfield 151) 3 25 := ⟨by decide +kernel, rfl⟩
theorem d_R_takesAs_25 : dc b_R_takesAs 25 (.iload_n 1) 1 26 := ⟨by decide +kernel, rfl⟩
theorem d_R_takesAs_26 : dc b_R_takesAs 26 (.bipush 40) 2 28 := ⟨by decide +kernel, rfl⟩
theorem d_R_takesAs_28 : dc b_R_takesAs 28 (.iload_n 2) 1 29 := ⟨by decide +kernel, rfl⟩
theorem d_R_takesAs_29 : dc b_R_takesAs 29 (.iadd) 1 30 := ⟨by decide +kernel, rfl⟩
theorem d_R_takesAs_30 : dc b_R_takesAs 30 (.iastore) 1 31 := ⟨by decide +kernel, rfl⟩
theorem d_R_takesAs_31 : dc b_R_takesAs 31 (.aload_n 0) 1 32 := ⟨by decide +kernel, rfl⟩
theorem d_R_takesAs_32 : dc b_R_takesAs 32 (.getfield 154) 3 35 := ⟨by decide +kernel, rfl⟩
theorem d_R_takesAs_35 : dc b_R_takesAs 35 (.iload_n 1) 1 36 := ⟨by decide +kernel, rfl⟩
theorem d_R_takesAs_36 : dc b_R_takesAs 36 (.iload_n 2) 1 37 := ⟨by decide +kernel, rfl⟩
theorem d_R_takesAs_37 : dc b_R_takesAs 37 (.lload_n 3) 1 38 := ⟨by decide +kernel, rfl⟩
theorem d_R_takesAs_38 : dc b_R_takesAs 38 (.invokestatic 235) 3 41 := ⟨by decide +kernel, rfl⟩
theorem d_R_takesAs_41 : dc b_R_takesAs 41 (.lastore) 1 42 := ⟨by decide +kernel, rfl⟩
theorem d_R_takesAs_42 : dc b_R_takesAs 42 (.iconst 1) 1 43 := ⟨by decide +kernel, rfl⟩
theorem d_R_takesAs_43 : dc b_R_takesAs 43 (.ireturn) 1 44 := ⟨by decide +kernel, rfl⟩
theorem d_R_takesAs_44 : dc b_R_takesAs 44 (.lload_n 3) 1 45 := ⟨by decide +kernel, rfl⟩
theorem d_R_takesAs_45 : dc b_R_takesAs 45 (.ldc2_w 142) 3 48 := ⟨by decide +kernel, rfl⟩
theorem d_R_takesAs_48 : dc b_R_takesAs 48 (.lcmp) 1 49 := ⟨by decide +kernel, rfl⟩
theorem d_R_takesAs_49 : db b_R_takesAs 49 (.ifCond .ne 5) 5 54 52 := ⟨by decide +kernel, by decide, rfl⟩
theorem d_R_takesAs_52 : dc b_R_takesAs 52 (.iconst 1) 1 53 := ⟨by decide +kernel, rfl⟩
theorem d_R_takesAs_53 : dc b_R_takesAs 53 (.ireturn) 1 54 := ⟨by decide +kernel, rfl⟩
theorem d_R_takesAs_54 : dc b_R_takesAs 54 (.lload_n 3) 1 55 := ⟨by decide +kernel, rfl⟩
theorem d_R_takesAs_55 : dc b_R_takesAs 55 (.lconst 0) 1 56 := ⟨by decide +kernel, rfl⟩
theorem d_R_takesAs_56 : dc b_R_takesAs 56 (.lcmp) 1 57 := ⟨by decide +kernel, rfl⟩
theorem d_R_takesAs_57 : db b_R_takesAs 57 (.ifCond .lt 28) 28 85 60 := ⟨by decide +kernel, by decide, rfl⟩
theorem d_R_takesAs_60 : dc b_R_takesAs 60 (.lload_n 3) 1 61 := ⟨by decide +kernel, rfl⟩
theorem d_R_takesAs_61 : dc b_R_takesAs 61 (.aload_n 0) 1 62 := ⟨by decide +kernel, rfl⟩
theorem d_R_takesAs_62 : dc b_R_takesAs 62 (.getfield 66) 3 65 := ⟨by decide +kernel, rfl⟩
theorem d_R_takesAs_65 : dc b_R_takesAs 65 (.i2l) 1 66 := ⟨by decide +kernel, rfl⟩
theorem d_R_takesAs_66 : dc b_R_takesAs 66 (.lcmp) 1 67 := ⟨by decide +kernel, rfl⟩
theorem d_R_takesAs_67 : db b_R_takesAs 67 (.ifCond .ge 18) 18 85 70 := ⟨by decide +kernel, by decide, rfl⟩
theorem d_R_takesAs_70 : dc b_R_takesAs 70 (.aload_n 0) 1 71 := ⟨by decide +kernel, rfl⟩
theorem d_R_takesAs_71 : dc b_R_takesAs 71 (.aload_n 0) 1 72 := ⟨by decide +kernel, rfl⟩
theorem d_R_takesAs_72 : dc b_R_takesAs 72 (.getfield 69) 3 75 := ⟨by decide +kernel, rfl⟩
theorem d_R_takesAs_75 : dc b_R_takesAs 75 (.lload_n 3) 1 76 := ⟨by decide +kernel, rfl⟩
theorem d_R_takesAs_76 : dc b_R_takesAs 76 (.l2i) 1 77 := ⟨by decide +kernel, rfl⟩
theorem d_R_takesAs_77 : dc b_R_takesAs 77 (.iaload) 1 78 := ⟨by decide +kernel, rfl⟩
theorem d_R_takesAs_78 : dc b_R_takesAs 78 (.iload_n 2) 1 79 := ⟨by decide +kernel, rfl⟩
theorem d_R_takesAs_79 : dc b_R_takesAs 79 (.invokevirtual 184) 3 82 := ⟨by decide +kernel, rfl⟩
theorem d_R_takesAs_82 : db b_R_takesAs 82 (.ifCond .ne 5) 5 87 85 := ⟨by decide +kernel, by decide, rfl⟩
theorem d_R_takesAs_85 : dc b_R_takesAs 85 (.iconst 0) 1 86 := ⟨by decide +kernel, rfl⟩
theorem d_R_takesAs_86 : dc b_R_takesAs 86 (.ireturn) 1 87 := ⟨by decide +kernel, rfl⟩
theorem d_R_takesAs_87 : dc b_R_takesAs 87 (.aload_n 0) 1 88 := ⟨by decide +kernel, rfl⟩
theorem d_R_takesAs_88 : dc b_R_takesAs 88 (.getfield 151) 3 91 := ⟨by decide +kernel, rfl⟩
theorem d_R_takesAs_91 : dc b_R_takesAs 91 (.iload_n 1) 1 92 := ⟨by decide +kernel, rfl⟩
theorem d_R_takesAs_92 : dc b_R_takesAs 92 (.aload_n 0) 1 93 := ⟨by decide +kernel, rfl⟩
theorem d_R_takesAs_93 : dc b_R_takesAs 93 (.getfield 69) 3 96 := ⟨by decide +kernel, rfl⟩
theorem d_R_takesAs_96 : dc b_R_takesAs 96 (.lload_n 3) 1 97 := ⟨by decide +kernel, rfl⟩
theorem d_R_takesAs_97 : dc b_R_takesAs 97 (.l2i) 1 98 := ⟨by decide +kernel, rfl⟩
theorem d_R_takesAs_98 : dc b_R_takesAs 98 (.iaload) 1 99 := ⟨by decide +kernel, rfl⟩
theorem d_R_takesAs_99 : dc b_R_takesAs 99 (.iastore) 1 100 := ⟨by decide +kernel, rfl⟩
theorem d_R_takesAs_100 : dc b_R_takesAs 100 (.aload_n 0) 1 101 := ⟨by decide +kernel, rfl⟩
theorem d_R_takesAs_101 : dc b_R_takesAs 101 (.getfield 154) 3 104 := ⟨by decide +kernel, rfl⟩
theorem d_R_takesAs_104 : dc b_R_takesAs 104 (.iload_n 1) 1 105 := ⟨by decide +kernel, rfl⟩
theorem d_R_takesAs_105 : dc b_R_takesAs 105 (.aload_n 0) 1 106 := ⟨by decide +kernel, rfl⟩
theorem d_R_takesAs_106 : dc b_R_takesAs 106 (.getfield 72) 3 109 := ⟨by decide +kernel, rfl⟩
theorem d_R_takesAs_109 : dc b_R_takesAs 109 (.lload_n 3) 1 110 := ⟨by decide +kernel, rfl⟩
theorem d_R_takesAs_110 : dc b_R_takesAs 110 (.l2i) 1 111 := ⟨by decide +kernel, rfl⟩
theorem d_R_takesAs_111 : dc b_R_takesAs 111 (.laload) 1 112 := ⟨by decide +kernel, rfl⟩
theorem d_R_takesAs_112 : dc b_R_takesAs 112 (.lastore) 1 113 := ⟨by decide +kernel, rfl⟩
theorem d_R_takesAs_113 : dc b_R_takesAs 113 (.iconst 1) 1 114 := ⟨by decide +kernel, rfl⟩
theorem d_R_takesAs_114 : dc b_R_takesAs 114 (.ireturn) 1 115 := ⟨by decide +kernel, rfl⟩
set_option maxRecDepth 100000 in
def f_R_takesAs (S : gS) (d : gD) (o : Nat) (v1 : Int32) (v2 : Int32) (v3 : Int64) : Option (Int32 × gD) :=
  kd S o 10 <|
  lt_ (sP S o 45) fun x2 =>
  nn x2 fun a3 =>
  kd S a3 50 <|
  gi v1 (sN S a3) <|
  lt_ (wI d a3 v1.toNatClampNeg (-1)) fun d6 =>
  lt_ (sP S o 46) fun x7 =>
  nn x7 fun a8 =>
  kd S a8 51 <|
  gi v1 (sN S a8) <|
  lt_ (wL d6 a8 v1.toNatClampNeg 0) fun d11 =>
  bd (f_R_isPlain S d11 v2) fun x12 =>
  if x12 = 0 then (
    if (lg_cmp v3 (-1)) = 0 then (
      some (1, d11))
    else (
      if (lg_cmp v3 0) < 0 then (
        some (0, d11))
      else (
        lt_ (dI d11 o 18) fun x14 =>
        if 0 ≤ (lg_cmp v3 (Int32.toInt64 x14)) then (
          some (0, d11))
        else (
          lt_ (sP S o 19) fun x15 =>
          nn x15 fun a16 =>
          kd S a16 50 <|
          gi (Int64.toInt32 v3) (sN S a16) <|
          lt_ (dI d11 a16 (Int64.toInt32 v3 : Int32).toNatClampNeg) fun x19 =>
          bd (f_R_isBelow S d11 o x19 v2) fun x20 =>
          if x20 = 0 then (
            some (0, d11))
          else (
            lt_ (sP S o 45) fun x22 =>
            lt_ (sP S o 19) fun x23 =>
            nn x23 fun a24 =>
            kd S a24 50 <|
            gi (Int64.toInt32 v3) (sN S a24) <|
            lt_ (dI d11 a24 (Int64.toInt32 v3 : Int32).toNatClampNeg) fun x27 =>
            nn x22 fun a28 =>
            kd S a28 50 <|
            gi v1 (sN S a28) <|
            lt_ (wI d11 a28 v1.toNatClampNeg x27) fun d31 =>
            lt_ (sP S o 46) fun x32 =>
            lt_ (sP S o 20) fun x33 =>
            nn x33 fun a34 =>
            kd S a34 51 <|
            gi (Int64.toInt32 v3) (sN S a34) <|
            lt_ (dL d31 a34 (Int64.toInt32 v3 : Int32).toNatClampNeg) fun x37 =>
            nn x32 fun a38 =>
            kd S a38 51 <|
            gi v1 (sN S a38) <|
            lt_ (wL d31 a38 v1.toNatClampNeg x37) fun d41 =>
            some (1, d41))))))
  else (
    lt_ (sP S o 45) fun x46 =>
    nn x46 fun a47 =>
    kd S a47 50 <|
    gi v1 (sN S a47) <|
    lt_ (wI d11 a47 v1.toNatClampNeg (40 + v2)) fun d50 =>
    lt_ (sP S o 46) fun x51 =>
    bd (f_R_fitted S d50 v2 v3) fun x52 =>
    nn x51 fun a54 =>
    kd S a54 51 <|
    gi v1 (sN S a54) <|
    lt_ (wL d50 a54 v1.toNatClampNeg x52) fun d57 =>
    some (1, d57))
set_option maxRecDepth 100000 in
set_option maxHeartbeats 4000000 in
theorem c_R_takesAs (l : Launch) (G : gG) {S : gS} {d : gD} {o : Nat} {v1 : Int32} {v2 : Int32} {v3 : Int64} {r : Int32} {d' : gD} (h : f_R_takesAs S d o v1 v2 v3 = some (r, d')) : GM l G y_R_takesAs b_R_takesAs 5 (some (.boolean)) 3 67 0 0 [.inr (.inr (some o)), .inl v1, .inl v2, .inr (.inl v3)] S d (some (.int r)) S d' := by
  refine GM.of (by decide) (Nat.le_of_ble_eq_true rfl) ?_
  intro X hl0 hG0 hR0 hE0
  have hE : gE X b_R_takesAs 5 "StandInMillModel" (some (.boolean)) "takesAs" 3 67 := hE0
  unfold f_R_takesAs at h
  refine gw.less (lv' := [some (va_rf (some o)), some (.int v1), some (.int v2), some (.long v3), none]) (And.intro rfl (And.intro rfl (And.intro rfl (And.intro rfl trivial)))) ?_
  refine g_aload_n (i := 0) hE d_R_takesAs_0 rfl rfl ?_
  obtain ⟨k1, h⟩ := kd_s h
  refine g_getR 45 hE kc_R k1 (Nat.le_of_ble_eq_true rfl) rfl m_423 d_R_takesAs_1 (fun x2 e => ?_)
  replace h := lt_i e h; clear e
  refine g_iload_n (i := 1) hE d_R_takesAs_4 rfl rfl ?_
  refine g_iconst hE d_R_takesAs_5 ki_m1 ?_
  obtain ⟨a3, rfl, h⟩ := nn_s h
  obtain ⟨k4, h⟩ := kd_s h
  obtain ⟨g5, h⟩ := gi_s h
  refine g_iast hE k4 g5 d_R_takesAs_6 (fun d6 e => ?_)
  replace h := lt_i e h; clear e
  refine g_aload_n (i := 0) hE d_R_takesAs_7 rfl rfl ?_
  refine g_getR 46 hE kc_R k1 (Nat.le_of_ble_eq_true rfl) rfl m_424 d_R_takesAs_8 (fun x7 e => ?_)
  replace h := lt_i e h; clear e
  refine g_iload_n (i := 1) hE d_R_takesAs_11 rfl rfl ?_
  refine g_lconst (v := 0) hE d_R_takesAs_12 rfl ?_
  obtain ⟨a8, rfl, h⟩ := nn_s h
  obtain ⟨k9, h⟩ := kd_s h
  obtain ⟨g10, h⟩ := gi_s h
  refine g_last hE k9 g10 d_R_takesAs_13 (fun d11 e => ?_)
  replace h := lt_i e h; clear e
  refine g_iload_n (i := 2) hE d_R_takesAs_14 rfl rfl ?_
  obtain ⟨x12, e13, h⟩ := bd_s h
  refine g_callS (av := [.inl v2]) (stk := [.int x12]) [] hE (c_R_isPlain (xl X) (xG X) e13) ky_R_isPlain ⟨Nat.le_of_ble_eq_true rfl, Nat.le_of_ble_eq_true rfl⟩ m_425 m_426 rfl d_R_takesAs_15 rfl rfl ct_0 (Nat.zero_le _) (Nat.zero_le _) ?_
  refine gw.cs (c2 := 0) (s2 := 0) rfl rfl ?_
  refine g_if_eq hE d_R_takesAs_18 (fun c58 => ?_) (fun c58 => ?_)
  · replace h := if_t c58 h
    refine g_lload_n (i := 3) hE d_R_takesAs_44 rfl rfl ?_
    refine g_ldc2 hE d_R_takesAs_45 m_420 ?_
    refine g_lcmp hE d_R_takesAs_48 ?_
    refine g_if_ne hE d_R_takesAs_49 (fun c45 => ?_) (fun c45 => ?_)
    · replace h := if_f c45 h
      refine g_lload_n (i := 3) hE d_R_takesAs_54 rfl rfl ?_
      refine g_lconst (v := 0) hE d_R_takesAs_55 rfl ?_
      refine g_lcmp hE d_R_takesAs_56 ?_
      refine g_if_lt hE d_R_takesAs_57 (fun c44 => ?_) (fun c44 => ?_)
      · replace h := if_t c44 h
        refine g_iconst hE d_R_takesAs_85 ki_0 ?_
        cases h
        exact g_zret hE (Or.inl rfl) d_R_takesAs_86 rfl rfl
      · replace h := if_f c44 h
        refine g_lload_n (i := 3) hE d_R_takesAs_60 rfl rfl ?_
        refine g_aload_n (i := 0) hE d_R_takesAs_61 rfl rfl ?_
        refine g_getI 18 hE kc_R k1 (Nat.le_of_ble_eq_true rfl) rfl m_395 d_R_takesAs_62 (fun x14 e => ?_)
        replace h := lt_i e h; clear e
        refine g_i2l hE d_R_takesAs_65 ?_
        refine g_lcmp hE d_R_takesAs_66 ?_
        refine g_if_ge hE d_R_takesAs_67 (fun c43 => ?_) (fun c43 => ?_)
        · replace h := if_t c43 h
          refine g_iconst hE d_R_takesAs_85 ki_0 ?_
          cases h
          exact g_zret hE (Or.inl rfl) d_R_takesAs_86 rfl rfl
        · replace h := if_f c43 h
          refine g_aload_n (i := 0) hE d_R_takesAs_70 rfl rfl ?_
          refine g_aload_n (i := 0) hE d_R_takesAs_71 rfl rfl ?_
          refine g_getR 19 hE kc_R k1 (Nat.le_of_ble_eq_true rfl) rfl m_396 d_R_takesAs_72 (fun x15 e => ?_)
          replace h := lt_i e h; clear e
          refine g_lload_n (i := 3) hE d_R_takesAs_75 rfl rfl ?_
          refine g_l2i hE d_R_takesAs_76 ?_
          obtain ⟨a16, rfl, h⟩ := nn_s h
          obtain ⟨k17, h⟩ := kd_s h
          obtain ⟨g18, h⟩ := gi_s h
          refine g_iald hE k17 g18 d_R_takesAs_77 (fun x19 e => ?_)
          replace h := lt_i e h; clear e
          refine g_iload_n (i := 2) hE d_R_takesAs_78 rfl rfl ?_
          obtain ⟨x20, e21, h⟩ := bd_s h
          refine g_callV (av := [.inr (.inr (some o)), .inl x19, .inl v2]) (as := [.inl x19, .inl v2]) (stk := [.int x20]) [] hE (c_R_isBelow (xl X) (xG X) e21) ky_R_isBelow ⟨Nat.le_of_ble_eq_true rfl, Nat.le_of_ble_eq_true rfl⟩ rfl kc_R k1 m_447 m_448 m_449 rfl d_R_takesAs_79 rfl rfl ct_0 (Nat.zero_le _) (Nat.zero_le _) ?_
          refine gw.cs (c2 := 0) (s2 := 0) rfl rfl ?_
          refine g_if_ne hE d_R_takesAs_82 (fun c42 => ?_) (fun c42 => ?_)
          · replace h := if_f c42 h
            refine g_aload_n (i := 0) hE d_R_takesAs_87 rfl rfl ?_
            refine g_getR 45 hE kc_R k1 (Nat.le_of_ble_eq_true rfl) rfl m_423 d_R_takesAs_88 (fun x22 e => ?_)
            replace h := lt_i e h; clear e
            refine g_iload_n (i := 1) hE d_R_takesAs_91 rfl rfl ?_
            refine g_aload_n (i := 0) hE d_R_takesAs_92 rfl rfl ?_
            refine g_getR 19 hE kc_R k1 (Nat.le_of_ble_eq_true rfl) rfl m_396 d_R_takesAs_93 (fun x23 e => ?_)
            replace h := lt_i e h; clear e
            refine g_lload_n (i := 3) hE d_R_takesAs_96 rfl rfl ?_
            refine g_l2i hE d_R_takesAs_97 ?_
            obtain ⟨a24, rfl, h⟩ := nn_s h
            obtain ⟨k25, h⟩ := kd_s h
            obtain ⟨g26, h⟩ := gi_s h
            refine g_iald hE k25 g26 d_R_takesAs_98 (fun x27 e => ?_)
            replace h := lt_i e h; clear e
            obtain ⟨a28, rfl, h⟩ := nn_s h
            obtain ⟨k29, h⟩ := kd_s h
            obtain ⟨g30, h⟩ := gi_s h
            refine g_iast hE k29 g30 d_R_takesAs_99 (fun d31 e => ?_)
            replace h := lt_i e h; clear e
            refine g_aload_n (i := 0) hE d_R_takesAs_100 rfl rfl ?_
            refine g_getR 46 hE kc_R k1 (Nat.le_of_ble_eq_true rfl) rfl m_424 d_R_takesAs_101 (fun x32 e => ?_)
            replace h := lt_i e h; clear e
            refine g_iload_n (i := 1) hE d_R_takesAs_104 rfl rfl ?_
            refine g_aload_n (i := 0) hE d_R_takesAs_105 rfl rfl ?_
            refine g_getR 20 hE kc_R k1 (Nat.le_of_ble_eq_true rfl) rfl m_397 d_R_takesAs_106 (fun x33 e => ?_)
            replace h := lt_i e h; clear e
            refine g_lload_n (i := 3) hE d_R_takesAs_109 rfl rfl ?_
            refine g_l2i hE d_R_takesAs_110 ?_
            obtain ⟨a34, rfl, h⟩ := nn_s h
            obtain ⟨k35, h⟩ := kd_s h
            obtain ⟨g36, h⟩ := gi_s h
            refine g_lald hE k35 g36 d_R_takesAs_111 (fun x37 e => ?_)
            replace h := lt_i e h; clear e
            obtain ⟨a38, rfl, h⟩ := nn_s h
            obtain ⟨k39, h⟩ := kd_s h
            obtain ⟨g40, h⟩ := gi_s h
            refine g_last hE k39 g40 d_R_takesAs_112 (fun d41 e => ?_)
            replace h := lt_i e h; clear e
            refine g_iconst hE d_R_takesAs_113 ki_1 ?_
            cases h
            exact g_zret hE (Or.inr rfl) d_R_takesAs_114 rfl rfl
          · replace h := if_t c42 h
            refine g_iconst hE d_R_takesAs_85 ki_0 ?_
            cases h
            exact g_zret hE (Or.inl rfl) d_R_takesAs_86 rfl rfl
    · replace h := if_t c45 h
      refine g_iconst hE d_R_takesAs_52 ki_1 ?_
      cases h
      exact g_zret hE (Or.inr rfl) d_R_takesAs_53 rfl rfl
  · replace h := if_f c58 h
    refine g_aload_n (i := 0) hE d_R_takesAs_21 rfl rfl ?_
    refine g_getR 45 hE kc_R k1 (Nat.le_of_ble_eq_true rfl) rfl m_423 d_R_takesAs_22 (fun x46 e => ?_)
    replace h := lt_i e h; clear e
    refine g_iload_n (i := 1) hE d_R_takesAs_25 rfl rfl ?_
    refine g_bipush hE d_R_takesAs_26 kb_40 ?_
    refine g_iload_n (i := 2) hE d_R_takesAs_28 rfl rfl ?_
    refine g_iadd hE d_R_takesAs_29 ?_
    obtain ⟨a47, rfl, h⟩ := nn_s h
    obtain ⟨k48, h⟩ := kd_s h
    obtain ⟨g49, h⟩ := gi_s h
    refine g_iast hE k48 g49 d_R_takesAs_30 (fun d50 e => ?_)
    replace h := lt_i e h; clear e
    refine g_aload_n (i := 0) hE d_R_takesAs_31 rfl rfl ?_
    refine g_getR 46 hE kc_R k1 (Nat.le_of_ble_eq_true rfl) rfl m_424 d_R_takesAs_32 (fun x51 e => ?_)
    replace h := lt_i e h; clear e
    refine g_iload_n (i := 1) hE d_R_takesAs_35 rfl rfl ?_
    refine g_iload_n (i := 2) hE d_R_takesAs_36 rfl rfl ?_
    refine g_lload_n (i := 3) hE d_R_takesAs_37 rfl rfl ?_
    obtain ⟨x52, e53, h⟩ := bd_s h
    refine g_callS (av := [.inl v2, .inr (.inl v3)]) (stk := [.long x52, .int v1, va_rf x51]) [.int v1, va_rf x51] hE (c_R_fitted (xl X) (xG X) e53) ky_R_fitted ⟨Nat.le_of_ble_eq_true rfl, Nat.le_of_ble_eq_true rfl⟩ m_493 m_494 rfl d_R_takesAs_38 rfl rfl (Nat.le_trans (ct_i (ct_r ct_n)) (Nat.le_of_ble_eq_true rfl)) (Nat.zero_le _) (Nat.zero_le _) ?_
    refine gw.cs (c2 := 0) (s2 := 0) rfl rfl ?_
    obtain ⟨a54, rfl, h⟩ := nn_s h
    obtain ⟨k55, h⟩ := kd_s h
    obtain ⟨g56, h⟩ := gi_s h
    refine g_last hE k55 g56 d_R_takesAs_41 (fun d57 e => ?_)
    replace h := lt_i e h; clear e
    refine g_iconst hE d_R_takesAs_42 ki_1 ?_
    cases h
    exact g_zret hE (Or.inr rfl) d_R_takesAs_43 rfl rfl
