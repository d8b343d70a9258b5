theorem d_R_about_0 : dc b_R_about 0 (.aload_n 0) 1 1 := ⟨by decide +kernel, rfl⟩
theorem d_R_about_1 : dc b_R_about 1 (.iconst 0) 1 2 := ⟨by decide +kernel, rfl⟩
theorem d_R_about_2 : dc b_R_about 2 (.putfield 7) 3 5 := ⟨by decide +kernel, rfl⟩
theorem d_R_about_5 : dc b_R_about 5 (.aload_n 0) 1 6 := ⟨by decide +kernel, rfl⟩
theorem d_R_about_6 : dc b_R_about 6 (.iload_n 1) 1 7 := ⟨by decide +kernel, rfl⟩
theorem d_R_about_7 : dc b_R_about 7 (.invokevirtual 246) 3 10 := ⟨by decide +kernel, rfl⟩
theorem d_R_about_10 : db b_R_about 10 (.ifCond .ne 5) 5 15 13 := ⟨by decide +kernel, by decide, rfl⟩
theorem d_R_about_13 : dc b_R_about 13 (.iconst (-1)) 1 14 := ⟨by decide +kernel, rfl⟩
theorem d_R_about_14 : dc b_R_about 14 (.ireturn) 1 15 := ⟨by decide +kernel, rfl⟩
theorem d_R_about_15 : dc b_R_about 15 (.iload_n 2) 1 16 := ⟨by decide +kernel, rfl⟩
theorem d_R_about_16 : db b_R_about 16 (.ifCond .ne 10) 10 26 19 := ⟨by decide +kernel, by decide, rfl⟩
theorem d_R_about_19 : dc b_R_about 19 (.aload_n 0) 1 20 := ⟨by decide +kernel, rfl⟩
theorem d_R_about_20 : dc b_R_about 20 (.getfield 85) 3 23 := ⟨by decide +kernel, rfl⟩
theorem d_R_about_23 : dc b_R_about 23 (.iload_n 1) 1 24 := ⟨by decide +kernel, rfl⟩
theorem d_R_about_24 : dc b_R_about 24 (.iaload) 1 25 := ⟨by decide +kernel, rfl⟩
theorem d_R_about_25 : dc b_R_about 25 (.ireturn) 1 26 := ⟨by decide +kernel, rfl⟩
theorem d_R_about_26 : dc b_R_about 26 (.iload_n 2) 1 27 := ⟨by decide +kernel, rfl⟩
theorem d_R_about_27 : dc b_R_about 27 (.iconst 1) 1 28 := ⟨by decide +kernel, rfl⟩
theorem d_R_about_28 : db b_R_about 28 (.if_icmp .ne 10) 10 38 31 := ⟨by decide +kernel, by decide, rfl⟩
theorem d_R_about_31 : dc b_R_about 31 (.aload_n 0) 1 32 := ⟨by decide +kernel, rfl⟩
theorem d_R_about_32 : dc b_R_about 32 (.getfield 88) 3 35 := ⟨by decide +kernel, rfl⟩
theorem d_R_about_35 : dc b_R_about 35 (.iload_n 1) 1 36 := ⟨by decide +kernel, rfl⟩
theorem d_R_about_36 : dc b_R_about 36 (.iaload) 1 37 := ⟨by decide +kernel, rfl⟩
theorem d_R_about_37 : dc b_R_about 37 (.ireturn) 1 38 := ⟨by decide +kernel, rfl⟩
theorem d_R_about_38 : dc b_R_about 38 (.iload_n 2) 1 39 := ⟨by decide +kernel, rfl⟩
theorem d_R_about_39 : dc b_R_about 39 (.iconst 4) 1 40 := ⟨by decide +kernel, rfl⟩
theorem d_R_about_40 : db b_R_about 40 (.if_icmp .ne 10) 10 50 43 := ⟨by decide +kernel, by decide, rfl⟩
theorem d_R_about_43 : dc b_R_about 43 (.aload_n 0) 1 44 := ⟨by decide +kernel, rfl⟩
theorem d_R_about_44 : dc b_R_about 44 (.getfield 79) 3 47 := ⟨by decide +kernel, rfl⟩
theorem d_R_about_47 : dc b_R_about 47 (.iload_n 1) 1 48 := ⟨by decide +kernel, rfl⟩
theorem d_R_about_48 : dc b_R_about 48 (.iaload) 1 49 := ⟨by decide +kernel, rfl⟩
theorem d_R_about_49 : dc b_R_about 49 (.ireturn) 1 50 := ⟨by decide +kernel, rfl⟩
theorem d_R_about_50 : dc b_R_about 50 (.iload_n 2) 1 51 := ⟨by decide +kernel, rfl⟩
theorem d_R_about_51 : dc b_R_about 51 (.iconst 2) 1 52 := ⟨by decide +kernel, rfl⟩
theorem d_R_about_52 : db b_R_about 52 (.if_icmp .eq 10) 10 62 55 := ⟨by decide +kernel, by decide, rfl⟩
theorem d_R_about_55 : dc b_R_about 55 (.iload_n 2) 1 56 := ⟨by decide +kernel, rfl⟩
theorem d_R_about_56 : dc b_R_about 56 (.iconst 3) 1 57 := ⟨by decide +kernel, rfl⟩
theorem d_R_about_57 : db b_R_about 57 (.if_icmp .eq 5) 5 62 60 := ⟨by decide +kernel, by decide, rfl⟩
theorem d_R_about_60 : dc b_R_about 60 (.iconst (-1)) 1 61 := ⟨by decide +kernel, rfl⟩
theorem d_R_about_61 : dc b_R_about 61 (.ireturn) 1 62 := ⟨by decide +kernel, rfl⟩
theorem d_R_about_62 : dc b_R_about 62 (.aload_n 0) 1 63 := ⟨by decide +kernel, rfl⟩
theorem d_R_about_63 : dc b_R_about 63 (.iload_n 1) 1 64 := ⟨by decide +kernel, rfl⟩
theorem d_R_about_64 : dc b_R_about 64 (.invokevirtual 249) 3 67 := ⟨by decide +kernel, rfl⟩
theorem d_R_about_67 : dc b_R_about 67 (.iload_n 2) 1 68 := ⟨by decide +kernel, rfl⟩
theorem d_R_about_68 : dc b_R_about 68 (.iconst 2) 1 69 := ⟨by decide +kernel, rfl⟩
theorem d_R_about_69 : db b_R_about 69 (.if_icmp .ne 10) 10 79 72 := ⟨by decide +kernel, by decide, rfl⟩
theorem d_R_about_72 : dc b_R_about 72 (.aload_n 0) 1 73 := ⟨by decide +kernel, rfl⟩
theorem d_R_about_73 : dc b_R_about 73 (.getfield 106) 3 76 := ⟨by decide +kernel, rfl⟩
theorem d_R_about_76 : db b_R_about 76 (.goto 14) 14 90 79 := ⟨by decide +kernel, by decide, rfl⟩
theorem d_R_about_79 : dc b_R_about 79 (.iconst 3) 1 80 := ⟨by decide +kernel, rfl⟩
theorem d_R_about_80 : dc b_R_about 80 (.aload_n 0) 1 81 := ⟨by decide +kernel, rfl⟩
theorem d_R_about_81 : dc b_R_about 81 (.invokevirtual 252) 3 84 := ⟨by decide +kernel, rfl⟩
theorem d_R_about_84 : dc b_R_about 84 (.iadd) 1 85 := ⟨by decide +kernel, rfl⟩
theorem d_R_about_85 : dc b_R_about 85 (.aload_n 0) 1 86 := ⟨by decide +kernel, rfl⟩
theorem d_R_about_86 : dc b_R_about 86 (.getfield 133) 3 89 := ⟨by decide +kernel, rfl⟩
theorem d_R_about_89 : dc b_R_about 89 (.iadd) 1 90 := ⟨by decide +kernel, rfl⟩
theorem d_R_about_90 : dc b_R_about 90 (.ireturn) 1 91 := ⟨by decide +kernel, rfl⟩
def f_R_about_J62 (S : gS) (o : Nat) (d : gD) (v1 : Int32) (v2 : Int32) : Option (Int32 × gD) :=
  kd S o 10 <|
  bdD (f_R_unit S d o v1) fun _ d4 =>
  if v2 = 2 then (
    lt_ (dI d4 o 31) fun x8 =>
    some (x8, d4))
  else (
    bd (f_R_poolBytes S d4 o) fun x5 =>
    lt_ (dI d4 o 40) fun x7 =>
    some ((3 + x5) + x7, d4))
set_option maxRecDepth 100000 in
set_option maxHeartbeats 4000000 in
theorem w_R_about_J62 {X : GX} (hE : gE X b_R_about 3 "StandInMillModel" (some (.int)) "about" 7 169) {S : gS} {o : Nat} {r : Int32} {d' : gD} :
    ∀ (d : gD) (v1 : Int32) (v2 : Int32), f_R_about_J62 S o d v1 v2 = some (r, d') → gw X 0 0 (gQ X (some (.int r)) S d' 0 0) S d 62 [some (va_rf (some o)), some (.int v1), some (.int v2)] [] := by
  intro d v1 v2 h
  unfold f_R_about_J62 at h
  refine g_aload_n (i := 0) hE d_R_about_62 rfl rfl ?_
  refine g_iload_n (i := 1) hE d_R_about_63 rfl rfl ?_
  obtain ⟨k1, h⟩ := kd_s h
  obtain ⟨x2, d4, e3, h⟩ := bdD_s h
  refine g_callV (av := [.inr (.inr (some o)), .inl v1]) (as := [.inl v1]) (stk := []) [] hE (c_R_unit (xl X) (xG X) e3) ky_R_unit ⟨Nat.le_of_ble_eq_true rfl, Nat.le_of_ble_eq_true rfl⟩ rfl kc_R k1 m_504 m_505 m_506 rfl d_R_about_64 rfl rfl ct_0 (Nat.zero_le _) (Nat.zero_le _) ?_
  refine gw.cs (c2 := 0) (s2 := 0) rfl rfl ?_
  refine g_iload_n (i := 2) hE d_R_about_67 rfl rfl ?_
  refine g_iconst hE d_R_about_68 ki_2 ?_
  refine g_icmp_ne hE d_R_about_69 (fun c9 => ?_) (fun c9 => ?_)
  · replace h := if_f c9 h
    refine g_iconst hE d_R_about_79 ki_3 ?_
    refine g_aload_n (i := 0) hE d_R_about_80 rfl rfl ?_
    obtain ⟨x5, e6, h⟩ := bd_s h
    refine g_callV (av := [.inr (.inr (some o))]) (as := []) (stk := [.int x5, .int 3]) [.int 3] hE (c_R_poolBytes (xl X) (xG X) e6) ky_R_poolBytes ⟨Nat.le_of_ble_eq_true rfl, Nat.le_of_ble_eq_true rfl⟩ rfl kc_R k1 m_507 m_508 m_509 rfl d_R_about_81 rfl rfl (Nat.le_trans (ct_i ct_n) (Nat.le_of_ble_eq_true rfl)) (Nat.zero_le _) (Nat.zero_le _) ?_
    refine gw.cs (c2 := 0) (s2 := 0) rfl rfl ?_
    refine g_iadd hE d_R_about_84 ?_
    refine g_aload_n (i := 0) hE d_R_about_85 rfl rfl ?_
    refine g_getI 40 hE kc_R k1 (Nat.le_of_ble_eq_true rfl) rfl m_417 d_R_about_86 (fun x7 e => ?_)
    replace h := lt_i e h; clear e
    refine g_iadd hE d_R_about_89 ?_
    cases h
    exact g_iret hE d_R_about_90 rfl rfl
  · replace h := if_t c9 h
    refine g_aload_n (i := 0) hE d_R_about_72 rfl rfl ?_
    refine g_getI 31 hE kc_R k1 (Nat.le_of_ble_eq_true rfl) rfl m_408 d_R_about_73 (fun x8 e => ?_)
    replace h := lt_i e h; clear e
    refine g_goto hE d_R_about_76 ?_
    cases h
    exact g_iret hE d_R_about_90 rfl rfl
set_option maxRecDepth 100000 in
def f_R_about (S : gS) (d : gD) (o : Nat) (v1 : Int32) (v2 : Int32) : Option (Int32 × gD) :=
  kd S o 10 <|
  lt_ (wI d o 0 0) fun d2 =>
  bd (f_R_isStand S d2 o v1) fun x3 =>
  if x3 = 0 then (
    some ((-1), d2))
  else (
    if v2 = 0 then (
      lt_ (sP S o 24) fun x19 =>
      nn x19 fun a20 =>
      kd S a20 50 <|
      gi v1 (sN S a20) <|
      lt_ (dI d2 a20 v1.toNatClampNeg) fun x23 =>
      some (x23, d2))
    else (
      if v2 = 1 then (
        lt_ (sP S o 25) fun x13 =>
        nn x13 fun a14 =>
        kd S a14 50 <|
        gi v1 (sN S a14) <|
        lt_ (dI d2 a14 v1.toNatClampNeg) fun x17 =>
        some (x17, d2))
      else (
        if v2 = 4 then (
          lt_ (sP S o 22) fun x7 =>
          nn x7 fun a8 =>
          kd S a8 50 <|
          gi v1 (sN S a8) <|
          lt_ (dI d2 a8 v1.toNatClampNeg) fun x11 =>
          some (x11, d2))
        else (
          if v2 = 2 then (
            f_R_about_J62 S o d2 v1 v2)
          else (
            if v2 = 3 then (
              f_R_about_J62 S o d2 v1 v2)
            else (
              some ((-1), d2)))))))
set_option maxRecDepth 100000 in
set_option maxHeartbeats 4000000 in
theorem c_R_about (l : Launch) (G : gG) {S : gS} {d : gD} {o : Nat} {v1 : Int32} {v2 : Int32} {r : Int32} {d' : gD} (h : f_R_about S d o v1 v2 = some (r, d')) : GM l G y_R_about b_R_about 3 (some (.int)) 7 169 0 0 [.inr (.inr (some o)), .inl v1, .inl v2] S d (some (.int r)) S d' := by
  refine GM.of (by decide) (Nat.le_of_ble_eq_true rfl) ?_
  intro X hl0 hG0 hR0 hE0
  have hE : gE X b_R_about 3 "StandInMillModel" (some (.int)) "about" 7 169 := hE0
  unfold f_R_about at h
  refine gw.less (lv' := [some (va_rf (some o)), some (.int v1), some (.int v2)]) (And.intro rfl (And.intro rfl (And.intro rfl trivial))) ?_
  refine g_aload_n (i := 0) hE d_R_about_0 rfl rfl ?_
  refine g_iconst hE d_R_about_1 ki_0 ?_
  obtain ⟨k1, h⟩ := kd_s h
  refine g_putI 0 hE kc_R k1 (Nat.le_of_ble_eq_true rfl) rfl m_376 rfl (by decide +kernel) d_R_about_2 (fun d2 e => ?_)
  replace h := lt_i e h; clear e
  refine g_aload_n (i := 0) hE d_R_about_5 rfl rfl ?_
  refine g_iload_n (i := 1) hE d_R_about_6 rfl rfl ?_
  obtain ⟨x3, e4, h⟩ := bd_s h
  refine g_callV (av := [.inr (.inr (some o)), .inl v1]) (as := [.inl v1]) (stk := [.int x3]) [] hE (c_R_isStand (xl X) (xG X) e4) ky_R_isStand ⟨Nat.le_of_ble_eq_true rfl, Nat.le_of_ble_eq_true rfl⟩ rfl kc_R k1 m_501 m_502 m_503 rfl d_R_about_7 rfl rfl ct_0 (Nat.zero_le _) (Nat.zero_le _) ?_
  refine gw.cs (c2 := 0) (s2 := 0) rfl rfl ?_
  refine g_if_ne hE d_R_about_10 (fun c25 => ?_) (fun c25 => ?_)
  · replace h := if_f c25 h
    refine g_iload_n (i := 2) hE d_R_about_15 rfl rfl ?_
    refine g_if_ne hE d_R_about_16 (fun c24 => ?_) (fun c24 => ?_)
    · replace h := if_f c24 h
      refine g_iload_n (i := 2) hE d_R_about_26 rfl rfl ?_
      refine g_iconst hE d_R_about_27 ki_1 ?_
      refine g_icmp_ne hE d_R_about_28 (fun c18 => ?_) (fun c18 => ?_)
      · replace h := if_f c18 h
        refine g_iload_n (i := 2) hE d_R_about_38 rfl rfl ?_
        refine g_iconst hE d_R_about_39 ki_4 ?_
        refine g_icmp_ne hE d_R_about_40 (fun c12 => ?_) (fun c12 => ?_)
        · replace h := if_f c12 h
          refine g_iload_n (i := 2) hE d_R_about_50 rfl rfl ?_
          refine g_iconst hE d_R_about_51 ki_2 ?_
          refine g_icmp_eq hE d_R_about_52 (fun c6 => ?_) (fun c6 => ?_)
          · replace h := if_t c6 h
            exact gw.less (lv' := [some (va_rf (some o)), some (.int v1), some (.int v2)]) (And.intro rfl (And.intro rfl (And.intro rfl trivial))) (w_R_about_J62 hE d2 v1 v2 h)
          · replace h := if_f c6 h
            refine g_iload_n (i := 2) hE d_R_about_55 rfl rfl ?_
            refine g_iconst hE d_R_about_56 ki_3 ?_
            refine g_icmp_eq hE d_R_about_57 (fun c5 => ?_) (fun c5 => ?_)
            · replace h := if_t c5 h
              exact gw.less (lv' := [some (va_rf (some o)), some (.int v1), some (.int v2)]) (And.intro rfl (And.intro rfl (And.intro rfl trivial))) (w_R_about_J62 hE d2 v1 v2 h)
            · replace h := if_f c5 h
              refine g_iconst hE d_R_about_60 ki_m1 ?_
              cases h
              exact g_iret hE d_R_about_61 rfl rfl
        · replace h := if_t c12 h
          refine g_aload_n (i := 0) hE d_R_about_43 rfl rfl ?_
          refine g_getR 22 hE kc_R k1 (Nat.le_of_ble_eq_true rfl) rfl m_399 d_R_about_44 (fun x7 e => ?_)
          replace h := lt_i e h; clear e
          refine g_iload_n (i := 1) hE d_R_about_47 rfl rfl ?_
          obtain ⟨a8, rfl, h⟩ := nn_s h
          obtain ⟨k9, h⟩ := kd_s h
          obtain ⟨g10, h⟩ := gi_s h
          refine g_iald hE k9 g10 d_R_about_48 (fun x11 e => ?_)
          replace h := lt_i e h; clear e
          cases h
          exact g_iret hE d_R_about_49 rfl rfl
      · replace h := if_t c18 h
        refine g_aload_n (i := 0) hE d_R_about_31 rfl rfl ?_
        refine g_getR 25 hE kc_R k1 (Nat.le_of_ble_eq_true rfl) rfl m_402 d_R_about_32 (fun x13 e => ?_)
        replace h := lt_i e h; clear e
        refine g_iload_n (i := 1) hE d_R_about_35 rfl rfl ?_
        obtain ⟨a14, rfl, h⟩ := nn_s h
        obtain ⟨k15, h⟩ := kd_s h
        obtain ⟨g16, h⟩ := gi_s h
        refine g_iald hE k15 g16 d_R_about_36 (fun x17 e => ?_)
        replace h := lt_i e h; clear e
        cases h
        exact g_iret hE d_R_about_37 rfl rfl
    · replace h := if_t c24 h
      refine g_aload_n (i := 0) hE d_R_about_19 rfl rfl ?_
      refine g_getR 24 hE kc_R k1 (Nat.le_of_ble_eq_true rfl) rfl m_401 d_R_about_20 (fun x19 e => ?_)
      replace h := lt_i e h; clear e
      refine g_iload_n (i := 1) hE d_R_about_23 rfl rfl ?_
      obtain ⟨a20, rfl, h⟩ := nn_s h
      obtain ⟨k21, h⟩ := kd_s h
      obtain ⟨g22, h⟩ := gi_s h
      refine g_iald hE k21 g22 d_R_about_24 (fun x23 e => ?_)
      replace h := lt_i e h; clear e
      cases h
      exact g_iret hE d_R_about_25 rfl rfl
  · replace h := if_t c25 h
    refine g_iconst hE d_R_about_13 ki_m1 ?_
    cases h
    exact g_iret hE d_R_about_14 rfl rfl
theorem d_R_told_0 : dc b_R_told 0 (.aload_n 0) 1 1 := ⟨by decide +kernel, rfl⟩
theorem d_R_told_1 : dc b_R_told 1 (.iconst 0) 1 2 := ⟨by decide +kernel, rfl⟩
theorem d_R_told_2 : dc b_R_told 2 (.putfield 7) 3 5 := ⟨by decide +kernel, rfl⟩
theorem d_R_told_5 : dc b_R_told 5 (.aload_n 0) 1 6 := ⟨by decide +kernel, rfl⟩
theorem d_R_told_6 : dc b_R_told 6 (.iload_n 1) 1 7 := ⟨by decide +kernel, rfl⟩
theorem d_R_told_7 : dc b_R_told 7 (.invokevirtual 246) 3 10 := ⟨by decide +kernel, rfl⟩
theorem d_R_told_10 : db b_R_told 10 (.ifCond .ne 5) 5 15 13 := ⟨by decide +kernel, by decide, rfl⟩
theorem d_R_told_13 : dc b_R_told 13 (.iconst (-1)) 1 14 := ⟨by decide +kernel, rfl⟩
theorem d_R_told_14 : dc b_R_told 14 (.ireturn) 1 15 := ⟨by decide +kernel, rfl⟩
theorem d_R_told_15 : dc b_R_told 15 (.aload_n 0) 1 16 := ⟨by decide +kernel, rfl⟩
theorem d_R_told_16 : dc b_R_told 16 (.aload_n 0) 1 17 := ⟨by decide +kernel, rfl⟩
theorem d_R_told_17 : dc b_R_told 17 (.getfield 82) 3 20 := ⟨by decide +kernel, rfl⟩
theorem d_R_told_20 : dc b_R_told 20 (.iload_n 1) 1 21 := ⟨by decide +kernel, rfl⟩
theorem d_R_told_21 : dc b_R_told 21 (.iaload) 1 22 := ⟨by decide +kernel, rfl⟩
theorem d_R_told_22 : dc b_R_told 22 (.invokevirtual 204) 3 25 := ⟨by decide +kernel, rfl⟩
theorem d_R_told_25 : dc b_R_told 25 (.iload_n 2) 1 26 := ⟨by decide +kernel, rfl⟩
theorem d_R_told_26 : db b_R_told 26 (.ifCond .lt 11) 11 37 29 := ⟨by decide +kernel, by decide, rfl⟩
theorem d_R_told_29 : dc b_R_told 29 (.iload_n 2) 1 30 := ⟨by decide +kernel, rfl⟩
theorem d_R_told_30 : dc b_R_told 30 (.aload_n 0) 1 31 := ⟨by decide +kernel, rfl⟩
theorem d_R_told_31 : dc b_R_told 31 (.getfield 106) 3 34 := ⟨by decide +kernel, rfl⟩
theorem d_R_told_34 : db b_R_told 34 (.if_icmp .lt 5) 5 39 37 := ⟨by decide +kernel, by decide, rfl⟩
theorem d_R_told_37 : dc b_R_told 37 (.iconst (-1)) 1 38 := ⟨by decide +kernel, rfl⟩
theorem d_R_told_38 : dc b_R_told 38 (.ireturn) 1 39 := ⟨by decide +kernel, rfl⟩
theorem d_R_told_39 : dc b_R_told 39 (.aload_n 0) 1 40 := ⟨by decide +kernel, rfl⟩
theorem d_R_told_40 : dc b_R_told 40 (.getfield 121) 3 43 := ⟨by decide +kernel, rfl⟩
theorem d_R_told_43 : dc b_R_told 43 (.iload_n 2) 1 44 := ⟨by decide +kernel, rfl⟩
theorem d_R_told_44 : dc b_R_told 44 (.iaload) 1 45 := ⟨by decide +kernel, rfl⟩
theorem d_R_told_45 : dc b_R_told 45 (.istore 4) 2 47 := ⟨by decide +kernel, rfl⟩
theorem d_R_told_47 : dc b_R_told 47 (.aload_n 0) 1 48 := ⟨by decide +kernel, rfl⟩
theorem d_R_told_48 : dc b_R_told 48 (.getfield 109) 3 51 := ⟨by decide +kernel, rfl⟩
theorem d_R_told_51 : dc b_R_told 51 (.iload 4) 2 53 := ⟨by decide +kernel, rfl⟩
theorem d_R_told_53 : dc b_R_told 53 (.iaload) 1 54 := ⟨by decide +kernel, rfl⟩
theorem d_R_told_54 : dc b_R_told 54 (.istore 5) 2 56 := ⟨by decide +kernel, rfl⟩
theorem d_R_told_56 : dc b_R_told 56 (.iload_n 3) 1 57 := ⟨by decide +kernel, rfl⟩
theorem d_R_told_57 : db b_R_told 57 (.ifCond .ne 11) 11 68 60 := ⟨by decide +kernel, by decide, rfl⟩
theorem d_R_told_60 : dc b_R_told 60 (.aload_n 0) 1 61 := ⟨by decide +kernel, rfl⟩
theorem d_R_told_61 : dc b_R_told 61 (.getfield 51) 3 64 := ⟨by decide +kernel, rfl⟩
theorem d_R_told_64 : dc b_R_told 64 (.iload 5) 2 66 := ⟨by decide +kernel, rfl⟩
theorem d_R_told_66 : dc b_R_told 66 (.iaload) 1 67 := ⟨by decide +kernel, rfl⟩
theorem d_R_told_67 : dc b_R_told 67 (.ireturn) 1 68 := ⟨by decide +kernel, rfl⟩
theorem d_R_told_68 : dc b_R_told 68 (.iload_n 3) 1 69 := ⟨by decide +kernel, rfl⟩
theorem d_R_told_69 : dc b_R_told 69 (.iconst 1) 1 70 := ⟨by decide +kernel, rfl⟩
theorem d_R_told_70 : db b_R_told 70 (.if_icmp .ne 11) 11 81 73 := ⟨by decide +kernel, by decide, rfl⟩
theorem d_R_told_73 : dc b_R_told 73 (.aload_n 0) 1 74 := ⟨by decide +kernel, rfl⟩
theorem d_R_told_74 : dc b_R_told 74 (.getfield 54) 3 77 := ⟨by decide +kernel, rfl⟩
theorem d_R_told_77 : dc b_R_told 77 (.iload 5) 2 79 := ⟨by decide +kernel, rfl⟩
theorem d_R_told_79 : dc b_R_told 79 (.iaload) 1 80 := ⟨by decide +kernel, rfl⟩
theorem d_R_told_80 : dc b_R_told 80 (.ireturn) 1 81 := ⟨by decide +kernel, rfl⟩
theorem d_R_told_81 : dc b_R_told 81 (.iload_n 3) 1 82 := ⟨by decide +kernel, rfl⟩
theorem d_R_told_82 : dc b_R_told 82 (.iconst 2) 1 83 := ⟨by decide +kernel, rfl⟩
theorem d_R_told_83 : db b_R_told 83 (.if_icmp .lt 22) 22 105 86 := ⟨by decide +kernel, by decide, rfl⟩
theorem d_R_told_86 : dc b_R_told 86 (.iload_n 3) 1 87 := ⟨by decide +kernel, rfl⟩
theorem d_R_told_87 : dc b_R_told 87 (.iconst 4) 1 88 := ⟨by decide +kernel, rfl⟩
theorem d_R_told_88 : db b_R_told 88 (.if_icmp .gt 17) 17 105 91 := ⟨by decide +kernel, by decide, rfl⟩
theorem d_R_told_91 : dc b_R_told 91 (.aload_n 0) 1 92 := ⟨by decide +kernel, rfl⟩
theorem d_R_told_92 : dc b_R_told 92 (.getfield 57) 3 95 := ⟨by decide +kernel, rfl⟩
theorem d_R_told_95 : dc b_R_told 95 (.iconst 3) 1 96 := ⟨by decide +kernel, rfl⟩
theorem d_R_told_96 : dc b_R_told 96 (.iload 5) 2 98 := ⟨by decide +kernel, rfl⟩
theorem d_R_told_98 : dc b_R_told 98 (.imul) 1 99 := ⟨by decide +kernel, rfl⟩
theorem d_R_told_99 : dc b_R_told 99 (.iload_n 3) 1 100 := ⟨by decide +kernel, rfl⟩
theorem d_R_told_100 : dc b_R_told 100 (.iadd) 1 101 := ⟨by decide +kernel, rfl⟩
theorem d_R_told_101 : dc b_R_told 101 (.iconst 2) 1 102 := ⟨by decide +kernel, rfl⟩
theorem d_R_told_102 : dc b_R_told 102 (.isub) 1 103 := ⟨by decide +kernel, rfl⟩
theorem d_R_told_103 : dc b_R_told 103 (.iaload) 1 104 := ⟨by decide +kernel, rfl⟩
theorem d_R_told_104 : dc b_R_told 104 (.ireturn) 1 105 := ⟨by decide +kernel, rfl⟩
theorem d_R_told_105 : dc b_R_told 105 (.iload_n 3) 1 106 := ⟨by decide +kernel, rfl⟩
theorem d_R_told_106 : dc b_R_told 106 (.iconst 5) 1 107 := ⟨by decide +kernel, rfl⟩
theorem d_R_told_107 : db b_R_told 107 (.if_icmp .ne 9) 9 116 110 := ⟨by decide +kernel, by decide, rfl⟩
theorem d_R_told_110 : dc b_R_told 110 (.iload 5) 2 112 := ⟨by decide +kernel, rfl⟩
theorem d_R_told_112 : dc b_R_told 112 (.invokestatic 213) 3 115 := ⟨by decide +kernel, rfl⟩
theorem d_R_told_115 : dc b_R_told 115 (.ireturn) 1 116 := ⟨by decide +kernel, rfl⟩
theorem d_R_told_116 : dc b_R_told 116 (.iload_n 3) 1 117 := ⟨by decide +kernel, rfl⟩
theorem d_R_told_117 : dc b_R_told 117 (.bipush 6) 2 119 := ⟨by decide +kernel, rfl⟩
theorem d_R_told_119 : db b_R_told 119 (.if_icmp .ne 9) 9 128 122 := ⟨by decide +kernel, by decide, rfl⟩
theorem d_R_told_122 : dc b_R_told 122 (.iload 5) 2 124 := ⟨by decide +kernel, rfl⟩
theorem d_R_told_124 : dc b_R_told 124 (.invokestatic 217) 3 127 := ⟨by decide +kernel, rfl⟩
theorem d_R_told_127 : dc b_R_told 127 (.ireturn) 1 128 := ⟨by decide +kernel, rfl⟩
theorem d_R_told_128 : dc b_R_told 128 (.iload_n 3) 1 129 := ⟨by decide +kernel, rfl⟩
theorem d_R_told_129 : dc b_R_told 129 (.bipush 16) 2 131 := ⟨by decide +kernel, rfl⟩
theorem d_R_told_131 : db b_R_told 131 (.if_icmp .lt 43) 43 174 134 := ⟨by decide +kernel, by decide, rfl⟩
theorem d_R_told_134 : dc b_R_told 134 (.iload_n 3) 1 135 := ⟨by decide +kernel, rfl⟩
theorem d_R_told_135 : dc b_R_told 135 (.bipush 32) 2 137 := ⟨by decide +kernel, rfl⟩
theorem d_R_told_137 : db b_R_told 137 (.if_icmp .ge 37) 37 174 140 := ⟨by decide +kernel, by decide, rfl⟩
theorem d_R_told_140 : dc b_R_told 140 (.iload_n 3) 1 141 := ⟨by decide +kernel, rfl⟩
theorem d_R_told_141 : dc b_R_told 141 (.bipush 16) 2 143 := ⟨by decide +kernel, rfl⟩
theorem d_R_told_143 : dc b_R_told 143 (.isub) 1 144 := ⟨by decide +kernel, rfl⟩
theorem d_R_told_144 : dc b_R_told 144 (.aload_n 0) 1 145 := ⟨by decide +kernel, rfl⟩
theorem d_R_told_145 : dc b_R_told 145 (.getfield 115) 3 148 := ⟨by decide +kernel, rfl⟩
theorem d_R_told_148 : dc b_R_told 148 (.iload 4) 2 150 := ⟨by decide +kernel, rfl⟩
theorem d_R_told_150 : dc b_R_told 150 (.iaload) 1 151 := ⟨by decide +kernel, rfl⟩
theorem d_R_told_151 : db b_R_told 151 (.if_icmp .ge 21) 21 172 154 := ⟨by decide +kernel, by decide, rfl⟩
theorem d_R_told_154 : dc b_R_told 154 (.aload_n 0) 1 155 := ⟨by decide +kernel, rfl⟩
theorem d_R_told_155 : dc b_R_told 155 (.getfield 112) 3 158 := ⟨by decide +kernel, rfl⟩
theorem d_R_told_158 : dc b_R_told 158 (.bipush 16) 2 160 := ⟨by decide +kernel, rfl⟩
theorem d_R_told_160 : dc b_R_told 160 (.iload 4) 2 162 := ⟨by decide +kernel, rfl⟩
theorem d_R_told_162 : dc b_R_told 162 (.imul) 1 163 := ⟨by decide +kernel, rfl⟩
theorem d_R_told_163 : dc b_R_told 163 (.iload_n 3) 1 164 := ⟨by decide +kernel, rfl⟩
theorem d_R_told_164 : dc b_R_told 164 (.iadd) 1 165 := ⟨by decide +kernel, rfl⟩
theorem d_R_told_165 : dc b_R_told 165 (.bipush 16) 2 167 := ⟨by decide +kernel, rfl⟩
theorem d_R_told_167 : dc b_R_told 167 (.isub) 1 168 := ⟨by decide +kernel, rfl⟩
theorem d_R_told_168 : dc b_R_told 168 (.iaload) 1 169 := ⟨by decide +kernel, rfl⟩
theorem d_R_told_169 : db b_R_told 169 (.goto 4) 4 173 172 := ⟨by decide +kernel, by decide, rfl⟩
theorem d_R_told_172 : dc b_R_told 172 (.iconst 0) 1 173 := ⟨by decide +kernel, rfl⟩
theorem d_R_told_173 : dc b_R_told 173 (.ireturn) 1 174 := ⟨by decide +kernel, rfl⟩
theorem d_R_told_174 : dc b_R_told 174 (.iload_n 3) 1 175 := ⟨by decide +kernel, rfl⟩
theorem d_R_told_175 : dc b_R_told 175 (.bipush 32) 2 177 := ⟨by decide +kernel, rfl⟩
theorem d_R_told_177 : db b_R_told 177 (.if_icmp .lt 9) 9 186 180 := ⟨by decide +kernel, by decide, rfl⟩
theorem d_R_told_180 : dc b_R_told 180 (.iload_n 3) 1 181 := ⟨by decide +kernel, rfl⟩
theorem d_R_told_181 : dc b_R_told 181 (.bipush 47) 2 183 := ⟨by decide +kernel, rfl⟩
theorem d_R_told_183 : db b_R_told 183 (.if_icmp .le 5) 5 188 186 := ⟨by decide +kernel, by decide, rfl⟩
theorem d_R_told_186 : dc b_R_told 186 (.iconst (-1)) 1 187 := ⟨by decide +kernel, rfl⟩
theorem d_R_told_187 : dc b_R_told 187 (.ireturn) 1 188 := ⟨by decide +kernel, rfl⟩
theorem d_R_told_188 : dc b_R_told 188 (.aload_n 0) 1 189 := ⟨by decide +kernel, rfl⟩
theorem d_R_told_189 : dc b_R_told 189 (.iload 4) 2 191 := ⟨by decide +kernel, rfl⟩
theorem d_R_told_191 : dc b_R_told 191 (.invokevirtual 229) 3 194 := ⟨by decide +kernel, rfl⟩
theorem d_R_told_194 : dc b_R_told 194 (.iload_n 3) 1 195 := ⟨by decide +kernel, rfl⟩
theorem d_R_told_195 : dc b_R_told 195 (.bipush 32) 2 197 := ⟨by decide +kernel, rfl⟩
theorem d_R_told_197 : dc b_R_told 197 (.isub) 1 198 := ⟨by decide +kernel, rfl⟩
theorem d_R_told_198 : dc b_R_told 198 (.aload_n 0) 1 199 := ⟨by decide +kernel, rfl⟩
theorem d_R_told_199 : dc b_R_told 199 (.getfield 124) 3 202 := ⟨by decide +kernel, rfl⟩
theorem d_R_told_202 : db b_R_told 202 (.if_icmp .ge 15) 15 217 205 := ⟨by decide +kernel, by decide, rfl⟩
theorem d_R_told_205 : dc b_R_told 205 (.aload_n 0) 1 206 := ⟨by decide +kernel, rfl⟩
theorem d_R_told_206 : dc b_R_told 206 (.getfield 127) 3 209 := ⟨by decide +kernel, rfl⟩
theorem d_R_told_209 : dc b_R_told 209 (.iload_n 3) 1 210 := ⟨by decide +kernel, rfl⟩
theorem d_R_told_210 : dc b_R_told 210 (.bipush 32) 2 212 := ⟨by decide +kernel, rfl⟩
theorem d_R_told_212 : dc b_R_told 212 (.isub) 1 213 := ⟨by decide +kernel, rfl⟩
theorem d_R_told_213 : dc b_R_told 213 (.iaload) 1 214 := ⟨by decide +kernel, rfl⟩
theorem d_R_told_214 : db b_R_told 214 (.goto 4) 4 218 217 := ⟨by decide +kernel, by decide, rfl⟩
theorem d_R_told_217 : dc b_R_told 217 (.iconst 0) 1 218 := ⟨by decide +kernel, rfl⟩
theorem d_R_told_218 : dc b_R_told 218 (.ireturn) 1 219 := ⟨by decide +kernel, rfl⟩
def f_R_told_J174 (S : gS) (o : Nat) (d : gD) (v3 : Int32) (v4 : Int32) : Option (Int32 × gD) :=
  if v3 < 32 then (
    some ((-1), d))
  else (
    if v3 ≤ 47 then (
      kd S o 10 <|
      bdD (f_R_catchFor S d o v4) fun _ d4 =>
      lt_ (dI d4 o 37) fun x5 =>
      if x5 ≤ (v3 - 32) then (
        some (0, d4))
      else (
        lt_ (sP S o 38) fun x6 =>
        nn x6 fun a7 =>
        kd S a7 50 <|
        gi (v3 - 32) (sN S a7) <|
        lt_ (dI d4 a7 (v3 - 32 : Int32).toNatClampNeg) fun x10 =>
        some (x10, d4)))
    else (
      some ((-1), d)))
set_option maxRecDepth 100000 in
set_option maxHeartbeats 4000000 in
theorem w_R_told_J174 {X : GX} (hE : gE X b_R_told 6 "StandInMillModel" (some (.int)) "told" 6 145) {S : gS} {o : Nat} {r : Int32} {d' : gD} :
    ∀ (d : gD) (v3 : Int32) (v4 : Int32), f_R_told_J174 S o d v3 v4 = some (r, d') → gw X 0 0 (gQ X (some (.int r)) S d' 0 0) S d 174 [some (va_rf (some o)), none, none, some (.int v3), some (.int v4), none] [] := by
  intro d v3 v4 h
  unfold f_R_told_J174 at h
  refine g_iload_n (i := 3) hE d_R_told_174 rfl rfl ?_
  refine g_bipush hE d_R_told_175 kb_32 ?_
  refine g_icmp_lt hE d_R_told_177 (fun c13 => ?_) (fun c13 => ?_)
  · replace h := if_t c13 h
    refine g_iconst hE d_R_told_186 ki_m1 ?_
    cases h
    exact g_iret hE d_R_told_187 rfl rfl
  · replace h := if_f c13 h
    refine g_iload_n (i := 3) hE d_R_told_180 rfl rfl ?_
    refine g_bipush hE d_R_told_181 kb_47 ?_
    refine g_icmp_le hE d_R_told_183 (fun c12 => ?_) (fun c12 => ?_)
    · replace h := if_t c12 h
      refine g_aload_n (i := 0) hE d_R_told_188 rfl rfl ?_
      refine g_iload (i := 4) hE d_R_told_189 rfl ?_
      obtain ⟨k1, h⟩ := kd_s h
      obtain ⟨x2, d4, e3, h⟩ := bdD_s h
      refine g_callV (av := [.inr (.inr (some o)), .inl v4]) (as := [.inl v4]) (stk := []) [] hE (c_R_catchFor (xl X) (xG X) e3) ky_R_catchFor ⟨Nat.le_of_ble_eq_true rfl, Nat.le_of_ble_eq_true rfl⟩ rfl kc_R k1 m_487 m_488 m_489 rfl d_R_told_191 rfl rfl ct_0 (Nat.zero_le _) (Nat.zero_le _) ?_
      refine gw.cs (c2 := 0) (s2 := 0) rfl rfl ?_
      refine g_iload_n (i := 3) hE d_R_told_194 rfl rfl ?_
      refine g_bipush hE d_R_told_195 kb_32 ?_
      refine g_isub hE d_R_told_197 ?_
      refine g_aload_n (i := 0) hE d_R_told_198 rfl rfl ?_
      refine g_getI 37 hE kc_R k1 (Nat.le_of_ble_eq_true rfl) rfl m_414 d_R_told_199 (fun x5 e => ?_)
      replace h := lt_i e h; clear e
      refine g_icmp_ge hE d_R_told_202 (fun c11 => ?_) (fun c11 => ?_)
      · replace h := if_t c11 h
        refine g_iconst hE d_R_told_217 ki_0 ?_
        cases h
        exact g_iret hE d_R_told_218 rfl rfl
      · replace h := if_f c11 h
        refine g_aload_n (i := 0) hE d_R_told_205 rfl rfl ?_
        refine g_getR 38 hE kc_R k1 (Nat.le_of_ble_eq_true rfl) rfl m_415 d_R_told_206 (fun x6 e => ?_)
        replace h := lt_i e h; clear e
        refine g_iload_n (i := 3) hE d_R_told_209 rfl rfl ?_
        refine g_bipush hE d_R_told_210 kb_32 ?_
        refine g_isub hE d_R_told_212 ?_
        obtain ⟨a7, rfl, h⟩ := nn_s h
        obtain ⟨k8, h⟩ := kd_s h
        obtain ⟨g9, h⟩ := gi_s h
        refine g_iald hE k8 g9 d_R_told_213 (fun x10 e => ?_)
        replace h := lt_i e h; clear e
        refine g_goto hE d_R_told_214 ?_
        cases h
        exact g_iret hE d_R_told_218 rfl rfl
    · replace h := if_f c12 h
      refine g_iconst hE d_R_told_186 ki_m1 ?_
      cases h
      exact g_iret hE d_R_told_187 rfl rfl
def f_R_told_J105 (S : gS) (o : Nat) (d : gD) (v3 : Int32) (v4 : Int32) (v5 : Int32) : Option (Int32 × gD) :=
  if v3 = 5 then (
    bd (f_R_owner S d v5) fun x18 =>
    some (x18, d))
  else (
    if v3 = 6 then (
      bd (f_R_numberOf S d v5) fun x15 =>
      some (x15, d))
    else (
      if v3 < 16 then (
        f_R_told_J174 S o d v3 v4)
      else (
        if 32 ≤ v3 then (
          f_R_told_J174 S o d v3 v4)
        else (
          kd S o 10 <|
          lt_ (sP S o 34) fun x2 =>
          nn x2 fun a3 =>
          kd S a3 50 <|
          gi v4 (sN S a3) <|
          lt_ (dI d a3 v4.toNatClampNeg) fun x6 =>
          if x6 ≤ (v3 - 16) then (
            some (0, d))
          else (
            lt_ (sP S o 33) fun x7 =>
            nn x7 fun a8 =>
            kd S a8 50 <|
            gi (((16 * v4) + v3) - 16) (sN S a8) <|
            lt_ (dI d a8 (((16 * v4) + v3) - 16 : Int32).toNatClampNeg) fun x11 =>
            some (x11, d))))))
set_option maxRecDepth 100000 in
set_option maxHeartbeats 4000000 in
theorem w_R_told_J105 {X : GX} (hE : gE X b_R_told 6 "StandInMillModel" (some (.int)) "told" 6 145) {S : gS} {o : Nat} {r : Int32} {d' : gD} :
    ∀ (d : gD) (v3 : Int32) (v4 : Int32) (v5 : Int32), f_R_told_J105 S o d v3 v4 v5 = some (r, d') → gw X 0 0 (gQ X (some (.int r)) S d' 0 0) S d 105 [some (va_rf (some o)), none, none, some (.int v3), some (.int v4), some (.int v5)] [] := by
  intro d v3 v4 v5 h
  unfold f_R_told_J105 at h
  refine g_iload_n (i := 3) hE d_R_told_105 rfl rfl ?_
  refine g_iconst hE d_R_told_106 ki_5 ?_
  refine g_icmp_ne hE d_R_told_107 (fun c20 => ?_) (fun c20 => ?_)
  · replace h := if_f c20 h
    refine g_iload_n (i := 3) hE d_R_told_116 rfl rfl ?_
    refine g_bipush hE d_R_told_117 kb_6 ?_
    refine g_icmp_ne hE d_R_told_119 (fun c17 => ?_) (fun c17 => ?_)
    · replace h := if_f c17 h
      refine g_iload_n (i := 3) hE d_R_told_128 rfl rfl ?_
      refine g_bipush hE d_R_told_129 kb_16 ?_
      refine g_icmp_lt hE d_R_told_131 (fun c14 => ?_) (fun c14 => ?_)
      · replace h := if_t c14 h
        exact gw.less (lv' := [some (va_rf (some o)), none, none, some (.int v3), some (.int v4), none]) (And.intro rfl (And.intro rfl (And.intro rfl trivial))) (w_R_told_J174 hE d v3 v4 h)
      · replace h := if_f c14 h
        refine g_iload_n (i := 3) hE d_R_told_134 rfl rfl ?_
        refine g_bipush hE d_R_told_135 kb_32 ?_
        refine g_icmp_ge hE d_R_told_137 (fun c13 => ?_) (fun c13 => ?_)
        · replace h := if_t c13 h
          exact gw.less (lv' := [some (va_rf (some o)), none, none, some (.int v3), some (.int v4), none]) (And.intro rfl (And.intro rfl (And.intro rfl trivial))) (w_R_told_J174 hE d v3 v4 h)
        · replace h := if_f c13 h
          refine g_iload_n (i := 3) hE d_R_told_140 rfl rfl ?_
          refine g_bipush hE d_R_told_141 kb_16 ?_
          refine g_isub hE d_R_told_143 ?_
          refine g_aload_n (i := 0) hE d_R_told_144 rfl rfl ?_
          obtain ⟨k1, h⟩ := kd_s h
          refine g_getR 34 hE kc_R k1 (Nat.le_of_ble_eq_true rfl) rfl m_411 d_R_told_145 (fun x2 e => ?_)
          replace h := lt_i e h; clear e
          refine g_iload (i := 4) hE d_R_told_148 rfl ?_
          obtain ⟨a3, rfl, h⟩ := nn_s h
          obtain ⟨k4, h⟩ := kd_s h
          obtain ⟨g5, h⟩ := gi_s h
          refine g_iald hE k4 g5 d_R_told_150 (fun x6 e => ?_)
          replace h := lt_i e h; clear e
          refine g_icmp_ge hE d_R_told_151 (fun c12 => ?_) (fun c12 => ?_)
          · replace h := if_t c12 h
            refine g_iconst hE d_R_told_172 ki_0 ?_
            cases h
            exact g_iret hE d_R_told_173 rfl rfl
          · replace h := if_f c12 h
            refine g_aload_n (i := 0) hE d_R_told_154 rfl rfl ?_
            refine g_getR 33 hE kc_R k1 (Nat.le_of_ble_eq_true rfl) rfl m_410 d_R_told_155 (fun x7 e => ?_)
            replace h := lt_i e h; clear e
            refine g_bipush hE d_R_told_158 kb_16 ?_
            refine g_iload (i := 4) hE d_R_told_160 rfl ?_
            refine g_imul hE d_R_told_162 ?_
            refine g_iload_n (i := 3) hE d_R_told_163 rfl rfl ?_
            refine g_iadd hE d_R_told_164 ?_
            refine g_bipush hE d_R_told_165 kb_16 ?_
            refine g_isub hE d_R_told_167 ?_
            obtain ⟨a8, rfl, h⟩ := nn_s h
            obtain ⟨k9, h⟩ := kd_s h
            obtain ⟨g10, h⟩ := gi_s h
            refine g_iald hE k9 g10 d_R_told_168 (fun x11 e => ?_)
            replace h := lt_i e h; clear e
            refine g_goto hE d_R_told_169 ?_
            cases h
            exact g_iret hE d_R_told_173 rfl rfl
    · replace h := if_t c17 h
      refine g_iload (i := 5) hE d_R_told_122 rfl ?_
      obtain ⟨x15, e16, h⟩ := bd_s h
      refine g_callS (av := [.inl v5]) (stk := [.int x15]) [] hE (c_R_numberOf (xl X) (xG X) e16) ky_R_numberOf ⟨Nat.le_of_ble_eq_true rfl, Nat.le_of_ble_eq_true rfl⟩ m_476 m_477 rfl d_R_told_124 rfl rfl ct_0 (Nat.zero_le _) (Nat.zero_le _) ?_
      refine gw.cs (c2 := 0) (s2 := 0) rfl rfl ?_
      cases h
      exact g_iret hE d_R_told_127 rfl rfl
  · replace h := if_t c20 h
    refine g_iload (i := 5) hE d_R_told_110 rfl ?_
    obtain ⟨x18, e19, h⟩ := bd_s h
    refine g_callS (av := [.inl v5]) (stk := [.int x18]) [] hE (c_R_owner (xl X) (xG X) e19) ky_R_owner ⟨Nat.le_of_ble_eq_true rfl, Nat.le_of_ble_eq_true rfl⟩ m_474 m_475 rfl d_R_told_112 rfl rfl ct_0 (Nat.zero_le _) (Nat.zero_le _) ?_
    refine gw.cs (c2 := 0) (s2 := 0) rfl rfl ?_
    cases h
    exact g_iret hE d_R_told_115 rfl rfl
set_option maxRecDepth 100000 in
def f_R_told (S : gS) (d : gD) (o : Nat) (v1 : Int32) (v2 : Int32) (v3 : Int32) : Option (Int32 × gD) :=
  kd S o 10 <|
  lt_ (wI d o 0 0) fun d2 =>
  bd (f_R_isStand S d2 o v1) fun x3 =>
  if x3 = 0 then (
    some ((-1), d2))
  else (
    lt_ (sP S o 23) fun x5 =>
    nn x5 fun a6 =>
    kd S a6 50 <|
    gi v1 (sN S a6) <|
    lt_ (dI d2 a6 v1.toNatClampNeg) fun x9 =>
    bdD (f_R_describe S d2 o x9) fun _ d12 =>
    if v2 < 0 then (
      some ((-1), d12))
    else (
      lt_ (dI d12 o 31) fun x13 =>
      if v2 < x13 then (
        lt_ (sP S o 36) fun x14 =>
        nn x14 fun a15 =>
        kd S a15 50 <|
        gi v2 (sN S a15) <|
        lt_ (dI d12 a15 v2.toNatClampNeg) fun x18 =>
        lt_ (sP S o 32) fun x19 =>
        nn x19 fun a20 =>
        kd S a20 50 <|
        gi x18 (sN S a20) <|
        lt_ (dI d12 a20 x18.toNatClampNeg) fun x23 =>
        if v3 = 0 then (
          lt_ (sP S o 13) fun x37 =>
          nn x37 fun a38 =>
          kd S a38 50 <|
          gi x23 (sN S a38) <|
          lt_ (dI d12 a38 x23.toNatClampNeg) fun x41 =>
          some (x41, d12))
        else (
          if v3 = 1 then (
            lt_ (sP S o 14) fun x31 =>
            nn x31 fun a32 =>
            kd S a32 50 <|
            gi x23 (sN S a32) <|
            lt_ (dI d12 a32 x23.toNatClampNeg) fun x35 =>
            some (x35, d12))
          else (
            if v3 < 2 then (
              f_R_told_J105 S o d12 v3 x18 x23)
            else (
              if 4 < v3 then (
                f_R_told_J105 S o d12 v3 x18 x23)
              else (
                lt_ (sP S o 15) fun x24 =>
                nn x24 fun a25 =>
                kd S a25 50 <|
                gi (((3 * x23) + v3) - 2) (sN S a25) <|
                lt_ (dI d12 a25 (((3 * x23) + v3) - 2 : Int32).toNatClampNeg) fun x28 =>
                some (x28, d12))))))
      else (
        some ((-1), d12))))
set_option maxRecDepth 100000 in
set_option maxHeartbeats 4000000 in
theorem c_R_told (l : Launch) (G : gG) {S : gS} {d : gD} {o : Nat} {v1 : Int32} {v2 : Int32} {v3 : Int32} {r : Int32} {d' : gD} (h : f_R_told S d o v1 v2 v3 = some (r, d')) : GM l G y_R_told b_R_told 6 (some (.int)) 6 145 0 0 [.inr (.inr (some o)), .inl v1, .inl v2, .inl v3] S d (some (.int r)) S d' := by
  refine GM.of (by decide) (Nat.le_of_ble_eq_true rfl) ?_
  intro X hl0 hG0 hR0 hE0
  have hE : gE X b_R_told 6 "StandInMillModel" (some (.int)) "told" 6 145 := hE0
  unfold f_R_told at h
  refine gw.less (lv' := [some (va_rf (some o)), some (.int v1), some (.int v2), some (.int v3), none, none]) (And.intro rfl (And.intro rfl (And.intro rfl (And.intro rfl trivial)))) ?_
  refine g_aload_n (i := 0) hE d_R_told_0 rfl rfl ?_
  refine g_iconst hE d_R_told_1 ki_0 ?_
  obtain ⟨k1, h⟩ := kd_s h
  refine g_putI 0 hE kc_R k1 (Nat.le_of_ble_eq_true rfl) rfl m_376 rfl (by decide +kernel) d_R_told_2 (fun d2 e => ?_)
  replace h := lt_i e h; clear e
  refine g_aload_n (i := 0) hE d_R_told_5 rfl rfl ?_
  refine g_iload_n (i := 1) hE d_R_told_6 rfl rfl ?_
  obtain ⟨x3, e4, h⟩ := bd_s h
  refine g_callV (av := [.inr (.inr (some o)), .inl v1]) (as := [.inl v1]) (stk := [.int x3]) [] hE (c_R_isStand (xl X) (xG X) e4) ky_R_isStand ⟨Nat.le_of_ble_eq_true rfl, Nat.le_of_ble_eq_true rfl⟩ rfl kc_R k1 m_501 m_502 m_503 rfl d_R_told_7 rfl rfl ct_0 (Nat.zero_le _) (Nat.zero_le _) ?_
  refine gw.cs (c2 := 0) (s2 := 0) rfl rfl ?_
  refine g_if_ne hE d_R_told_10 (fun c45 => ?_) (fun c45 => ?_)
  · replace h := if_f c45 h
    refine g_aload_n (i := 0) hE d_R_told_15 rfl rfl ?_
    refine g_aload_n (i := 0) hE d_R_told_16 rfl rfl ?_
    refine g_getR 23 hE kc_R k1 (Nat.le_of_ble_eq_true rfl) rfl m_400 d_R_told_17 (fun x5 e => ?_)
    replace h := lt_i e h; clear e
    refine g_iload_n (i := 1) hE d_R_told_20 rfl rfl ?_
    obtain ⟨a6, rfl, h⟩ := nn_s h
    obtain ⟨k7, h⟩ := kd_s h
    obtain ⟨g8, h⟩ := gi_s h
    refine g_iald hE k7 g8 d_R_told_21 (fun x9 e => ?_)
    replace h := lt_i e h; clear e
    obtain ⟨x10, d12, e11, h⟩ := bdD_s h
    refine g_callV (av := [.inr (.inr (some o)), .inl x9]) (as := [.inl x9]) (stk := []) [] hE (c_R_describe (xl X) (xG X) e11) ky_R_describe ⟨Nat.le_of_ble_eq_true rfl, Nat.le_of_ble_eq_true rfl⟩ rfl kc_R k1 m_465 m_466 m_467 rfl d_R_told_22 rfl rfl ct_0 (Nat.zero_le _) (Nat.zero_le _) ?_
    refine gw.cs (c2 := 0) (s2 := 0) rfl rfl ?_
    refine g_iload_n (i := 2) hE d_R_told_25 rfl rfl ?_
    refine g_if_lt hE d_R_told_26 (fun c44 => ?_) (fun c44 => ?_)
    · replace h := if_t c44 h
      refine g_iconst hE d_R_told_37 ki_m1 ?_
      cases h
      exact g_iret hE d_R_told_38 rfl rfl
    · replace h := if_f c44 h
      refine g_iload_n (i := 2) hE d_R_told_29 rfl rfl ?_
      refine g_aload_n (i := 0) hE d_R_told_30 rfl rfl ?_
      refine g_getI 31 hE kc_R k1 (Nat.le_of_ble_eq_true rfl) rfl m_408 d_R_told_31 (fun x13 e => ?_)
      replace h := lt_i e h; clear e
      refine g_icmp_lt hE d_R_told_34 (fun c43 => ?_) (fun c43 => ?_)
      · replace h := if_t c43 h
        refine g_aload_n (i := 0) hE d_R_told_39 rfl rfl ?_
        refine g_getR 36 hE kc_R k1 (Nat.le_of_ble_eq_true rfl) rfl m_413 d_R_told_40 (fun x14 e => ?_)
        replace h := lt_i e h; clear e
        refine g_iload_n (i := 2) hE d_R_told_43 rfl rfl ?_
        obtain ⟨a15, rfl, h⟩ := nn_s h
        obtain ⟨k16, h⟩ := kd_s h
        obtain ⟨g17, h⟩ := gi_s h
        refine g_iald hE k16 g17 d_R_told_44 (fun x18 e => ?_)
        replace h := lt_i e h; clear e
        refine g_istore (i := 4) (lv' := [some (va_rf (some o)), some (.int v1), some (.int v2), some (.int v3), some (.int x18), none]) hE d_R_told_45 (Nat.le_of_ble_eq_true rfl) ⟨rfl, Nat.le_of_ble_eq_true rfl⟩ (lvp_i rfl) ?_
        refine g_aload_n (i := 0) hE d_R_told_47 rfl rfl ?_
        refine g_getR 32 hE kc_R k1 (Nat.le_of_ble_eq_true rfl) rfl m_409 d_R_told_48 (fun x19 e => ?_)
        replace h := lt_i e h; clear e
        refine g_iload (i := 4) hE d_R_told_51 rfl ?_
        obtain ⟨a20, rfl, h⟩ := nn_s h
        obtain ⟨k21, h⟩ := kd_s h
        obtain ⟨g22, h⟩ := gi_s h
        refine g_iald hE k21 g22 d_R_told_53 (fun x23 e => ?_)
        replace h := lt_i e h; clear e
        refine g_istore (i := 5) (lv' := [some (va_rf (some o)), some (.int v1), some (.int v2), some (.int v3), some (.int x18), some (.int x23)]) hE d_R_told_54 (Nat.le_of_ble_eq_true rfl) ⟨rfl, Nat.le_of_ble_eq_true rfl⟩ (lvp_i rfl) ?_
        refine g_iload_n (i := 3) hE d_R_told_56 rfl rfl ?_
        refine g_if_ne hE d_R_told_57 (fun c42 => ?_) (fun c42 => ?_)
        · replace h := if_f c42 h
          refine g_iload_n (i := 3) hE d_R_told_68 rfl rfl ?_
          refine g_iconst hE d_R_told_69 ki_1 ?_
          refine g_icmp_ne hE d_R_told_70 (fun c36 => ?_) (fun c36 => ?_)
          · replace h := if_f c36 h
            refine g_iload_n (i := 3) hE d_R_told_81 rfl rfl ?_
            refine g_iconst hE d_R_told_82 ki_2 ?_
            refine g_icmp_lt hE d_R_told_83 (fun c30 => ?_) (fun c30 => ?_)
            · replace h := if_t c30 h
              exact gw.less (lv' := [some (va_rf (some o)), none, none, some (.int v3), some (.int x18), some (.int x23)]) (And.intro rfl (And.intro rfl (And.intro rfl (And.intro rfl trivial)))) (w_R_told_J105 hE d12 v3 x18 x23 h)
            · replace h := if_f c30 h
              refine g_iload_n (i := 3) hE d_R_told_86 rfl rfl ?_
              refine g_iconst hE d_R_told_87 ki_4 ?_
              refine g_icmp_gt hE d_R_told_88 (fun c29 => ?_) (fun c29 => ?_)
              · replace h := if_t c29 h
                exact gw.less (lv' := [some (va_rf (some o)), none, none, some (.int v3), some (.int x18), some (.int x23)]) (And.intro rfl (And.intro rfl (And.intro rfl (And.intro rfl trivial)))) (w_R_told_J105 hE d12 v3 x18 x23 h)
              · replace h := if_f c29 h
                refine g_aload_n (i := 0) hE d_R_told_91 rfl rfl ?_
                refine g_getR 15 hE kc_R k1 (Nat.le_of_ble_eq_true rfl) rfl m_392 d_R_told_92 (fun x24 e => ?_)
                replace h := lt_i e h; clear e
                refine g_iconst hE d_R_told_95 ki_3 ?_
                refine g_iload (i := 5) hE d_R_told_96 rfl ?_
                refine g_imul hE d_R_told_98 ?_
                refine g_iload_n (i := 3) hE d_R_told_99 rfl rfl ?_
                refine g_iadd hE d_R_told_100 ?_
                refine g_iconst hE d_R_told_101 ki_2 ?_
                refine g_isub hE d_R_told_102 ?_
                obtain ⟨a25, rfl, h⟩ := nn_s h
                obtain ⟨k26, h⟩ := kd_s h
                obtain ⟨g27, h⟩ := gi_s h
                refine g_iald hE k26 g27 d_R_told_103 (fun x28 e => ?_)
                replace h := lt_i e h; clear e
                cases h
                exact g_iret hE d_R_told_104 rfl rfl
          · replace h := if_t c36 h
            refine g_aload_n (i := 0) hE d_R_told_73 rfl rfl ?_
            refine g_getR 14 hE kc_R k1 (Nat.le_of_ble_eq_true rfl) rfl m_391 d_R_told_74 (fun x31 e => ?_)
            replace h := lt_i e h; clear e
            refine g_iload (i := 5) hE d_R_told_77 rfl ?_
            obtain ⟨a32, rfl, h⟩ := nn_s h
            obtain ⟨k33, h⟩ := kd_s h
            obtain ⟨g34, h⟩ := gi_s h
            refine g_iald hE k33 g34 d_R_told_79 (fun x35 e => ?_)
            replace h := lt_i e h; clear e
            cases h
            exact g_iret hE d_R_told_80 rfl rfl
        · replace h := if_t c42 h
          refine g_aload_n (i := 0) hE d_R_told_60 rfl rfl ?_
          refine g_getR 13 hE kc_R k1 (Nat.le_of_ble_eq_true rfl) rfl m_390 d_R_told_61 (fun x37 e => ?_)
          replace h := lt_i e h; clear e
          refine g_iload (i := 5) hE d_R_told_64 rfl ?_
          obtain ⟨a38, rfl, h⟩ := nn_s h
          obtain ⟨k39, h⟩ := kd_s h
          obtain ⟨g40, h⟩ := gi_s h
          refine g_iald hE k39 g40 d_R_told_66 (fun x41 e => ?_)
          replace h := lt_i e h; clear e
          cases h
          exact g_iret hE d_R_told_67 rfl rfl
      · replace h := if_f c43 h
        refine g_iconst hE d_R_told_37 ki_m1 ?_
        cases h
        exact g_iret hE d_R_told_38 rfl rfl
  · replace h := if_t c45 h
    refine g_iconst hE d_R_told_13 ki_m1 ?_
    cases h
    exact g_iret hE d_R_told_14 rfl rfl
theorem d_R_octet_0 : dc b_R_octet 0 (.aload_n 0) 1 1 := ⟨by decide +kernel, rfl⟩
theorem d_R_octet_1 : dc b_R_octet 1 (.iconst 0) 1 2 := ⟨by decide +kernel, rfl⟩
theorem d_R_octet_2 : dc b_R_octet 2 (.putfield 7) 3 5 := ⟨by decide +kernel, rfl⟩
theorem d_R_octet_5 : dc b_R_octet 5 (.aload_n 0) 1 6 := ⟨by decide +kernel, rfl⟩
theorem d_R_octet_6 : dc b_R_octet 6 (.iload_n 1) 1 7 := ⟨by decide +kernel, rfl⟩
theorem d_R_octet_7 : dc b_R_octet 7 (.invokevirtual 246) 3 10 := ⟨by decide +kernel, rfl⟩
theorem d_R_octet_10 : db b_R_octet 10 (.ifCond .eq 7) 7 17 13 := ⟨by decide +kernel, by decide, rfl⟩
theorem d_R_octet_13 : dc b_R_octet 13 (.iload_n 2) 1 14 := ⟨by decide +kernel, rfl⟩
theorem d_R_octet_14 : db b_R_octet 14 (.ifCond .ge 5) 5 19 17 := ⟨by decide +kernel, by decide, rfl⟩
theorem d_R_octet_17 : dc b_R_octet 17 (.iconst (-1)) 1 18 := ⟨by decide +kernel, rfl⟩
theorem d_R_octet_18 : dc b_R_octet 18 (.ireturn) 1 19 := ⟨by decide +kernel, rfl⟩
theorem d_R_octet_19 : dc b_R_octet 19 (.aload_n 0) 1 20 := ⟨by decide +kernel, rfl⟩
theorem d_R_octet_20 : dc b_R_octet 20 (.iload_n 1) 1 21 := ⟨by decide +kernel, rfl⟩
theorem d_R_octet_21 : dc b_R_octet 21 (.invokevirtual 249) 3 24 := ⟨by decide +kernel, rfl⟩
theorem d_R_octet_24 : dc b_R_octet 24 (.aload_n 0) 1 25 := ⟨by decide +kernel, rfl⟩
theorem d_R_octet_25 : dc b_R_octet 25 (.iload_n 2) 1 26 := ⟨by decide +kernel, rfl⟩
theorem d_R_octet_26 : dc b_R_octet 26 (.invokevirtual 256) 3 29 := ⟨by decide +kernel, rfl⟩
theorem d_R_octet_29 : dc b_R_octet 29 (.ireturn) 1 30 := ⟨by decide +kernel, rfl⟩
set_option maxRecDepth 100000 in
def f_R_octet (S : gS) (d : gD) (o : Nat) (v1 : Int32) (v2 : Int32) : Option (Int32 × gD) :=
  kd S o 10 <|
  lt_ (wI d o 0 0) fun d2 =>
  bd (f_R_isStand S d2 o v1) fun x3 =>
  if x3 = 0 then (
    some ((-1), d2))
  else (
    if 0 ≤ v2 then (
      bdD (f_R_unit S d2 o v1) fun _ d7 =>
      bd (f_R_unitByte S d7 o v2) fun x8 =>
      some (x8, d7))
    else (
      some ((-1), d2)))
set_option maxRecDepth 100000 in
set_option maxHeartbeats 4000000 in
theorem c_R_octet (l : Launch) (G : gG) {S : gS} {d : gD} {o : Nat} {v1 : Int32} {v2 : Int32} {r : Int32} {d' : gD} (h : f_R_octet S d o v1 v2 = some (r, d')) : GM l G y_R_octet b_R_octet 3 (some (.int)) 7 169 0 0 [.inr (.inr (some o)), .inl v1, .inl v2] S d (some (.int r)) S d' := by
  refine GM.of (by decide) (Nat.le_of_ble_eq_true rfl) ?_
  intro X hl0 hG0 hR0 hE0
  have hE : gE X b_R_octet 3 "StandInMillModel" (some (.int)) "octet" 7 169 := hE0
  unfold f_R_octet at h
  refine gw.less (lv' := [some (va_rf (some o)), some (.int v1), some (.int v2)]) (And.intro rfl (And.intro rfl (And.intro rfl trivial))) ?_
  refine g_aload_n (i := 0) hE d_R_octet_0 rfl rfl ?_
  refine g_iconst hE d_R_octet_1 ki_0 ?_
  obtain ⟨k1, h⟩ := kd_s h
  refine g_putI 0 hE kc_R k1 (Nat.le_of_ble_eq_true rfl) rfl m_376 rfl (by decide +kernel) d_R_octet_2 (fun d2 e => ?_)
  replace h := lt_i e h; clear e
  refine g_aload_n (i := 0) hE d_R_octet_5 rfl rfl ?_
  refine g_iload_n (i := 1) hE d_R_octet_6 rfl rfl ?_
  obtain ⟨x3, e4, h⟩ := bd_s h
  refine g_callV (av := [.inr (.inr (some o)), .inl v1]) (as := [.inl v1]) (stk := [.int x3]) [] hE (c_R_isStand (xl X) (xG X) e4) ky_R_isStand ⟨Nat.le_of_ble_eq_true rfl, Nat.le_of_ble_eq_true rfl⟩ rfl kc_R k1 m_501 m_502 m_503 rfl d_R_octet_7 rfl rfl ct_0 (Nat.zero_le _) (Nat.zero_le _) ?_
  refine gw.cs (c2 := 0) (s2 := 0) rfl rfl ?_
  refine g_if_eq hE d_R_octet_10 (fun c11 => ?_) (fun c11 => ?_)
  · replace h := if_t c11 h
    refine g_iconst hE d_R_octet_17 ki_m1 ?_
    cases h
    exact g_iret hE d_R_octet_18 rfl rfl
  · replace h := if_f c11 h
    refine g_iload_n (i := 2) hE d_R_octet_13 rfl rfl ?_
    refine g_if_ge hE d_R_octet_14 (fun c10 => ?_) (fun c10 => ?_)
    · replace h := if_t c10 h
      refine g_aload_n (i := 0) hE d_R_octet_19 rfl rfl ?_
      refine g_iload_n (i := 1) hE d_R_octet_20 rfl rfl ?_
      obtain ⟨x5, d7, e6, h⟩ := bdD_s h
      refine g_callV (av := [.inr (.inr (some o)), .inl v1]) (as := [.inl v1]) (stk := []) [] hE (c_R_unit (xl X) (xG X) e6) ky_R_unit ⟨Nat.le_of_ble_eq_true rfl, Nat.le_of_ble_eq_true rfl⟩ rfl kc_R k1 m_504 m_505 m_506 rfl d_R_octet_21 rfl rfl ct_0 (Nat.zero_le _) (Nat.zero_le _) ?_
      refine gw.cs (c2 := 0) (s2 := 0) rfl rfl ?_
      refine g_aload_n (i := 0) hE d_R_octet_24 rfl rfl ?_
      refine g_iload_n (i := 2) hE d_R_octet_25 rfl rfl ?_
      obtain ⟨x8, e9, h⟩ := bd_s h
      refine g_callV (av := [.inr (.inr (some o)), .inl v2]) (as := [.inl v2]) (stk := [.int x8]) [] hE (c_R_unitByte (xl X) (xG X) e9) ky_R_unitByte ⟨Nat.le_of_ble_eq_true rfl, Nat.le_of_ble_eq_true rfl⟩ rfl kc_R k1 m_510 m_511 m_512 rfl d_R_octet_26 rfl rfl ct_0 (Nat.zero_le _) (Nat.zero_le _) ?_
      refine gw.cs (c2 := 0) (s2 := 0) rfl rfl ?_
      cases h
      exact g_iret hE d_R_octet_29 rfl rfl
    · replace h := if_f c10 h
      refine g_iconst hE d_R_octet_17 ki_m1 ?_
      cases h
      exact g_iret hE d_R_octet_18 rfl rfl
