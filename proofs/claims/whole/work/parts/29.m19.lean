theorem d_M_fitAnswer_0 : dc b_M_fitAnswer 0 (.aload_n 0) 1 1 := ⟨by decide +kernel, rfl⟩
theorem d_M_fitAnswer_1 : dc b_M_fitAnswer 1 (.ldc2_w 61) 3 4 := ⟨by decide +kernel, rfl⟩
theorem d_M_fitAnswer_4 : dc b_M_fitAnswer 4 (.putfield 63) 3 7 := ⟨by decide +kernel, rfl⟩
theorem d_M_fitAnswer_7 : dc b_M_fitAnswer 7 (.iload_n 1) 1 8 := ⟨by decide +kernel, rfl⟩
theorem d_M_fitAnswer_8 : db b_M_fitAnswer 8 (.ifCond .ne 5) 5 13 11 := ⟨by decide +kernel, by decide, rfl⟩
theorem d_M_fitAnswer_11 : dc b_M_fitAnswer 11 (.iconst 0) 1 12 := ⟨by decide +kernel, rfl⟩
theorem d_M_fitAnswer_12 : dc b_M_fitAnswer 12 (.ireturn) 1 13 := ⟨by decide +kernel, rfl⟩
theorem d_M_fitAnswer_13 : dc b_M_fitAnswer 13 (.iload_n 2) 1 14 := ⟨by decide +kernel, rfl⟩
theorem d_M_fitAnswer_14 : dc b_M_fitAnswer 14 (.iconst (-1)) 1 15 := ⟨by decide +kernel, rfl⟩
theorem d_M_fitAnswer_15 : db b_M_fitAnswer 15 (.if_icmp .ne 16) 16 31 18 := ⟨by decide +kernel, by decide, rfl⟩
theorem d_M_fitAnswer_18 : dc b_M_fitAnswer 18 (.iload_n 1) 1 19 := ⟨by decide +kernel, rfl⟩
theorem d_M_fitAnswer_19 : dc b_M_fitAnswer 19 (.invokestatic 375) 3 22 := ⟨by decide +kernel, rfl⟩
theorem d_M_fitAnswer_22 : db b_M_fitAnswer 22 (.ifCond .eq 7) 7 29 25 := ⟨by decide +kernel, by decide, rfl⟩
theorem d_M_fitAnswer_25 : dc b_M_fitAnswer 25 (.iconst 2) 1 26 := ⟨by decide +kernel, rfl⟩
theorem d_M_fitAnswer_26 : db b_M_fitAnswer 26 (.goto 4) 4 30 29 := ⟨by decide +kernel, by decide, rfl⟩
theorem d_M_fitAnswer_29 : dc b_M_fitAnswer 29 (.iconst 1) 1 30 := ⟨by decide +kernel, rfl⟩
theorem d_M_fitAnswer_30 : dc b_M_fitAnswer 30 (.ireturn) 1 31 := ⟨by decide +kernel, rfl⟩
theorem d_M_fitAnswer_31 : dc b_M_fitAnswer 31 (.iload_n 1) 1 32 := ⟨by decide +kernel, rfl⟩
theorem d_M_fitAnswer_32 : dc b_M_fitAnswer 32 (.invokestatic 375) 3 35 := ⟨by decide +kernel, rfl⟩
theorem d_M_fitAnswer_35 : db b_M_fitAnswer 35 (.ifCond .eq 10) 10 45 38 := ⟨by decide +kernel, by decide, rfl⟩
theorem d_M_fitAnswer_38 : dc b_M_fitAnswer 38 (.iload_n 1) 1 39 := ⟨by decide +kernel, rfl⟩
theorem d_M_fitAnswer_39 : dc b_M_fitAnswer 39 (.bipush 40) 2 41 := ⟨by decide +kernel, rfl⟩
theorem d_M_fitAnswer_41 : dc b_M_fitAnswer 41 (.iadd) 1 42 := ⟨by decide +kernel, rfl⟩
theorem d_M_fitAnswer_42 : db b_M_fitAnswer 42 (.goto 4) 4 46 45 := ⟨by decide +kernel, by decide, rfl⟩
theorem d_M_fitAnswer_45 : dc b_M_fitAnswer 45 (.iload_n 1) 1 46 := ⟨by decide +kernel, rfl⟩
theorem d_M_fitAnswer_46 : dc b_M_fitAnswer 46 (.istore_n 3) 1 47 := ⟨by decide +kernel, rfl⟩
theorem d_M_fitAnswer_47 : dc b_M_fitAnswer 47 (.aload_n 0) 1 48 := ⟨by decide +kernel, rfl⟩
theorem d_M_fitAnswer_48 : dc b_M_fitAnswer 48 (.getfield 10) 3 51 := ⟨by decide +kernel, rfl⟩
theorem d_M_fitAnswer_51 : dc b_M_fitAnswer 51 (.aload_n 0) 1 52 := ⟨by decide +kernel, rfl⟩
theorem d_M_fitAnswer_52 : dc b_M_fitAnswer 52 (.getfield 26) 3 55 := ⟨by decide +kernel, rfl⟩
theorem d_M_fitAnswer_55 : dc b_M_fitAnswer 55 (.iload_n 2) 1 56 := ⟨by decide +kernel, rfl⟩
theorem d_M_fitAnswer_56 : dc b_M_fitAnswer 56 (.iaload) 1 57 := ⟨by decide +kernel, rfl⟩
theorem d_M_fitAnswer_57 : dc b_M_fitAnswer 57 (.iload_n 3) 1 58 := ⟨by decide +kernel, rfl⟩
theorem d_M_fitAnswer_58 : dc b_M_fitAnswer 58 (.invokevirtual 191) 3 61 := ⟨by decide +kernel, rfl⟩
theorem d_M_fitAnswer_61 : db b_M_fitAnswer 61 (.ifCond .ne 5) 5 66 64 := ⟨by decide +kernel, by decide, rfl⟩
theorem d_M_fitAnswer_64 : dc b_M_fitAnswer 64 (.iconst 3) 1 65 := ⟨by decide +kernel, rfl⟩
theorem d_M_fitAnswer_65 : dc b_M_fitAnswer 65 (.ireturn) 1 66 := ⟨by decide +kernel, rfl⟩
theorem d_M_fitAnswer_66 : dc b_M_fitAnswer 66 (.aload_n 0) 1 67 := ⟨by decide +kernel, rfl⟩
theorem d_M_fitAnswer_67 : dc b_M_fitAnswer 67 (.iload_n 1) 1 68 := ⟨by decide +kernel, rfl⟩
theorem d_M_fitAnswer_68 : dc b_M_fitAnswer 68 (.invokestatic 375) 3 71 := ⟨by decide +kernel, rfl⟩
theorem d_M_fitAnswer_71 : db b_M_fitAnswer 71 (.ifCond .eq 12) 12 83 74 := ⟨by decide +kernel, by decide, rfl⟩
theorem d_M_fitAnswer_74 : dc b_M_fitAnswer 74 (.aload_n 0) 1 75 := ⟨by decide +kernel, rfl⟩
theorem d_M_fitAnswer_75 : dc b_M_fitAnswer 75 (.getfield 29) 3 78 := ⟨by decide +kernel, rfl⟩
theorem d_M_fitAnswer_78 : dc b_M_fitAnswer 78 (.iload_n 2) 1 79 := ⟨by decide +kernel, rfl⟩
theorem d_M_fitAnswer_79 : dc b_M_fitAnswer 79 (.laload) 1 80 := ⟨by decide +kernel, rfl⟩
theorem d_M_fitAnswer_80 : db b_M_fitAnswer 80 (.goto 5) 5 85 83 := ⟨by decide +kernel, by decide, rfl⟩
theorem d_M_fitAnswer_83 : dc b_M_fitAnswer 83 (.iload_n 2) 1 84 := ⟨by decide +kernel, rfl⟩
theorem d_M_fitAnswer_84 : dc b_M_fitAnswer 84 (.i2l) 1 85 := ⟨by decide +kernel, rfl⟩
theorem d_M_fitAnswer_85 : dc b_M_fitAnswer 85 (.putfield 63) 3 88 := ⟨by decide +kernel, rfl⟩
theorem d_M_fitAnswer_88 : dc b_M_fitAnswer 88 (.iconst 1) 1 89 := ⟨by decide +kernel, rfl⟩
theorem d_M_fitAnswer_89 : dc b_M_fitAnswer 89 (.ireturn) 1 90 := ⟨by decide +kernel, rfl⟩
def f_M_fitAnswer_J85 (S : gS) (o : Nat) (d : gD) (u0 : Option Nat) (u1 : Int64) : Option (Int32 × gD) :=
  nn u0 fun a1 =>
  kd S a1 1 <|
  lt_ (wL d a1 15 u1) fun d3 =>
  some (1, d3)
set_option maxRecDepth 100000 in
set_option maxHeartbeats 4000000 in
theorem w_M_fitAnswer_J85 {X : GX} (hE : gE X b_M_fitAnswer 4 "StandInMill" (some (.int)) "fitAnswer" 2 43) {S : gS} {o : Nat} {r : Int32} {d' : gD} :
    ∀ (d : gD) (u0 : Option Nat) (u1 : Int64), f_M_fitAnswer_J85 S o d u0 u1 = some (r, d') → gw X 0 0 (gQ X (some (.int r)) S d' 0 0) S d 85 [some (va_rf (some o)), none, none, none] [.long u1, va_rf u0] := by
  intro d u0 u1 h
  unfold f_M_fitAnswer_J85 at h
  obtain ⟨a1, rfl, h⟩ := nn_s h
  obtain ⟨k2, h⟩ := kd_s h
  refine g_putL 15 hE kc_M k2 (Nat.le_of_ble_eq_true rfl) rfl m_63 rfl (by decide +kernel) d_M_fitAnswer_85 (fun d3 e => ?_)
  replace h := lt_i e h; clear e
  refine g_iconst hE d_M_fitAnswer_88 ki_1 ?_
  cases h
  exact g_iret hE d_M_fitAnswer_89 rfl rfl
def f_M_fitAnswer_J46 (S : gS) (o : Nat) (d : gD) (v1 : Int32) (v2 : Int32) (u0 : Int32) : Option (Int32 × gD) :=
  kd S o 1 <|
  lt_ (sP S o 0) fun x2 =>
  lt_ (sP S o 5) fun x3 =>
  nn x3 fun a4 =>
  kd S a4 50 <|
  gi v2 (sN S a4) <|
  lt_ (dI d a4 v2.toNatClampNeg) fun x7 =>
  nn x2 fun a8 =>
  kd S a8 8 <|
  bd (f_Ty_isBelow S d a8 x7 u0) fun x10 =>
  if x10 = 0 then (
    some (3, d))
  else (
    bd (f_M_isPlain S d v1) fun x12 =>
    if x12 = 0 then (
      f_M_fitAnswer_J85 S o d (some o) (Int32.toInt64 v2))
    else (
      lt_ (sP S o 6) fun x14 =>
      nn x14 fun a15 =>
      kd S a15 51 <|
      gi v2 (sN S a15) <|
      lt_ (dL d a15 v2.toNatClampNeg) fun x18 =>
      f_M_fitAnswer_J85 S o d (some o) x18))
set_option maxRecDepth 100000 in
set_option maxHeartbeats 4000000 in
theorem w_M_fitAnswer_J46 {X : GX} (hE : gE X b_M_fitAnswer 4 "StandInMill" (some (.int)) "fitAnswer" 2 43) {S : gS} {o : Nat} {r : Int32} {d' : gD} :
    ∀ (d : gD) (v1 : Int32) (v2 : Int32) (u0 : Int32), f_M_fitAnswer_J46 S o d v1 v2 u0 = some (r, d') → gw X 0 0 (gQ X (some (.int r)) S d' 0 0) S d 46 [some (va_rf (some o)), some (.int v1), some (.int v2), none] [.int u0] := by
  intro d v1 v2 u0 h
  unfold f_M_fitAnswer_J46 at h
  refine g_istore_n (i := 3) (lv' := [some (va_rf (some o)), some (.int v1), some (.int v2), some (.int u0)]) hE d_M_fitAnswer_46 rfl (Nat.le_of_ble_eq_true rfl) ⟨rfl, Nat.le_of_ble_eq_true rfl⟩ (lvp_i rfl) ?_
  refine g_aload_n (i := 0) hE d_M_fitAnswer_47 rfl rfl ?_
  obtain ⟨k1, h⟩ := kd_s h
  refine g_getR 0 hE kc_M k1 (Nat.le_of_ble_eq_true rfl) rfl m_41 d_M_fitAnswer_48 (fun x2 e => ?_)
  replace h := lt_i e h; clear e
  refine g_aload_n (i := 0) hE d_M_fitAnswer_51 rfl rfl ?_
  refine g_getR 5 hE kc_M k1 (Nat.le_of_ble_eq_true rfl) rfl m_45 d_M_fitAnswer_52 (fun x3 e => ?_)
  replace h := lt_i e h; clear e
  refine g_iload_n (i := 2) hE d_M_fitAnswer_55 rfl rfl ?_
  obtain ⟨a4, rfl, h⟩ := nn_s h
  obtain ⟨k5, h⟩ := kd_s h
  obtain ⟨g6, h⟩ := gi_s h
  refine g_iald hE k5 g6 d_M_fitAnswer_56 (fun x7 e => ?_)
  replace h := lt_i e h; clear e
  refine g_iload_n (i := 3) hE d_M_fitAnswer_57 rfl rfl ?_
  obtain ⟨a8, rfl, h⟩ := nn_s h
  obtain ⟨k9, h⟩ := kd_s h
  obtain ⟨x10, e11, h⟩ := bd_s h
  refine g_callV (av := [.inr (.inr (some a8)), .inl x7, .inl u0]) (as := [.inl x7, .inl u0]) (stk := [.int x10]) [] hE (c_Ty_isBelow (xl X) (xG X) e11) ky_Ty_isBelow ⟨Nat.le_of_ble_eq_true rfl, Nat.le_of_ble_eq_true rfl⟩ rfl kc_Ty k9 m_165 m_109 m_110 rfl d_M_fitAnswer_58 rfl rfl ct_0 (Nat.zero_le _) (Nat.zero_le _) ?_
  refine gw.cs (c2 := 0) (s2 := 0) rfl rfl ?_
  refine g_if_ne hE d_M_fitAnswer_61 (fun c20 => ?_) (fun c20 => ?_)
  · replace h := if_f c20 h
    refine g_aload_n (i := 0) hE d_M_fitAnswer_66 rfl rfl ?_
    refine g_iload_n (i := 1) hE d_M_fitAnswer_67 rfl rfl ?_
    obtain ⟨x12, e13, h⟩ := bd_s h
    refine g_callS (av := [.inl v1]) (stk := [.int x12, va_rf (some o)]) [va_rf (some o)] hE (c_M_isPlain (xl X) (xG X) e13) ky_M_isPlain ⟨Nat.le_of_ble_eq_true rfl, Nat.le_of_ble_eq_true rfl⟩ m_355 m_130 rfl d_M_fitAnswer_68 rfl rfl (Nat.le_trans (ct_r ct_n) (Nat.le_of_ble_eq_true rfl)) (Nat.zero_le _) (Nat.zero_le _) ?_
    refine gw.cs (c2 := 0) (s2 := 0) rfl rfl ?_
    refine g_if_eq hE d_M_fitAnswer_71 (fun c19 => ?_) (fun c19 => ?_)
    · replace h := if_t c19 h
      refine g_iload_n (i := 2) hE d_M_fitAnswer_83 rfl rfl ?_
      refine g_i2l hE d_M_fitAnswer_84 ?_
      exact gw.less (lv' := [some (va_rf (some o)), none, none, none]) (And.intro rfl trivial) (w_M_fitAnswer_J85 hE d (some o) (Int32.toInt64 v2) h)
    · replace h := if_f c19 h
      refine g_aload_n (i := 0) hE d_M_fitAnswer_74 rfl rfl ?_
      refine g_getR 6 hE kc_M k1 (Nat.le_of_ble_eq_true rfl) rfl m_46 d_M_fitAnswer_75 (fun x14 e => ?_)
      replace h := lt_i e h; clear e
      refine g_iload_n (i := 2) hE d_M_fitAnswer_78 rfl rfl ?_
      obtain ⟨a15, rfl, h⟩ := nn_s h
      obtain ⟨k16, h⟩ := kd_s h
      obtain ⟨g17, h⟩ := gi_s h
      refine g_lald hE k16 g17 d_M_fitAnswer_79 (fun x18 e => ?_)
      replace h := lt_i e h; clear e
      refine g_goto hE d_M_fitAnswer_80 ?_
      exact gw.less (lv' := [some (va_rf (some o)), none, none, none]) (And.intro rfl trivial) (w_M_fitAnswer_J85 hE d (some o) x18 h)
  · replace h := if_t c20 h
    refine g_iconst hE d_M_fitAnswer_64 ki_3 ?_
    cases h
    exact g_iret hE d_M_fitAnswer_65 rfl rfl
set_option maxRecDepth 100000 in
def f_M_fitAnswer (S : gS) (d : gD) (o : Nat) (v1 : Int32) (v2 : Int32) : Option (Int32 × gD) :=
  kd S o 1 <|
  lt_ (wL d o 15 (-1)) fun d2 =>
  if v1 = 0 then (
    some (0, d2))
  else (
    if v2 = (-1) then (
      bd (f_M_isPlain S d2 v1) fun x6 =>
      if x6 = 0 then (
        some (1, d2))
      else (
        some (2, d2)))
    else (
      bd (f_M_isPlain S d2 v1) fun x3 =>
      if x3 = 0 then (
        f_M_fitAnswer_J46 S o d2 v1 v2 v1)
      else (
        f_M_fitAnswer_J46 S o d2 v1 v2 (v1 + 40))))
set_option maxRecDepth 100000 in
set_option maxHeartbeats 4000000 in
theorem c_M_fitAnswer (l : Launch) (G : gG) {S : gS} {d : gD} {o : Nat} {v1 : Int32} {v2 : Int32} {r : Int32} {d' : gD} (h : f_M_fitAnswer S d o v1 v2 = some (r, d')) : GM l G y_M_fitAnswer b_M_fitAnswer 4 (some (.int)) 2 43 0 0 [.inr (.inr (some o)), .inl v1, .inl v2] S d (some (.int r)) S d' := by
  refine GM.of (by decide) (Nat.le_of_ble_eq_true rfl) ?_
  intro X hl0 hG0 hR0 hE0
  have hE : gE X b_M_fitAnswer 4 "StandInMill" (some (.int)) "fitAnswer" 2 43 := hE0
  unfold f_M_fitAnswer at h
  refine gw.less (lv' := [some (va_rf (some o)), some (.int v1), some (.int v2), none]) (And.intro rfl (And.intro rfl (And.intro rfl trivial))) ?_
  refine g_aload_n (i := 0) hE d_M_fitAnswer_0 rfl rfl ?_
  refine g_ldc2 hE d_M_fitAnswer_1 m_62 ?_
  obtain ⟨k1, h⟩ := kd_s h
  refine g_putL 15 hE kc_M k1 (Nat.le_of_ble_eq_true rfl) rfl m_63 rfl (by decide +kernel) d_M_fitAnswer_4 (fun d2 e => ?_)
  replace h := lt_i e h; clear e
  refine g_iload_n (i := 1) hE d_M_fitAnswer_7 rfl rfl ?_
  refine g_if_ne hE d_M_fitAnswer_8 (fun c10 => ?_) (fun c10 => ?_)
  · replace h := if_f c10 h
    refine g_iload_n (i := 2) hE d_M_fitAnswer_13 rfl rfl ?_
    refine g_iconst hE d_M_fitAnswer_14 ki_m1 ?_
    refine g_icmp_ne hE d_M_fitAnswer_15 (fun c9 => ?_) (fun c9 => ?_)
    · replace h := if_f c9 h
      refine g_iload_n (i := 1) hE d_M_fitAnswer_31 rfl rfl ?_
      obtain ⟨x3, e4, h⟩ := bd_s h
      refine g_callS (av := [.inl v1]) (stk := [.int x3]) [] hE (c_M_isPlain (xl X) (xG X) e4) ky_M_isPlain ⟨Nat.le_of_ble_eq_true rfl, Nat.le_of_ble_eq_true rfl⟩ m_355 m_130 rfl d_M_fitAnswer_32 rfl rfl ct_0 (Nat.zero_le _) (Nat.zero_le _) ?_
      refine gw.cs (c2 := 0) (s2 := 0) rfl rfl ?_
      refine g_if_eq hE d_M_fitAnswer_35 (fun c5 => ?_) (fun c5 => ?_)
      · replace h := if_t c5 h
        refine g_iload_n (i := 1) hE d_M_fitAnswer_45 rfl rfl ?_
        exact gw.less (lv' := [some (va_rf (some o)), some (.int v1), some (.int v2), none]) (And.intro rfl (And.intro rfl (And.intro rfl trivial))) (w_M_fitAnswer_J46 hE d2 v1 v2 v1 h)
      · replace h := if_f c5 h
        refine g_iload_n (i := 1) hE d_M_fitAnswer_38 rfl rfl ?_
        refine g_bipush hE d_M_fitAnswer_39 kb_40 ?_
        refine g_iadd hE d_M_fitAnswer_41 ?_
        refine g_goto hE d_M_fitAnswer_42 ?_
        exact gw.less (lv' := [some (va_rf (some o)), some (.int v1), some (.int v2), none]) (And.intro rfl (And.intro rfl (And.intro rfl trivial))) (w_M_fitAnswer_J46 hE d2 v1 v2 (v1 + 40) h)
    · replace h := if_t c9 h
      refine g_iload_n (i := 1) hE d_M_fitAnswer_18 rfl rfl ?_
      obtain ⟨x6, e7, h⟩ := bd_s h
      refine g_callS (av := [.inl v1]) (stk := [.int x6]) [] hE (c_M_isPlain (xl X) (xG X) e7) ky_M_isPlain ⟨Nat.le_of_ble_eq_true rfl, Nat.le_of_ble_eq_true rfl⟩ m_355 m_130 rfl d_M_fitAnswer_19 rfl rfl ct_0 (Nat.zero_le _) (Nat.zero_le _) ?_
      refine gw.cs (c2 := 0) (s2 := 0) rfl rfl ?_
      refine g_if_eq hE d_M_fitAnswer_22 (fun c8 => ?_) (fun c8 => ?_)
      · replace h := if_t c8 h
        refine g_iconst hE d_M_fitAnswer_29 ki_1 ?_
        cases h
        exact g_iret hE d_M_fitAnswer_30 rfl rfl
      · replace h := if_f c8 h
        refine g_iconst hE d_M_fitAnswer_25 ki_2 ?_
        refine g_goto hE d_M_fitAnswer_26 ?_
        cases h
        exact g_iret hE d_M_fitAnswer_30 rfl rfl
  · replace h := if_t c10 h
    refine g_iconst hE d_M_fitAnswer_11 ki_0 ?_
    cases h
    exact g_iret hE d_M_fitAnswer_12 rfl rfl
theorem d_M_call_0 : dc b_M_call 0 (.aload_n 0) 1 1 := ⟨by decide +kernel, rfl⟩
theorem d_M_call_1 : dc b_M_call 1 (.iload_n 1) 1 2 := ⟨by decide +kernel, rfl⟩
theorem d_M_call_2 : dc b_M_call 2 (.iload_n 2) 1 3 := ⟨by decide +kernel, rfl⟩
theorem d_M_call_3 : dc b_M_call 3 (.invokevirtual 249) 3 6 := ⟨by decide +kernel, rfl⟩
theorem d_M_call_6 : db b_M_call 6 (.ifCond .ne 14) 14 20 9 := ⟨by decide +kernel, by decide, rfl⟩
theorem d_M_call_9 : dc b_M_call 9 (.new 200) 3 12 := ⟨by decide +kernel, rfl⟩
theorem d_M_call_12 : dc b_M_call 12 (.dup) 1 13 := ⟨by decide +kernel, rfl⟩
theorem d_M_call_13 : dc b_M_call 13 (.ldc_w 287) 3 16 := ⟨by decide +kernel, rfl⟩
theorem d_M_call_16 : dc b_M_call 16 (.invokespecial 204) 3 19 := ⟨by decide +kernel, rfl⟩
theorem d_M_call_19 : dc b_M_call 19 (.athrow) 1 20 := ⟨by decide +kernel, rfl⟩
theorem d_M_call_20 : dc b_M_call 20 (.aload_n 0) 1 21 := ⟨by decide +kernel, rfl⟩
theorem d_M_call_21 : dc b_M_call 21 (.getfield 41) 3 24 := ⟨by decide +kernel, rfl⟩
theorem d_M_call_24 : dc b_M_call 24 (.iload_n 1) 1 25 := ⟨by decide +kernel, rfl⟩
theorem d_M_call_25 : dc b_M_call 25 (.aaload) 1 26 := ⟨by decide +kernel, rfl⟩
theorem d_M_call_26 : dc b_M_call 26 (.astore 9) 2 28 := ⟨by decide +kernel, rfl⟩
theorem d_M_call_28 : dc b_M_call 28 (.aload 9) 2 30 := ⟨by decide +kernel, rfl⟩
theorem d_M_call_30 : dc b_M_call 30 (.getfield 244) 3 33 := ⟨by decide +kernel, rfl⟩
theorem d_M_call_33 : dc b_M_call 33 (.iload_n 2) 1 34 := ⟨by decide +kernel, rfl⟩
theorem d_M_call_34 : dc b_M_call 34 (.aaload) 1 35 := ⟨by decide +kernel, rfl⟩
theorem d_M_call_35 : dc b_M_call 35 (.astore 10) 2 37 := ⟨by decide +kernel, rfl⟩
theorem d_M_call_37 : dc b_M_call 37 (.aload_n 0) 1 38 := ⟨by decide +kernel, rfl⟩
theorem d_M_call_38 : dc b_M_call 38 (.getfield 67) 3 41 := ⟨by decide +kernel, rfl⟩
theorem d_M_call_41 : dc b_M_call 41 (.iconst 0) 1 42 := ⟨by decide +kernel, rfl⟩
theorem d_M_call_42 : dc b_M_call 42 (.lload_n 3) 1 43 := ⟨by decide +kernel, rfl⟩
theorem d_M_call_43 : dc b_M_call 43 (.lastore) 1 44 := ⟨by decide +kernel, rfl⟩
theorem d_M_call_44 : dc b_M_call 44 (.aload_n 0) 1 45 := ⟨by decide +kernel, rfl⟩
theorem d_M_call_45 : dc b_M_call 45 (.getfield 67) 3 48 := ⟨by decide +kernel, rfl⟩
theorem d_M_call_48 : dc b_M_call 48 (.iconst 1) 1 49 := ⟨by decide +kernel, rfl⟩
theorem d_M_call_49 : dc b_M_call 49 (.lload 5) 2 51 := ⟨by decide +kernel, rfl⟩
theorem d_M_call_51 : dc b_M_call 51 (.lastore) 1 52 := ⟨by decide +kernel, rfl⟩
theorem d_M_call_52 : dc b_M_call 52 (.aload_n 0) 1 53 := ⟨by decide +kernel, rfl⟩
theorem d_M_call_53 : dc b_M_call 53 (.getfield 67) 3 56 := ⟨by decide +kernel, rfl⟩
theorem d_M_call_56 : dc b_M_call 56 (.iconst 2) 1 57 := ⟨by decide +kernel, rfl⟩
theorem d_M_call_57 : dc b_M_call 57 (.lload 7) 2 59 := ⟨by decide +kernel, rfl⟩
theorem d_M_call_59 : dc b_M_call 59 (.lastore) 1 60 := ⟨by decide +kernel, rfl⟩
theorem d_M_call_60 : dc b_M_call 60 (.aload_n 0) 1 61 := ⟨by decide +kernel, rfl⟩
theorem d_M_call_61 : dc b_M_call 61 (.aload 10) 2 63 := ⟨by decide +kernel, rfl⟩
theorem d_M_call_63 : dc b_M_call 63 (.getfield 252) 3 66 := ⟨by decide +kernel, rfl⟩
theorem d_M_call_66 : dc b_M_call 66 (.invokevirtual 289) 3 69 := ⟨by decide +kernel, rfl⟩
theorem d_M_call_69 : db b_M_call 69 (.ifCond .ne 14) 14 83 72 := ⟨by decide +kernel, by decide, rfl⟩
theorem d_M_call_72 : dc b_M_call 72 (.new 221) 3 75 := ⟨by decide +kernel, rfl⟩
theorem d_M_call_75 : dc b_M_call 75 (.dup) 1 76 := ⟨by decide +kernel, rfl⟩
theorem d_M_call_76 : dc b_M_call 76 (.ldc_w 293) 3 79 := ⟨by decide +kernel, rfl⟩
theorem d_M_call_79 : dc b_M_call 79 (.invokespecial 225) 3 82 := ⟨by decide +kernel, rfl⟩
theorem d_M_call_82 : dc b_M_call 82 (.athrow) 1 83 := ⟨by decide +kernel, rfl⟩
theorem d_M_call_83 : dc b_M_call 83 (.aload_n 0) 1 84 := ⟨by decide +kernel, rfl⟩
theorem d_M_call_84 : dc b_M_call 84 (.aload 10) 2 86 := ⟨by decide +kernel, rfl⟩
theorem d_M_call_86 : dc b_M_call 86 (.getfield 252) 3 89 := ⟨by decide +kernel, rfl⟩
theorem d_M_call_89 : dc b_M_call 89 (.invokevirtual 295) 3 92 := ⟨by decide +kernel, rfl⟩
theorem d_M_call_92 : dc b_M_call 92 (.aload 9) 2 94 := ⟨by decide +kernel, rfl⟩
theorem d_M_call_94 : dc b_M_call 94 (.getfield 284) 3 97 := ⟨by decide +kernel, rfl⟩
theorem d_M_call_97 : db b_M_call 97 (.ifCond .eq 17) 17 114 100 := ⟨by decide +kernel, by decide, rfl⟩
theorem d_M_call_100 : dc b_M_call 100 (.aload_n 0) 1 101 := ⟨by decide +kernel, rfl⟩
theorem d_M_call_101 : dc b_M_call 101 (.aload 10) 2 103 := ⟨by decide +kernel, rfl⟩
theorem d_M_call_103 : dc b_M_call 103 (.aload 9) 2 105 := ⟨by decide +kernel, rfl⟩
theorem d_M_call_105 : dc b_M_call 105 (.getfield 281) 3 108 := ⟨by decide +kernel, rfl⟩
theorem d_M_call_108 : dc b_M_call 108 (.invokevirtual 298) 3 111 := ⟨by decide +kernel, rfl⟩
theorem d_M_call_111 : db b_M_call 111 (.goto 20) 20 131 114 := ⟨by decide +kernel, by decide, rfl⟩
theorem d_M_call_114 : dc b_M_call 114 (.aload_n 0) 1 115 := ⟨by decide +kernel, rfl⟩
theorem d_M_call_115 : dc b_M_call 115 (.aload 10) 2 117 := ⟨by decide +kernel, rfl⟩
theorem d_M_call_117 : dc b_M_call 117 (.getfield 252) 3 120 := ⟨by decide +kernel, rfl⟩
theorem d_M_call_120 : dc b_M_call 120 (.getfield 268) 3 123 := ⟨by decide +kernel, rfl⟩
theorem d_M_call_123 : dc b_M_call 123 (.aload 9) 2 125 := ⟨by decide +kernel, rfl⟩
theorem d_M_call_125 : dc b_M_call 125 (.getfield 281) 3 128 := ⟨by decide +kernel, rfl⟩
theorem d_M_call_128 : dc b_M_call 128 (.invokevirtual 302) 3 131 := ⟨by decide +kernel, rfl⟩
theorem d_M_call_131 : dc b_M_call 131 (.ireturn) 1 132 := ⟨by decide +kernel, rfl⟩
set_option maxRecDepth 100000 in
def f_M_call (S : gS) (d : gD) (o : Nat) (v1 : Int32) (v2 : Int32) (v3 : Int64) (v5 : Int64) (v7 : Int64) : Option (((Int32 ⊕ Nat) × gS × gD) × Nat × Nat) :=
  kd S o 1 <|
  bd (f_M_hasMethod S d o v1 v2) fun x2 =>
  if x2 = 0 then (
    ac 1 6 <|
    some ((.inr 1, nZ S, d), 0, 0))
  else (
    lt_ (sP S o 9) fun x4 =>
    nn x4 fun a5 =>
    kd S a5 62 <|
    gi v1 (sN S a5) <|
    lt_ (sP S a5 v1.toNatClampNeg) fun x8 =>
    nn x8 fun a9 =>
    kd S a9 6 <|
    lt_ (sP S a9 4) fun x11 =>
    nn x11 fun a12 =>
    kd S a12 63 <|
    gi v2 (sN S a12) <|
    lt_ (sP S a12 v2.toNatClampNeg) fun x15 =>
    lt_ (sP S o 16) fun x16 =>
    nn x16 fun a17 =>
    kd S a17 51 <|
    gi 0 (sN S a17) <|
    lt_ (wL d a17 (0 : Int32).toNatClampNeg v3) fun d20 =>
    lt_ (sP S o 16) fun x21 =>
    nn x21 fun a22 =>
    kd S a22 51 <|
    gi 1 (sN S a22) <|
    lt_ (wL d20 a22 (1 : Int32).toNatClampNeg v5) fun d25 =>
    lt_ (sP S o 16) fun x26 =>
    nn x26 fun a27 =>
    kd S a27 51 <|
    gi 2 (sN S a27) <|
    lt_ (wL d25 a27 (2 : Int32).toNatClampNeg v7) fun d30 =>
    nn x15 fun a31 =>
    kd S a31 7 <|
    lt_ (sP S a31 0) fun x33 =>
    bd (f_M_takesGiven S d30 o x33) fun x34 =>
    if x34 = 0 then (
      ac 1 6 <|
      some ((.inr 2, nZ S, d30), 0, 0))
    else (
      lt_ (sP S a31 0) fun x36 =>
      bdD (f_M_showHandler S d30 o x36) fun _ d39 =>
      lt_ (dI d39 a9 7) fun x40 =>
      if x40 = 0 then (
        lt_ (sP S a31 0) fun x41 =>
        nn x41 fun a42 =>
        kd S a42 5 <|
        lt_ (dI d39 a42 4) fun x44 =>
        lt_ (dI d39 a9 6) fun x45 =>
        bdD (f_M_fitAnswer S d39 o x44 x45) fun x46 d48 =>
        some ((.inl x46, S, d48), 0, 0))
      else (
        lt_ (dI d39 a9 6) fun x49 =>
        bdD (f_M_fitThrown S d39 o (some a31) x49) fun x50 d52 =>
        some ((.inl x50, S, d52), 0, 0))))
set_option maxRecDepth 100000 in
set_option maxHeartbeats 4000000 in
theorem c_M_call (l : Launch) (G : gG) {S : gS} {d : gD} {o : Nat} {v1 : Int32} {v2 : Int32} {v3 : Int64} {v5 : Int64} {v7 : Int64} {r : Int32} {d' : gD} {S' : gS} {dc ds : Nat} (h : f_M_call S d o v1 v2 v3 v5 v7 = some ((.inl r, S', d'), dc, ds)) : GM l G y_M_call b_M_call 11 (some (.int)) 6 89 dc ds [.inr (.inr (some o)), .inl v1, .inl v2, .inr (.inl v3), .inr (.inl v5), .inr (.inl v7)] S d (some (.int r)) S' d' := by
  refine GM.of (by decide) (Nat.le_of_ble_eq_true rfl) ?_
  intro X hl0 hG0 hR0 hE0
  have hE : gE X b_M_call 11 "StandInMill" (some (.int)) "call" 6 89 := hE0
  have hmc : (xR X).cells = dc := by rw [hR0]
  have hms : (xR X).slots = ds := by rw [hR0]
  obtain ⟨mc, emc⟩ : ∃ z, z = dc := ⟨_, rfl⟩
  obtain ⟨ms, ems⟩ : ∃ z, z = ds := ⟨_, rfl⟩
  rw [← emc] at hmc
  rw [← ems] at hms
  have hc : 0 + dc = mc := by omega
  have hs : 0 + ds = ms := by omega
  show gw X 0 0 (gQ X _ _ _ dc ds) _ _ _ _ _
  rw [← emc, ← ems]
  clear hR0 emc ems
  unfold f_M_call at h
  refine gw.less (lv' := [some (va_rf (some o)), some (.int v1), some (.int v2), some (.long v3), none, some (.long v5), none, some (.long v7), none, none, none]) (And.intro rfl (And.intro rfl (And.intro rfl (And.intro rfl (And.intro rfl (And.intro rfl trivial)))))) ?_
  refine g_aload_n (i := 0) hE d_M_call_0 rfl rfl ?_
  refine g_iload_n (i := 1) hE d_M_call_1 rfl rfl ?_
  refine g_iload_n (i := 2) hE d_M_call_2 rfl rfl ?_
  obtain ⟨k1, h⟩ := kd_s h
  obtain ⟨x2, e3, h⟩ := bd_s h
  refine g_callV (av := [.inr (.inr (some o)), .inl v1, .inl v2]) (as := [.inl v1, .inl v2]) (stk := [.int x2]) [] hE (c_M_hasMethod (xl X) (xG X) e3) ky_M_hasMethod ⟨Nat.le_of_ble_eq_true rfl, Nat.le_of_ble_eq_true rfl⟩ rfl kc_M k1 m_350 m_351 m_352 rfl d_M_call_3 rfl rfl ct_0 (cnt_room0 hmc hc) (cnt_room0 hms hs) ?_
  refine gw.cs (c2 := 0) (s2 := 0) rfl rfl ?_
  refine g_if_ne hE d_M_call_6 (fun c55 => ?_) (fun c55 => ?_)
  · replace h := if_f c55 h
    refine g_aload_n (i := 0) hE d_M_call_20 rfl rfl ?_
    refine g_getR 9 hE kc_M k1 (Nat.le_of_ble_eq_true rfl) rfl m_50 d_M_call_21 (fun x4 e => ?_)
    replace h := lt_i e h; clear e
    refine g_iload_n (i := 1) hE d_M_call_24 rfl rfl ?_
    obtain ⟨a5, rfl, h⟩ := nn_s h
    obtain ⟨k6, h⟩ := kd_s h
    obtain ⟨g7, h⟩ := gi_s h
    refine g_aald hE k6 (by decide) rfl (fun _ => rfl) g7 d_M_call_25 (fun x8 e => ?_)
    replace h := lt_i e h; clear e
    refine g_astore (i := 9) (lv' := [some (va_rf (some o)), some (.int v1), some (.int v2), some (.long v3), none, some (.long v5), none, some (.long v7), none, some (va_rf x8), none]) hE d_M_call_26 (Nat.le_of_ble_eq_true rfl) ⟨rfl, Nat.le_of_ble_eq_true rfl⟩ (lvp_n rfl) ?_
    refine g_aload (i := 9) hE d_M_call_28 rfl ?_
    obtain ⟨a9, rfl, h⟩ := nn_s h
    obtain ⟨k10, h⟩ := kd_s h
    refine g_getRN 4 hE kc_Si k10 (Nat.le_of_ble_eq_true rfl) rfl nf_28 d_M_call_30 (fun x11 e => ?_)
    replace h := lt_i e h; clear e
    refine g_iload_n (i := 2) hE d_M_call_33 rfl rfl ?_
    obtain ⟨a12, rfl, h⟩ := nn_s h
    obtain ⟨k13, h⟩ := kd_s h
    obtain ⟨g14, h⟩ := gi_s h
    refine g_aald hE k13 (by decide) rfl (fun _ => rfl) g14 d_M_call_34 (fun x15 e => ?_)
    replace h := lt_i e h; clear e
    refine g_astore (i := 10) (lv' := [some (va_rf (some o)), some (.int v1), some (.int v2), some (.long v3), none, some (.long v5), none, some (.long v7), none, some (va_rf (some a9)), some (va_rf x15)]) hE d_M_call_35 (Nat.le_of_ble_eq_true rfl) ⟨rfl, Nat.le_of_ble_eq_true rfl⟩ (lvp_r rfl) ?_
    refine g_aload_n (i := 0) hE d_M_call_37 rfl rfl ?_
    refine g_getR 16 hE kc_M k1 (Nat.le_of_ble_eq_true rfl) rfl m_64 d_M_call_38 (fun x16 e => ?_)
    replace h := lt_i e h; clear e
    refine g_iconst hE d_M_call_41 ki_0 ?_
    refine g_lload_n (i := 3) hE d_M_call_42 rfl rfl ?_
    obtain ⟨a17, rfl, h⟩ := nn_s h
    obtain ⟨k18, h⟩ := kd_s h
    obtain ⟨g19, h⟩ := gi_s h
    refine g_last hE k18 g19 d_M_call_43 (fun d20 e => ?_)
    replace h := lt_i e h; clear e
    refine g_aload_n (i := 0) hE d_M_call_44 rfl rfl ?_
    refine g_getR 16 hE kc_M k1 (Nat.le_of_ble_eq_true rfl) rfl m_64 d_M_call_45 (fun x21 e => ?_)
    replace h := lt_i e h; clear e
    refine g_iconst hE d_M_call_48 ki_1 ?_
    refine g_lload (i := 5) hE d_M_call_49 rfl ?_
    obtain ⟨a22, rfl, h⟩ := nn_s h
    obtain ⟨k23, h⟩ := kd_s h
    obtain ⟨g24, h⟩ := gi_s h
    refine g_last hE k23 g24 d_M_call_51 (fun d25 e => ?_)
    replace h := lt_i e h; clear e
    refine g_aload_n (i := 0) hE d_M_call_52 rfl rfl ?_
    refine g_getR 16 hE kc_M k1 (Nat.le_of_ble_eq_true rfl) rfl m_64 d_M_call_53 (fun x26 e => ?_)
    replace h := lt_i e h; clear e
    refine g_iconst hE d_M_call_56 ki_2 ?_
    refine g_lload (i := 7) hE d_M_call_57 rfl ?_
    obtain ⟨a27, rfl, h⟩ := nn_s h
    obtain ⟨k28, h⟩ := kd_s h
    obtain ⟨g29, h⟩ := gi_s h
    refine g_last hE k28 g29 d_M_call_59 (fun d30 e => ?_)
    replace h := lt_i e h; clear e
    refine g_aload_n (i := 0) hE d_M_call_60 rfl rfl ?_
    refine g_aload (i := 10) hE d_M_call_61 rfl ?_
    obtain ⟨a31, rfl, h⟩ := nn_s h
    obtain ⟨k32, h⟩ := kd_s h
    refine g_getRN 0 hE kc_Sm k32 (Nat.le_of_ble_eq_true rfl) rfl nf_44 d_M_call_63 (fun x33 e => ?_)
    replace h := lt_i e h; clear e
    obtain ⟨x34, e35, h⟩ := bd_s h
    refine g_callV (av := [.inr (.inr (some o)), .inr (.inr x33)]) (as := [.inr (.inr x33)]) (stk := [.int x34]) [] hE (c_M_takesGiven (xl X) (xG X) e35) ky_M_takesGiven ⟨Nat.le_of_ble_eq_true rfl, Nat.le_of_ble_eq_true rfl⟩ rfl kc_M k1 m_363 m_364 m_365 rfl d_M_call_66 rfl rfl ct_0 (cnt_room0 hmc hc) (cnt_room0 hms hs) ?_
    refine gw.cs (c2 := 0) (s2 := 0) rfl rfl ?_
    refine g_if_ne hE d_M_call_69 (fun c54 => ?_) (fun c54 => ?_)
    · replace h := if_f c54 h
      refine g_aload_n (i := 0) hE d_M_call_83 rfl rfl ?_
      refine g_aload (i := 10) hE d_M_call_84 rfl ?_
      refine g_getRN 0 hE kc_Sm k32 (Nat.le_of_ble_eq_true rfl) rfl nf_44 d_M_call_86 (fun x36 e => ?_)
      replace h := lt_i e h; clear e
      obtain ⟨x37, d39, e38, h⟩ := bdD_s h
      refine g_callV (av := [.inr (.inr (some o)), .inr (.inr x36)]) (as := [.inr (.inr x36)]) (stk := []) [] hE (c_M_showHandler (xl X) (xG X) e38) ky_M_showHandler ⟨Nat.le_of_ble_eq_true rfl, Nat.le_of_ble_eq_true rfl⟩ rfl kc_M k1 m_366 m_367 m_368 rfl d_M_call_89 rfl rfl ct_0 (cnt_room0 hmc hc) (cnt_room0 hms hs) ?_
      refine gw.cs (c2 := 0) (s2 := 0) rfl rfl ?_
      refine g_aload (i := 9) hE d_M_call_92 rfl ?_
      refine g_getIN 7 hE kc_Si k10 (Nat.le_of_ble_eq_true rfl) rfl nf_53 d_M_call_94 (fun x40 e => ?_)
      replace h := lt_i e h; clear e
      refine g_if_eq hE d_M_call_97 (fun c53 => ?_) (fun c53 => ?_)
      · replace h := if_t c53 h
        refine g_aload_n (i := 0) hE d_M_call_114 rfl rfl ?_
        refine g_aload (i := 10) hE d_M_call_115 rfl ?_
        refine g_getRN 0 hE kc_Sm k32 (Nat.le_of_ble_eq_true rfl) rfl nf_44 d_M_call_117 (fun x41 e => ?_)
        replace h := lt_i e h; clear e
        obtain ⟨a42, rfl, h⟩ := nn_s h
        obtain ⟨k43, h⟩ := kd_s h
        refine g_getIN 4 hE kc_Om k43 (Nat.le_of_ble_eq_true rfl) rfl nf_46 d_M_call_120 (fun x44 e => ?_)
        replace h := lt_i e h; clear e
        refine g_aload (i := 9) hE d_M_call_123 rfl ?_
        refine g_getIN 6 hE kc_Si k10 (Nat.le_of_ble_eq_true rfl) rfl nf_52 d_M_call_125 (fun x45 e => ?_)
        replace h := lt_i e h; clear e
        obtain ⟨x46, d48, e47, h⟩ := bdD_s h
        refine g_callV (av := [.inr (.inr (some o)), .inl x44, .inl x45]) (as := [.inl x44, .inl x45]) (stk := [.int x46]) [] hE (c_M_fitAnswer (xl X) (xG X) e47) ky_M_fitAnswer ⟨Nat.le_of_ble_eq_true rfl, Nat.le_of_ble_eq_true rfl⟩ rfl kc_M k1 m_369 m_370 m_371 rfl d_M_call_128 rfl rfl ct_0 (cnt_room0 hmc hc) (cnt_room0 hms hs) ?_
        refine gw.cs (c2 := 0) (s2 := 0) rfl rfl ?_
        cases h
        exact g_iret hE d_M_call_131 hc hs
      · replace h := if_f c53 h
        refine g_aload_n (i := 0) hE d_M_call_100 rfl rfl ?_
        refine g_aload (i := 10) hE d_M_call_101 rfl ?_
        refine g_aload (i := 9) hE d_M_call_103 rfl ?_
        refine g_getIN 6 hE kc_Si k10 (Nat.le_of_ble_eq_true rfl) rfl nf_52 d_M_call_105 (fun x49 e => ?_)
        replace h := lt_i e h; clear e
        obtain ⟨x50, d52, e51, h⟩ := bdD_s h
        refine g_callV (av := [.inr (.inr (some o)), .inr (.inr (some a31)), .inl x49]) (as := [.inr (.inr (some a31)), .inl x49]) (stk := [.int x50]) [] hE (c_M_fitThrown (xl X) (xG X) e51) ky_M_fitThrown ⟨Nat.le_of_ble_eq_true rfl, Nat.le_of_ble_eq_true rfl⟩ rfl kc_M k1 m_372 m_373 m_374 rfl d_M_call_108 rfl rfl ct_0 (cnt_room0 hmc hc) (cnt_room0 hms hs) ?_
        refine gw.cs (c2 := 0) (s2 := 0) rfl rfl ?_
        refine g_goto hE d_M_call_111 ?_
        cases h
        exact g_iret hE d_M_call_131 hc hs
    · replace h := if_t c54 h
      obtain ⟨dc0, ds0, h, hc0, hs0⟩ := ac_s h
      cases h
  · replace h := if_t c55 h
    obtain ⟨dc0, ds0, h, hc0, hs0⟩ := ac_s h
    cases h
set_option maxRecDepth 100000 in
set_option maxHeartbeats 4000000 in
theorem c_M_callb1 (l : Launch) (G : gG) (hlt : l.stackTraces = false) {S : gS} {d : gD} {o : Nat} {v1 : Int32} {v2 : Int32} {v3 : Int64} {v5 : Int64} {v7 : Int64} {d' : gD} {S' : gS} {dc ds : Nat} (h : f_M_call S d o v1 v2 v3 v5 v7 = some ((.inr 1, S', d'), dc, ds)) : GT l G y_M_call b_M_call 11 (some (.int)) 6 89 dc ds [.inr (.inr (some o)), .inl v1, .inl v2, .inr (.inl v3), .inr (.inl v5), .inr (.inl v7)] S d xI S' d' := by
  refine GT.of (by decide) (Nat.le_of_ble_eq_true rfl) ?_
  intro X hl0 hG0 hR0 hE0 het hX
  have htr : (xl X).stackTraces = false := by rw [hl0]; exact hlt
  have hE : gE X b_M_call 11 "StandInMill" (some (.int)) "call" 6 89 := hE0
  have hmc : (xR X).cells = dc := by rw [hR0]
  have hms : (xR X).slots = ds := by rw [hR0]
  obtain ⟨mc, emc⟩ : ∃ z, z = dc := ⟨_, rfl⟩
  obtain ⟨ms, ems⟩ : ∃ z, z = ds := ⟨_, rfl⟩
  rw [← emc] at hmc
  rw [← ems] at hms
  have hc : 0 + dc = mc := by omega
  have hs : 0 + ds = ms := by omega
  show gw X 0 0 (gQT X _ _ _ dc ds) _ _ _ _ _
  rw [← emc, ← ems]
  clear hR0 emc ems
  unfold f_M_call at h
  refine gw.less (lv' := [some (va_rf (some o)), some (.int v1), some (.int v2), some (.long v3), none, some (.long v5), none, some (.long v7), none, none, none]) (And.intro rfl (And.intro rfl (And.intro rfl (And.intro rfl (And.intro rfl (And.intro rfl trivial)))))) ?_
  refine g_aload_n (i := 0) hE d_M_call_0 rfl rfl ?_
  refine g_iload_n (i := 1) hE d_M_call_1 rfl rfl ?_
  refine g_iload_n (i := 2) hE d_M_call_2 rfl rfl ?_
  obtain ⟨k1, h⟩ := kd_s h
  obtain ⟨x2, e3, h⟩ := bd_s h
  refine g_callV (av := [.inr (.inr (some o)), .inl v1, .inl v2]) (as := [.inl v1, .inl v2]) (stk := [.int x2]) [] hE (c_M_hasMethod (xl X) (xG X) e3) ky_M_hasMethod ⟨Nat.le_of_ble_eq_true rfl, Nat.le_of_ble_eq_true rfl⟩ rfl kc_M k1 m_350 m_351 m_352 rfl d_M_call_3 rfl rfl ct_0 (cnt_room0 hmc hc) (cnt_room0 hms hs) ?_
  refine gw.cs (c2 := 0) (s2 := 0) rfl rfl ?_
  refine g_if_ne hE d_M_call_6 (fun c55 => ?_) (fun c55 => ?_)
  · replace h := if_f c55 h
    refine g_aload_n (i := 0) hE d_M_call_20 rfl rfl ?_
    refine g_getR 9 hE kc_M k1 (Nat.le_of_ble_eq_true rfl) rfl m_50 d_M_call_21 (fun x4 e => ?_)
    replace h := lt_i e h; clear e
    refine g_iload_n (i := 1) hE d_M_call_24 rfl rfl ?_
    obtain ⟨a5, rfl, h⟩ := nn_s h
    obtain ⟨k6, h⟩ := kd_s h
    obtain ⟨g7, h⟩ := gi_s h
    refine g_aald hE k6 (by decide) rfl (fun _ => rfl) g7 d_M_call_25 (fun x8 e => ?_)
    replace h := lt_i e h; clear e
    refine g_astore (i := 9) (lv' := [some (va_rf (some o)), some (.int v1), some (.int v2), some (.long v3), none, some (.long v5), none, some (.long v7), none, some (va_rf x8), none]) hE d_M_call_26 (Nat.le_of_ble_eq_true rfl) ⟨rfl, Nat.le_of_ble_eq_true rfl⟩ (lvp_n rfl) ?_
    refine g_aload (i := 9) hE d_M_call_28 rfl ?_
    obtain ⟨a9, rfl, h⟩ := nn_s h
    obtain ⟨k10, h⟩ := kd_s h
    refine g_getRN 4 hE kc_Si k10 (Nat.le_of_ble_eq_true rfl) rfl nf_28 d_M_call_30 (fun x11 e => ?_)
    replace h := lt_i e h; clear e
    refine g_iload_n (i := 2) hE d_M_call_33 rfl rfl ?_
    obtain ⟨a12, rfl, h⟩ := nn_s h
    obtain ⟨k13, h⟩ := kd_s h
    obtain ⟨g14, h⟩ := gi_s h
    refine g_aald hE k13 (by decide) rfl (fun _ => rfl) g14 d_M_call_34 (fun x15 e => ?_)
    replace h := lt_i e h; clear e
    refine g_astore (i := 10) (lv' := [some (va_rf (some o)), some (.int v1), some (.int v2), some (.long v3), none, some (.long v5), none, some (.long v7), none, some (va_rf (some a9)), some (va_rf x15)]) hE d_M_call_35 (Nat.le_of_ble_eq_true rfl) ⟨rfl, Nat.le_of_ble_eq_true rfl⟩ (lvp_r rfl) ?_
    refine g_aload_n (i := 0) hE d_M_call_37 rfl rfl ?_
    refine g_getR 16 hE kc_M k1 (Nat.le_of_ble_eq_true rfl) rfl m_64 d_M_call_38 (fun x16 e => ?_)
    replace h := lt_i e h; clear e
    refine g_iconst hE d_M_call_41 ki_0 ?_
    refine g_lload_n (i := 3) hE d_M_call_42 rfl rfl ?_
    obtain ⟨a17, rfl, h⟩ := nn_s h
    obtain ⟨k18, h⟩ := kd_s h
    obtain ⟨g19, h⟩ := gi_s h
    refine g_last hE k18 g19 d_M_call_43 (fun d20 e => ?_)
    replace h := lt_i e h; clear e
    refine g_aload_n (i := 0) hE d_M_call_44 rfl rfl ?_
    refine g_getR 16 hE kc_M k1 (Nat.le_of_ble_eq_true rfl) rfl m_64 d_M_call_45 (fun x21 e => ?_)
    replace h := lt_i e h; clear e
    refine g_iconst hE d_M_call_48 ki_1 ?_
    refine g_lload (i := 5) hE d_M_call_49 rfl ?_
    obtain ⟨a22, rfl, h⟩ := nn_s h
    obtain ⟨k23, h⟩ := kd_s h
    obtain ⟨g24, h⟩ := gi_s h
    refine g_last hE k23 g24 d_M_call_51 (fun d25 e => ?_)
    replace h := lt_i e h; clear e
    refine g_aload_n (i := 0) hE d_M_call_52 rfl rfl ?_
    refine g_getR 16 hE kc_M k1 (Nat.le_of_ble_eq_true rfl) rfl m_64 d_M_call_53 (fun x26 e => ?_)
    replace h := lt_i e h; clear e
    refine g_iconst hE d_M_call_56 ki_2 ?_
    refine g_lload (i := 7) hE d_M_call_57 rfl ?_
    obtain ⟨a27, rfl, h⟩ := nn_s h
    obtain ⟨k28, h⟩ := kd_s h
    obtain ⟨g29, h⟩ := gi_s h
    refine g_last hE k28 g29 d_M_call_59 (fun d30 e => ?_)
    replace h := lt_i e h; clear e
    refine g_aload_n (i := 0) hE d_M_call_60 rfl rfl ?_
    refine g_aload (i := 10) hE d_M_call_61 rfl ?_
    obtain ⟨a31, rfl, h⟩ := nn_s h
    obtain ⟨k32, h⟩ := kd_s h
    refine g_getRN 0 hE kc_Sm k32 (Nat.le_of_ble_eq_true rfl) rfl nf_44 d_M_call_63 (fun x33 e => ?_)
    replace h := lt_i e h; clear e
    obtain ⟨x34, e35, h⟩ := bd_s h
    refine g_callV (av := [.inr (.inr (some o)), .inr (.inr x33)]) (as := [.inr (.inr x33)]) (stk := [.int x34]) [] hE (c_M_takesGiven (xl X) (xG X) e35) ky_M_takesGiven ⟨Nat.le_of_ble_eq_true rfl, Nat.le_of_ble_eq_true rfl⟩ rfl kc_M k1 m_363 m_364 m_365 rfl d_M_call_66 rfl rfl ct_0 (cnt_room0 hmc hc) (cnt_room0 hms hs) ?_
    refine gw.cs (c2 := 0) (s2 := 0) rfl rfl ?_
    refine g_if_ne hE d_M_call_69 (fun c54 => ?_) (fun c54 => ?_)
    · replace h := if_f c54 h
      refine g_aload_n (i := 0) hE d_M_call_83 rfl rfl ?_
      refine g_aload (i := 10) hE d_M_call_84 rfl ?_
      refine g_getRN 0 hE kc_Sm k32 (Nat.le_of_ble_eq_true rfl) rfl nf_44 d_M_call_86 (fun x36 e => ?_)
      replace h := lt_i e h; clear e
      obtain ⟨x37, d39, e38, h⟩ := bdD_s h
      refine g_callV (av := [.inr (.inr (some o)), .inr (.inr x36)]) (as := [.inr (.inr x36)]) (stk := []) [] hE (c_M_showHandler (xl X) (xG X) e38) ky_M_showHandler ⟨Nat.le_of_ble_eq_true rfl, Nat.le_of_ble_eq_true rfl⟩ rfl kc_M k1 m_366 m_367 m_368 rfl d_M_call_89 rfl rfl ct_0 (cnt_room0 hmc hc) (cnt_room0 hms hs) ?_
      refine gw.cs (c2 := 0) (s2 := 0) rfl rfl ?_
      refine g_aload (i := 9) hE d_M_call_92 rfl ?_
      refine g_getIN 7 hE kc_Si k10 (Nat.le_of_ble_eq_true rfl) rfl nf_53 d_M_call_94 (fun x40 e => ?_)
      replace h := lt_i e h; clear e
      refine g_if_eq hE d_M_call_97 (fun c53 => ?_) (fun c53 => ?_)
      · replace h := if_t c53 h
        refine g_aload_n (i := 0) hE d_M_call_114 rfl rfl ?_
        refine g_aload (i := 10) hE d_M_call_115 rfl ?_
        refine g_getRN 0 hE kc_Sm k32 (Nat.le_of_ble_eq_true rfl) rfl nf_44 d_M_call_117 (fun x41 e => ?_)
        replace h := lt_i e h; clear e
        obtain ⟨a42, rfl, h⟩ := nn_s h
        obtain ⟨k43, h⟩ := kd_s h
        refine g_getIN 4 hE kc_Om k43 (Nat.le_of_ble_eq_true rfl) rfl nf_46 d_M_call_120 (fun x44 e => ?_)
        replace h := lt_i e h; clear e
        refine g_aload (i := 9) hE d_M_call_123 rfl ?_
        refine g_getIN 6 hE kc_Si k10 (Nat.le_of_ble_eq_true rfl) rfl nf_52 d_M_call_125 (fun x45 e => ?_)
        replace h := lt_i e h; clear e
        obtain ⟨x46, d48, e47, h⟩ := bdD_s h
        refine g_callV (av := [.inr (.inr (some o)), .inl x44, .inl x45]) (as := [.inl x44, .inl x45]) (stk := [.int x46]) [] hE (c_M_fitAnswer (xl X) (xG X) e47) ky_M_fitAnswer ⟨Nat.le_of_ble_eq_true rfl, Nat.le_of_ble_eq_true rfl⟩ rfl kc_M k1 m_369 m_370 m_371 rfl d_M_call_128 rfl rfl ct_0 (cnt_room0 hmc hc) (cnt_room0 hms hs) ?_
        refine gw.cs (c2 := 0) (s2 := 0) rfl rfl ?_
        cases h
      · replace h := if_f c53 h
        refine g_aload_n (i := 0) hE d_M_call_100 rfl rfl ?_
        refine g_aload (i := 10) hE d_M_call_101 rfl ?_
        refine g_aload (i := 9) hE d_M_call_103 rfl ?_
        refine g_getIN 6 hE kc_Si k10 (Nat.le_of_ble_eq_true rfl) rfl nf_52 d_M_call_105 (fun x49 e => ?_)
        replace h := lt_i e h; clear e
        obtain ⟨x50, d52, e51, h⟩ := bdD_s h
        refine g_callV (av := [.inr (.inr (some o)), .inr (.inr (some a31)), .inl x49]) (as := [.inr (.inr (some a31)), .inl x49]) (stk := [.int x50]) [] hE (c_M_fitThrown (xl X) (xG X) e51) ky_M_fitThrown ⟨Nat.le_of_ble_eq_true rfl, Nat.le_of_ble_eq_true rfl⟩ rfl kc_M k1 m_372 m_373 m_374 rfl d_M_call_108 rfl rfl ct_0 (cnt_room0 hmc hc) (cnt_room0 hms hs) ?_
        refine gw.cs (c2 := 0) (s2 := 0) rfl rfl ?_
        refine g_goto hE d_M_call_111 ?_
        cases h
    · replace h := if_t c54 h
      obtain ⟨dc0, ds0, h, hc0, hs0⟩ := ac_s h
      simp at h
  · replace h := if_t c55 h
    obtain ⟨dc0, ds0, h, hc0, hs0⟩ := ac_s h
    cases h
    exact g_throw hE hX htr het xat_1 (by decide +kernel) m_344 m_345 m_346 (xs_287) ⟨Nat.le_of_ble_eq_true rfl, Nat.le_of_ble_eq_true rfl⟩ (cnt_room hmc hc hc0) (cnt_room hms hs hs0) (by omega) (by omega) d_M_call_9 d_M_call_12 (Or.inr d_M_call_13) d_M_call_16 d_M_call_19
set_option maxRecDepth 100000 in
set_option maxHeartbeats 4000000 in
theorem c_M_callb2 (l : Launch) (G : gG) (hlt : l.stackTraces = false) {S : gS} {d : gD} {o : Nat} {v1 : Int32} {v2 : Int32} {v3 : Int64} {v5 : Int64} {v7 : Int64} {d' : gD} {S' : gS} {dc ds : Nat} (h : f_M_call S d o v1 v2 v3 v5 v7 = some ((.inr 2, S', d'), dc, ds)) : GT l G y_M_call b_M_call 11 (some (.int)) 6 89 dc ds [.inr (.inr (some o)), .inl v1, .inl v2, .inr (.inl v3), .inr (.inl v5), .inr (.inl v7)] S d xA S' d' := by
  refine GT.of (by decide) (Nat.le_of_ble_eq_true rfl) ?_
  intro X hl0 hG0 hR0 hE0 het hX
  have htr : (xl X).stackTraces = false := by rw [hl0]; exact hlt
  have hE : gE X b_M_call 11 "StandInMill" (some (.int)) "call" 6 89 := hE0
  have hmc : (xR X).cells = dc := by rw [hR0]
  have hms : (xR X).slots = ds := by rw [hR0]
  obtain ⟨mc, emc⟩ : ∃ z, z = dc := ⟨_, rfl⟩
  obtain ⟨ms, ems⟩ : ∃ z, z = ds := ⟨_, rfl⟩
  rw [← emc] at hmc
  rw [← ems] at hms
  have hc : 0 + dc = mc := by omega
  have hs : 0 + ds = ms := by omega
  show gw X 0 0 (gQT X _ _ _ dc ds) _ _ _ _ _
  rw [← emc, ← ems]
  clear hR0 emc ems
  unfold f_M_call at h
  refine gw.less (lv' := [some (va_rf (some o)), some (.int v1), some (.int v2), some (.long v3), none, some (.long v5), none, some (.long v7), none, none, none]) (And.intro rfl (And.intro rfl (And.intro rfl (And.intro rfl (And.intro rfl (And.intro rfl trivial)))))) ?_
  refine g_aload_n (i := 0) hE d_M_call_0 rfl rfl ?_
  refine g_iload_n (i := 1) hE d_M_call_1 rfl rfl ?_
  refine g_iload_n (i := 2) hE d_M_call_2 rfl rfl ?_
  obtain ⟨k1, h⟩ := kd_s h
  obtain ⟨x2, e3, h⟩ := bd_s h
  refine g_callV (av := [.inr (.inr (some o)), .inl v1, .inl v2]) (as := [.inl v1, .inl v2]) (stk := [.int x2]) [] hE (c_M_hasMethod (xl X) (xG X) e3) ky_M_hasMethod ⟨Nat.le_of_ble_eq_true rfl, Nat.le_of_ble_eq_true rfl⟩ rfl kc_M k1 m_350 m_351 m_352 rfl d_M_call_3 rfl rfl ct_0 (cnt_room0 hmc hc) (cnt_room0 hms hs) ?_
  refine gw.cs (c2 := 0) (s2 := 0) rfl rfl ?_
  refine g_if_ne hE d_M_call_6 (fun c55 => ?_) (fun c55 => ?_)
  · replace h := if_f c55 h
    refine g_aload_n (i := 0) hE d_M_call_20 rfl rfl ?_
    refine g_getR 9 hE kc_M k1 (Nat.le_of_ble_eq_true rfl) rfl m_50 d_M_call_21 (fun x4 e => ?_)
    replace h := lt_i e h; clear e
    refine g_iload_n (i := 1) hE d_M_call_24 rfl rfl ?_
    obtain ⟨a5, rfl, h⟩ := nn_s h
    obtain ⟨k6, h⟩ := kd_s h
    obtain ⟨g7, h⟩ := gi_s h
    refine g_aald hE k6 (by decide) rfl (fun _ => rfl) g7 d_M_call_25 (fun x8 e => ?_)
    replace h := lt_i e h; clear e
    refine g_astore (i := 9) (lv' := [some (va_rf (some o)), some (.int v1), some (.int v2), some (.long v3), none, some (.long v5), none, some (.long v7), none, some (va_rf x8), none]) hE d_M_call_26 (Nat.le_of_ble_eq_true rfl) ⟨rfl, Nat.le_of_ble_eq_true rfl⟩ (lvp_n rfl) ?_
    refine g_aload (i := 9) hE d_M_call_28 rfl ?_
    obtain ⟨a9, rfl, h⟩ := nn_s h
    obtain ⟨k10, h⟩ := kd_s h
    refine g_getRN 4 hE kc_Si k10 (Nat.le_of_ble_eq_true rfl) rfl nf_28 d_M_call_30 (fun x11 e => ?_)
    replace h := lt_i e h; clear e
    refine g_iload_n (i := 2) hE d_M_call_33 rfl rfl ?_
    obtain ⟨a12, rfl, h⟩ := nn_s h
    obtain ⟨k13, h⟩ := kd_s h
    obtain ⟨g14, h⟩ := gi_s h
    refine g_aald hE k13 (by decide) rfl (fun _ => rfl) g14 d_M_call_34 (fun x15 e => ?_)
    replace h := lt_i e h; clear e
    refine g_astore (i := 10) (lv' := [some (va_rf (some o)), some (.int v1), some (.int v2), some (.long v3), none, some (.long v5), none, some (.long v7), none, some (va_rf (some a9)), some (va_rf x15)]) hE d_M_call_35 (Nat.le_of_ble_eq_true rfl) ⟨rfl, Nat.le_of_ble_eq_true rfl⟩ (lvp_r rfl) ?_
    refine g_aload_n (i := 0) hE d_M_call_37 rfl rfl ?_
    refine g_getR 16 hE kc_M k1 (Nat.le_of_ble_eq_true rfl) rfl m_64 d_M_call_38 (fun x16 e => ?_)
    replace h := lt_i e h; clear e
    refine g_iconst hE d_M_call_41 ki_0 ?_
    refine g_lload_n (i := 3) hE d_M_call_42 rfl rfl ?_
    obtain ⟨a17, rfl, h⟩ := nn_s h
    obtain ⟨k18, h⟩ := kd_s h
    obtain ⟨g19, h⟩ := gi_s h
    refine g_last hE k18 g19 d_M_call_43 (fun d20 e => ?_)
    replace h := lt_i e h; clear e
    refine g_aload_n (i := 0) hE d_M_call_44 rfl rfl ?_
    refine g_getR 16 hE kc_M k1 (Nat.le_of_ble_eq_true rfl) rfl m_64 d_M_call_45 (fun x21 e => ?_)
    replace h := lt_i e h; clear e
    refine g_iconst hE d_M_call_48 ki_1 ?_
    refine g_lload (i := 5) hE d_M_call_49 rfl ?_
    obtain ⟨a22, rfl, h⟩ := nn_s h
    obtain ⟨k23, h⟩ := kd_s h
    obtain ⟨g24, h⟩ := gi_s h
    refine g_last hE k23 g24 d_M_call_51 (fun d25 e => ?_)
    replace h := lt_i e h; clear e
    refine g_aload_n (i := 0) hE d_M_call_52 rfl rfl ?_
    refine g_getR 16 hE kc_M k1 (Nat.le_of_ble_eq_true rfl) rfl m_64 d_M_call_53 (fun x26 e => ?_)
    replace h := lt_i e h; clear e
    refine g_iconst hE d_M_call_56 ki_2 ?_
    refine g_lload (i := 7) hE d_M_call_57 rfl ?_
    obtain ⟨a27, rfl, h⟩ := nn_s h
    obtain ⟨k28, h⟩ := kd_s h
    obtain ⟨g29, h⟩ := gi_s h
    refine g_last hE k28 g29 d_M_call_59 (fun d30 e => ?_)
    replace h := lt_i e h; clear e
    refine g_aload_n (i := 0) hE d_M_call_60 rfl rfl ?_
    refine g_aload (i := 10) hE d_M_call_61 rfl ?_
    obtain ⟨a31, rfl, h⟩ := nn_s h
    obtain ⟨k32, h⟩ := kd_s h
    refine g_getRN 0 hE kc_Sm k32 (Nat.le_of_ble_eq_true rfl) rfl nf_44 d_M_call_63 (fun x33 e => ?_)
    replace h := lt_i e h; clear e
    obtain ⟨x34, e35, h⟩ := bd_s h
    refine g_callV (av := [.inr (.inr (some o)), .inr (.inr x33)]) (as := [.inr (.inr x33)]) (stk := [.int x34]) [] hE (c_M_takesGiven (xl X) (xG X) e35) ky_M_takesGiven ⟨Nat.le_of_ble_eq_true rfl, Nat.le_of_ble_eq_true rfl⟩ rfl kc_M k1 m_363 m_364 m_365 rfl d_M_call_66 rfl rfl ct_0 (cnt_room0 hmc hc) (cnt_room0 hms hs) ?_
    refine gw.cs (c2 := 0) (s2 := 0) rfl rfl ?_
    refine g_if_ne hE d_M_call_69 (fun c54 => ?_) (fun c54 => ?_)
    · replace h := if_f c54 h
      refine g_aload_n (i := 0) hE d_M_call_83 rfl rfl ?_
      refine g_aload (i := 10) hE d_M_call_84 rfl ?_
      refine g_getRN 0 hE kc_Sm k32 (Nat.le_of_ble_eq_true rfl) rfl nf_44 d_M_call_86 (fun x36 e => ?_)
      replace h := lt_i e h; clear e
      obtain ⟨x37, d39, e38, h⟩ := bdD_s h
      refine g_callV (av := [.inr (.inr (some o)), .inr (.inr x36)]) (as := [.inr (.inr x36)]) (stk := []) [] hE (c_M_showHandler (xl X) (xG X) e38) ky_M_showHandler ⟨Nat.le_of_ble_eq_true rfl, Nat.le_of_ble_eq_true rfl⟩ rfl kc_M k1 m_366 m_367 m_368 rfl d_M_call_89 rfl rfl ct_0 (cnt_room0 hmc hc) (cnt_room0 hms hs) ?_
      refine gw.cs (c2 := 0) (s2 := 0) rfl rfl ?_
      refine g_aload (i := 9) hE d_M_call_92 rfl ?_
      refine g_getIN 7 hE kc_Si k10 (Nat.le_of_ble_eq_true rfl) rfl nf_53 d_M_call_94 (fun x40 e => ?_)
      replace h := lt_i e h; clear e
      refine g_if_eq hE d_M_call_97 (fun c53 => ?_) (fun c53 => ?_)
      · replace h := if_t c53 h
        refine g_aload_n (i := 0) hE d_M_call_114 rfl rfl ?_
        refine g_aload (i := 10) hE d_M_call_115 rfl ?_
        refine g_getRN 0 hE kc_Sm k32 (Nat.le_of_ble_eq_true rfl) rfl nf_44 d_M_call_117 (fun x41 e => ?_)
        replace h := lt_i e h; clear e
        obtain ⟨a42, rfl, h⟩ := nn_s h
        obtain ⟨k43, h⟩ := kd_s h
        refine g_getIN 4 hE kc_Om k43 (Nat.le_of_ble_eq_true rfl) rfl nf_46 d_M_call_120 (fun x44 e => ?_)
        replace h := lt_i e h; clear e
        refine g_aload (i := 9) hE d_M_call_123 rfl ?_
        refine g_getIN 6 hE kc_Si k10 (Nat.le_of_ble_eq_true rfl) rfl nf_52 d_M_call_125 (fun x45 e => ?_)
        replace h := lt_i e h; clear e
        obtain ⟨x46, d48, e47, h⟩ := bdD_s h
        refine g_callV (av := [.inr (.inr (some o)), .inl x44, .inl x45]) (as := [.inl x44, .inl x45]) (stk := [.int x46]) [] hE (c_M_fitAnswer (xl X) (xG X) e47) ky_M_fitAnswer ⟨Nat.le_of_ble_eq_true rfl, Nat.le_of_ble_eq_true rfl⟩ rfl kc_M k1 m_369 m_370 m_371 rfl d_M_call_128 rfl rfl ct_0 (cnt_room0 hmc hc) (cnt_room0 hms hs) ?_
        refine gw.cs (c2 := 0) (s2 := 0) rfl rfl ?_
        cases h
      · replace h := if_f c53 h
        refine g_aload_n (i := 0) hE d_M_call_100 rfl rfl ?_
        refine g_aload (i := 10) hE d_M_call_101 rfl ?_
        refine g_aload (i := 9) hE d_M_call_103 rfl ?_
        refine g_getIN 6 hE kc_Si k10 (Nat.le_of_ble_eq_true rfl) rfl nf_52 d_M_call_105 (fun x49 e => ?_)
        replace h := lt_i e h; clear e
        obtain ⟨x50, d52, e51, h⟩ := bdD_s h
        refine g_callV (av := [.inr (.inr (some o)), .inr (.inr (some a31)), .inl x49]) (as := [.inr (.inr (some a31)), .inl x49]) (stk := [.int x50]) [] hE (c_M_fitThrown (xl X) (xG X) e51) ky_M_fitThrown ⟨Nat.le_of_ble_eq_true rfl, Nat.le_of_ble_eq_true rfl⟩ rfl kc_M k1 m_372 m_373 m_374 rfl d_M_call_108 rfl rfl ct_0 (cnt_room0 hmc hc) (cnt_room0 hms hs) ?_
        refine gw.cs (c2 := 0) (s2 := 0) rfl rfl ?_
        refine g_goto hE d_M_call_111 ?_
        cases h
    · replace h := if_t c54 h
      obtain ⟨dc0, ds0, h, hc0, hs0⟩ := ac_s h
      cases h
      exact g_throw hE hX htr het xat_2 (by decide +kernel) m_347 m_348 m_349 (xs_293) ⟨Nat.le_of_ble_eq_true rfl, Nat.le_of_ble_eq_true rfl⟩ (cnt_room hmc hc hc0) (cnt_room hms hs hs0) (by omega) (by omega) d_M_call_72 d_M_call_75 (Or.inr d_M_call_76) d_M_call_79 d_M_call_82
  · replace h := if_t c55 h
    obtain ⟨dc0, ds0, h, hc0, hs0⟩ := ac_s h
    simp at h
theorem d_M_outcome_0 : dc b_M_outcome 0 (.aload_n 0) 1 1 := ⟨by decide +kernel, rfl⟩
theorem d_M_outcome_1 : dc b_M_outcome 1 (.getfield 63) 3 4 := ⟨by decide +kernel, rfl⟩
theorem d_M_outcome_4 : dc b_M_outcome 4 (.lreturn) 1 5 := ⟨by decide +kernel, rfl⟩
set_option maxRecDepth 100000 in
def f_M_outcome (S : gS) (d : gD) (o : Nat) : Option (Int64) :=
  kd S o 1 <|
  lt_ (dL d o 15) fun x2 =>
  some x2
set_option maxRecDepth 100000 in
set_option maxHeartbeats 4000000 in
theorem c_M_outcome (l : Launch) (G : gG) {S : gS} {d : gD} {o : Nat} {r : Int64} (h : f_M_outcome S d o = some r) : GM l G y_M_outcome b_M_outcome 1 (some (.long)) 0 0 0 0 [.inr (.inr (some o))] S d (some (.long r)) S d := by
  refine GM.of (by decide) (Nat.le_of_ble_eq_true rfl) ?_
  intro X hl0 hG0 hR0 hE0
  have hE : gE X b_M_outcome 1 "StandInMill" (some (.long)) "outcome" 0 0 := hE0
  unfold f_M_outcome at h
  refine gw.less (lv' := [some (va_rf (some o))]) (And.intro rfl trivial) ?_
  refine g_aload_n (i := 0) hE d_M_outcome_0 rfl rfl ?_
  obtain ⟨k1, h⟩ := kd_s h
  refine g_getL 15 hE kc_M k1 (Nat.le_of_ble_eq_true rfl) rfl m_63 d_M_outcome_1 (fun x2 e => ?_)
  replace h := lt_i e h; clear e
  cases h
  exact g_lret hE d_M_outcome_4 rfl rfl
theorem d_M_seen_0 : dc b_M_seen 0 (.iload_n 1) 1 1 := ⟨by decide +kernel, rfl⟩
theorem d_M_seen_1 : dc b_M_seen 1 (.bipush 9) 2 3 := ⟨by decide +kernel, rfl⟩
theorem d_M_seen_3 : dc b_M_seen 3 (.invokestatic 94) 3 6 := ⟨by decide +kernel, rfl⟩
theorem d_M_seen_6 : db b_M_seen 6 (.ifCond .eq 12) 12 18 9 := ⟨by decide +kernel, by decide, rfl⟩
theorem d_M_seen_9 : dc b_M_seen 9 (.aload_n 0) 1 10 := ⟨by decide +kernel, rfl⟩
theorem d_M_seen_10 : dc b_M_seen 10 (.getfield 70) 3 13 := ⟨by decide +kernel, rfl⟩
theorem d_M_seen_13 : dc b_M_seen 13 (.iload_n 1) 1 14 := ⟨by decide +kernel, rfl⟩
theorem d_M_seen_14 : dc b_M_seen 14 (.laload) 1 15 := ⟨by decide +kernel, rfl⟩
theorem d_M_seen_15 : db b_M_seen 15 (.goto 6) 6 21 18 := ⟨by decide +kernel, by decide, rfl⟩
theorem d_M_seen_18 : dc b_M_seen 18 (.ldc2_w 61) 3 21 := ⟨by decide +kernel, rfl⟩
theorem d_M_seen_21 : dc b_M_seen 21 (.lreturn) 1 22 := ⟨by decide +kernel, rfl⟩
set_option maxRecDepth 100000 in
def f_M_seen (S : gS) (d : gD) (o : Nat) (v1 : Int32) : Option (Int64) :=
  bd (f_M_isWithin S d v1 9) fun x1 =>
  if x1 = 0 then (
    some (-1))
  else (
    kd S o 1 <|
    lt_ (sP S o 17) fun x4 =>
    nn x4 fun a5 =>
    kd S a5 51 <|
    gi v1 (sN S a5) <|
    lt_ (dL d a5 v1.toNatClampNeg) fun x8 =>
    some x8)
set_option maxRecDepth 100000 in
set_option maxHeartbeats 4000000 in
theorem c_M_seen (l : Launch) (G : gG) {S : gS} {d : gD} {o : Nat} {v1 : Int32} {r : Int64} (h : f_M_seen S d o v1 = some r) : GM l G y_M_seen b_M_seen 2 (some (.long)) 1 21 0 0 [.inr (.inr (some o)), .inl v1] S d (some (.long r)) S d := by
  refine GM.of (by decide) (Nat.le_of_ble_eq_true rfl) ?_
  intro X hl0 hG0 hR0 hE0
  have hE : gE X b_M_seen 2 "StandInMill" (some (.long)) "seen" 1 21 := hE0
  unfold f_M_seen at h
  refine gw.less (lv' := [some (va_rf (some o)), some (.int v1)]) (And.intro rfl (And.intro rfl trivial)) ?_
  refine g_iload_n (i := 1) hE d_M_seen_0 rfl rfl ?_
  refine g_bipush hE d_M_seen_1 kb_9 ?_
  obtain ⟨x1, e2, h⟩ := bd_s h
  refine g_callS (av := [.inl v1, .inl 9]) (stk := [.int x1]) [] hE (c_M_isWithin (xl X) (xG X) e2) ky_M_isWithin ⟨Nat.le_of_ble_eq_true rfl, Nat.le_of_ble_eq_true rfl⟩ m_73 m_74 rfl d_M_seen_3 rfl rfl ct_0 (Nat.zero_le _) (Nat.zero_le _) ?_
  refine gw.cs (c2 := 0) (s2 := 0) rfl rfl ?_
  refine g_if_eq hE d_M_seen_6 (fun c9 => ?_) (fun c9 => ?_)
  · replace h := if_t c9 h
    refine g_ldc2 hE d_M_seen_18 m_62 ?_
    cases h
    exact g_lret hE d_M_seen_21 rfl rfl
  · replace h := if_f c9 h
    refine g_aload_n (i := 0) hE d_M_seen_9 rfl rfl ?_
    obtain ⟨k3, h⟩ := kd_s h
    refine g_getR 17 hE kc_M k3 (Nat.le_of_ble_eq_true rfl) rfl m_65 d_M_seen_10 (fun x4 e => ?_)
    replace h := lt_i e h; clear e
    refine g_iload_n (i := 1) hE d_M_seen_13 rfl rfl ?_
    obtain ⟨a5, rfl, h⟩ := nn_s h
    obtain ⟨k6, h⟩ := kd_s h
    obtain ⟨g7, h⟩ := gi_s h
    refine g_lald hE k6 g7 d_M_seen_14 (fun x8 e => ?_)
    replace h := lt_i e h; clear e
    refine g_goto hE d_M_seen_15 ?_
    cases h
    exact g_lret hE d_M_seen_21 rfl rfl
