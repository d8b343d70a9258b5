theorem d_M_isObjectBelow_0 : dc b_M_isObjectBelow 0 (.lload_n 1) 1 1 := ⟨by decide +kernel, rfl⟩
theorem d_M_isObjectBelow_1 : dc b_M_isObjectBelow 1 (.lconst 0) 1 2 := ⟨by decide +kernel, rfl⟩
theorem d_M_isObjectBelow_2 : dc b_M_isObjectBelow 2 (.lcmp) 1 3 := ⟨by decide +kernel, rfl⟩
theorem d_M_isObjectBelow_3 : db b_M_isObjectBelow 3 (.ifCond .lt 35) 35 38 6 := ⟨by decide +kernel, by decide, rfl⟩
theorem d_M_isObjectBelow_6 : dc b_M_isObjectBelow 6 (.lload_n 1) 1 7 := ⟨by decide +kernel, rfl⟩
theorem d_M_isObjectBelow_7 : dc b_M_isObjectBelow 7 (.aload_n 0) 1 8 := ⟨by decide +kernel, rfl⟩
theorem d_M_isObjectBelow_8 : dc b_M_isObjectBelow 8 (.getfield 184) 3 11 := ⟨by decide +kernel, rfl⟩
theorem d_M_isObjectBelow_11 : dc b_M_isObjectBelow 11 (.i2l) 1 12 := ⟨by decide +kernel, rfl⟩
theorem d_M_isObjectBelow_12 : dc b_M_isObjectBelow 12 (.lcmp) 1 13 := ⟨by decide +kernel, rfl⟩
theorem d_M_isObjectBelow_13 : db b_M_isObjectBelow 13 (.ifCond .ge 25) 25 38 16 := ⟨by decide +kernel, by decide, rfl⟩
theorem d_M_isObjectBelow_16 : dc b_M_isObjectBelow 16 (.aload_n 0) 1 17 := ⟨by decide +kernel, rfl⟩
theorem d_M_isObjectBelow_17 : dc b_M_isObjectBelow 17 (.getfield 10) 3 20 := ⟨by decide +kernel, rfl⟩
theorem d_M_isObjectBelow_20 : dc b_M_isObjectBelow 20 (.aload_n 0) 1 21 := ⟨by decide +kernel, rfl⟩
theorem d_M_isObjectBelow_21 : dc b_M_isObjectBelow 21 (.getfield 26) 3 24 := ⟨by decide +kernel, rfl⟩
theorem d_M_isObjectBelow_24 : dc b_M_isObjectBelow 24 (.lload_n 1) 1 25 := ⟨by decide +kernel, rfl⟩
theorem d_M_isObjectBelow_25 : dc b_M_isObjectBelow 25 (.l2i) 1 26 := ⟨by decide +kernel, rfl⟩
theorem d_M_isObjectBelow_26 : dc b_M_isObjectBelow 26 (.iaload) 1 27 := ⟨by decide +kernel, rfl⟩
theorem d_M_isObjectBelow_27 : dc b_M_isObjectBelow 27 (.iload_n 3) 1 28 := ⟨by decide +kernel, rfl⟩
theorem d_M_isObjectBelow_28 : dc b_M_isObjectBelow 28 (.invokevirtual 191) 3 31 := ⟨by decide +kernel, rfl⟩
theorem d_M_isObjectBelow_31 : db b_M_isObjectBelow 31 (.ifCond .eq 7) 7 38 34 := ⟨by decide +kernel, by decide, rfl⟩
theorem d_M_isObjectBelow_34 : dc b_M_isObjectBelow 34 (.iconst 1) 1 35 := ⟨by decide +kernel, rfl⟩
theorem d_M_isObjectBelow_35 : db b_M_isObjectBelow 35 (.goto 4) 4 39 38 := ⟨by decide +kernel, by decide, rfl⟩
theorem d_M_isObjectBelow_38 : dc b_M_isObjectBelow 38 (.iconst 0) 1 39 := ⟨by decide +kernel, rfl⟩
theorem d_M_isObjectBelow_39 : dc b_M_isObjectBelow 39 (.ireturn) 1 40 := ⟨by decide +kernel, rfl⟩
set_option maxRecDepth 100000 in
def f_M_isObjectBelow (S : gS) (d : gD) (o : Nat) (v1 : Int64) (v3 : Int32) : Option (Int32) :=
  if (lg_cmp v1 0) < 0 then (
    some 0)
  else (
    kd S o 1 <|
    lt_ (dI d o 7) fun x2 =>
    if 0 ≤ (lg_cmp v1 (Int32.toInt64 x2)) then (
      some 0)
    else (
      lt_ (sP S o 0) fun x3 =>
      lt_ (sP S o 5) fun x4 =>
      nn x4 fun a5 =>
      kd S a5 50 <|
      gi (Int64.toInt32 v1) (sN S a5) <|
      lt_ (dI d a5 (Int64.toInt32 v1 : Int32).toNatClampNeg) fun x8 =>
      nn x3 fun a9 =>
      kd S a9 8 <|
      bd (f_Ty_isBelow S d a9 x8 v3) fun x11 =>
      if x11 = 0 then (
        some 0)
      else (
        some 1)))
set_option maxRecDepth 100000 in
set_option maxHeartbeats 4000000 in
theorem c_M_isObjectBelow (l : Launch) (G : gG) {S : gS} {d : gD} {o : Nat} {v1 : Int64} {v3 : Int32} {r : Int32} (h : f_M_isObjectBelow S d o v1 v3 = some r) : GM l G y_M_isObjectBelow b_M_isObjectBelow 4 (some (.boolean)) 2 43 0 0 [.inr (.inr (some o)), .inr (.inl v1), .inl v3] S d (some (.int r)) S d := by
  refine GM.of (by decide) (Nat.le_of_ble_eq_true rfl) ?_
  intro X hl0 hG0 hR0 hE0
  have hE : gE X b_M_isObjectBelow 4 "StandInMill" (some (.boolean)) "isObjectBelow" 2 43 := hE0
  unfold f_M_isObjectBelow at h
  refine gw.less (lv' := [some (va_rf (some o)), some (.long v1), none, some (.int v3)]) (And.intro rfl (And.intro rfl (And.intro rfl trivial))) ?_
  refine g_lload_n (i := 1) hE d_M_isObjectBelow_0 rfl rfl ?_
  refine g_lconst (v := 0) hE d_M_isObjectBelow_1 rfl ?_
  refine g_lcmp hE d_M_isObjectBelow_2 ?_
  refine g_if_lt hE d_M_isObjectBelow_3 (fun c15 => ?_) (fun c15 => ?_)
  · replace h := if_t c15 h
    refine g_iconst hE d_M_isObjectBelow_38 ki_0 ?_
    cases h
    exact g_zret hE (Or.inl rfl) d_M_isObjectBelow_39 rfl rfl
  · replace h := if_f c15 h
    refine g_lload_n (i := 1) hE d_M_isObjectBelow_6 rfl rfl ?_
    refine g_aload_n (i := 0) hE d_M_isObjectBelow_7 rfl rfl ?_
    obtain ⟨k1, h⟩ := kd_s h
    refine g_getI 7 hE kc_M k1 (Nat.le_of_ble_eq_true rfl) rfl m_160 d_M_isObjectBelow_8 (fun x2 e => ?_)
    replace h := lt_i e h; clear e
    refine g_i2l hE d_M_isObjectBelow_11 ?_
    refine g_lcmp hE d_M_isObjectBelow_12 ?_
    refine g_if_ge hE d_M_isObjectBelow_13 (fun c14 => ?_) (fun c14 => ?_)
    · replace h := if_t c14 h
      refine g_iconst hE d_M_isObjectBelow_38 ki_0 ?_
      cases h
      exact g_zret hE (Or.inl rfl) d_M_isObjectBelow_39 rfl rfl
    · replace h := if_f c14 h
      refine g_aload_n (i := 0) hE d_M_isObjectBelow_16 rfl rfl ?_
      refine g_getR 0 hE kc_M k1 (Nat.le_of_ble_eq_true rfl) rfl m_41 d_M_isObjectBelow_17 (fun x3 e => ?_)
      replace h := lt_i e h; clear e
      refine g_aload_n (i := 0) hE d_M_isObjectBelow_20 rfl rfl ?_
      refine g_getR 5 hE kc_M k1 (Nat.le_of_ble_eq_true rfl) rfl m_45 d_M_isObjectBelow_21 (fun x4 e => ?_)
      replace h := lt_i e h; clear e
      refine g_lload_n (i := 1) hE d_M_isObjectBelow_24 rfl rfl ?_
      refine g_l2i hE d_M_isObjectBelow_25 ?_
      obtain ⟨a5, rfl, h⟩ := nn_s h
      obtain ⟨k6, h⟩ := kd_s h
      obtain ⟨g7, h⟩ := gi_s h
      refine g_iald hE k6 g7 d_M_isObjectBelow_26 (fun x8 e => ?_)
      replace h := lt_i e h; clear e
      refine g_iload_n (i := 3) hE d_M_isObjectBelow_27 rfl rfl ?_
      obtain ⟨a9, rfl, h⟩ := nn_s h
      obtain ⟨k10, h⟩ := kd_s h
      obtain ⟨x11, e12, h⟩ := bd_s h
      refine g_callV (av := [.inr (.inr (some a9)), .inl x8, .inl v3]) (as := [.inl x8, .inl v3]) (stk := [.int x11]) [] hE (c_Ty_isBelow (xl X) (xG X) e12) ky_Ty_isBelow ⟨Nat.le_of_ble_eq_true rfl, Nat.le_of_ble_eq_true rfl⟩ rfl kc_Ty k10 m_165 m_109 m_110 rfl d_M_isObjectBelow_28 rfl rfl ct_0 (Nat.zero_le _) (Nat.zero_le _) ?_
      refine gw.cs (c2 := 0) (s2 := 0) rfl rfl ?_
      refine g_if_eq hE d_M_isObjectBelow_31 (fun c13 => ?_) (fun c13 => ?_)
      · replace h := if_t c13 h
        refine g_iconst hE d_M_isObjectBelow_38 ki_0 ?_
        cases h
        exact g_zret hE (Or.inl rfl) d_M_isObjectBelow_39 rfl rfl
      · replace h := if_f c13 h
        refine g_iconst hE d_M_isObjectBelow_34 ki_1 ?_
        refine g_goto hE d_M_isObjectBelow_35 ?_
        cases h
        exact g_zret hE (Or.inr rfl) d_M_isObjectBelow_39 rfl rfl
theorem d_M_takesGiven_0 : dc b_M_takesGiven 0 (.iconst 0) 1 1 := ⟨by decide +kernel, rfl⟩
theorem d_M_takesGiven_1 : dc b_M_takesGiven 1 (.istore_n 2) 1 2 := ⟨by decide +kernel, rfl⟩
theorem d_M_takesGiven_2 : dc b_M_takesGiven 2 (.iload_n 2) 1 3 := ⟨by decide +kernel, rfl⟩
theorem d_M_takesGiven_3 : dc b_M_takesGiven 3 (.aload_n 1) 1 4 := ⟨by decide +kernel, rfl⟩
theorem d_M_takesGiven_4 : dc b_M_takesGiven 4 (.invokevirtual 372) 3 7 := ⟨by decide +kernel, rfl⟩
theorem d_M_takesGiven_7 : db b_M_takesGiven 7 (.if_icmp .ge 54) 54 61 10 := ⟨by decide +kernel, by decide, rfl⟩
theorem d_M_takesGiven_10 : dc b_M_takesGiven 10 (.aload_n 1) 1 11 := ⟨by decide +kernel, rfl⟩
theorem d_M_takesGiven_11 : dc b_M_takesGiven 11 (.getfield 271) 3 14 := ⟨by decide +kernel, rfl⟩
theorem d_M_takesGiven_14 : dc b_M_takesGiven 14 (.iload_n 2) 1 15 := ⟨by decide +kernel, rfl⟩
theorem d_M_takesGiven_15 : dc b_M_takesGiven 15 (.invokestatic 274) 3 18 := ⟨by decide +kernel, rfl⟩
theorem d_M_takesGiven_18 : dc b_M_takesGiven 18 (.istore_n 3) 1 19 := ⟨by decide +kernel, rfl⟩
theorem d_M_takesGiven_19 : dc b_M_takesGiven 19 (.iload_n 3) 1 20 := ⟨by decide +kernel, rfl⟩
theorem d_M_takesGiven_20 : dc b_M_takesGiven 20 (.invokestatic 375) 3 23 := ⟨by decide +kernel, rfl⟩
theorem d_M_takesGiven_23 : db b_M_takesGiven 23 (.ifCond .ne 32) 32 55 26 := ⟨by decide +kernel, by decide, rfl⟩
theorem d_M_takesGiven_26 : dc b_M_takesGiven 26 (.aload_n 0) 1 27 := ⟨by decide +kernel, rfl⟩
theorem d_M_takesGiven_27 : dc b_M_takesGiven 27 (.getfield 67) 3 30 := ⟨by decide +kernel, rfl⟩
theorem d_M_takesGiven_30 : dc b_M_takesGiven 30 (.iload_n 2) 1 31 := ⟨by decide +kernel, rfl⟩
theorem d_M_takesGiven_31 : dc b_M_takesGiven 31 (.laload) 1 32 := ⟨by decide +kernel, rfl⟩
theorem d_M_takesGiven_32 : dc b_M_takesGiven 32 (.ldc2_w 61) 3 35 := ⟨by decide +kernel, rfl⟩
theorem d_M_takesGiven_35 : dc b_M_takesGiven 35 (.lcmp) 1 36 := ⟨by decide +kernel, rfl⟩
theorem d_M_takesGiven_36 : db b_M_takesGiven 36 (.ifCond .eq 19) 19 55 39 := ⟨by decide +kernel, by decide, rfl⟩
theorem d_M_takesGiven_39 : dc b_M_takesGiven 39 (.aload_n 0) 1 40 := ⟨by decide +kernel, rfl⟩
theorem d_M_takesGiven_40 : dc b_M_takesGiven 40 (.aload_n 0) 1 41 := ⟨by decide +kernel, rfl⟩
theorem d_M_takesGiven_41 : dc b_M_takesGiven 41 (.getfield 67) 3 44 := ⟨by decide +kernel, rfl⟩
theorem d_M_takesGiven_44 : dc b_M_takesGiven 44 (.iload_n 2) 1 45 := ⟨by decide +kernel, rfl⟩
theorem d_M_takesGiven_45 : dc b_M_takesGiven 45 (.laload) 1 46 := ⟨by decide +kernel, rfl⟩
theorem d_M_takesGiven_46 : dc b_M_takesGiven 46 (.iload_n 3) 1 47 := ⟨by decide +kernel, rfl⟩
theorem d_M_takesGiven_47 : dc b_M_takesGiven 47 (.invokevirtual 378) 3 50 := ⟨by decide +kernel, rfl⟩
theorem d_M_takesGiven_50 : db b_M_takesGiven 50 (.ifCond .ne 5) 5 55 53 := ⟨by decide +kernel, by decide, rfl⟩
theorem d_M_takesGiven_53 : dc b_M_takesGiven 53 (.iconst 0) 1 54 := ⟨by decide +kernel, rfl⟩
theorem d_M_takesGiven_54 : dc b_M_takesGiven 54 (.ireturn) 1 55 := ⟨by decide +kernel, rfl⟩
theorem d_M_takesGiven_55 : dc b_M_takesGiven 55 (.iinc 2 1) 3 58 := ⟨by decide +kernel, rfl⟩
theorem d_M_takesGiven_58 : db b_M_takesGiven 58 (.goto (-56)) (-56) 2 61 := ⟨by decide +kernel, by decide, rfl⟩
theorem d_M_takesGiven_61 : dc b_M_takesGiven 61 (.iconst 1) 1 62 := ⟨by decide +kernel, rfl⟩
theorem d_M_takesGiven_62 : dc b_M_takesGiven 62 (.ireturn) 1 63 := ⟨by decide +kernel, rfl⟩
def f_M_takesGiven_J55 (S : gS) (d : gD) (o : Nat) (kb : Option Nat → Int32 → Option (Int32)) (v1 : Option Nat) (v2 : Int32) : Option (Int32) :=
  kb v1 (v2 + 1)
set_option maxRecDepth 100000 in
set_option maxHeartbeats 4000000 in
theorem w_M_takesGiven_J55 {X : GX} (hE : gE X b_M_takesGiven 4 "StandInMill" (some (.boolean)) "takesGiven" 3 66) {S : gS} {d : gD} {o : Nat} {r : Int32} {kb : Option Nat → Int32 → Option (Int32)} (hkb : ∀ (v1 : Option Nat) (v2 : Int32), kb v1 v2 = some r → gw X 0 0 (gQ X (some (.int r)) S d 0 0) S d 2 [some (va_rf (some o)), some (va_rf v1), some (.int v2), none] []) :
    ∀ (v1 : Option Nat) (v2 : Int32), f_M_takesGiven_J55 S d o kb v1 v2 = some r → gw X 0 0 (gQ X (some (.int r)) S d 0 0) S d 55 [some (va_rf (some o)), some (va_rf v1), some (.int v2), none] [] := by
  intro v1 v2 h
  unfold f_M_takesGiven_J55 at h
  refine g_iinc (i := 2) (lv' := [some (va_rf (some o)), some (va_rf v1), some (.int (v2 + 1)), none]) hE d_M_takesGiven_55 ki_1 rfl (Nat.le_of_ble_eq_true rfl) ⟨rfl, Nat.le_of_ble_eq_true rfl⟩ (lvp_r rfl) ?_
  refine g_goto hE d_M_takesGiven_58 ?_
  exact gw.less (lv' := [some (va_rf (some o)), some (va_rf v1), some (.int (v2 + 1)), none]) (And.intro rfl (And.intro rfl (And.intro rfl trivial))) (hkb v1 (v2 + 1) h)
def f_M_takesGiven_B2 (S : gS) (d : gD) (o : Nat) (kb : Option Nat → Int32 → Option (Int32)) (v1 : Option Nat) (v2 : Int32) : Option (Int32) :=
  nn v1 fun a1 =>
  kd S a1 5 <|
  bd (f_Om_parameterCount S d a1) fun x3 =>
  if x3 ≤ v2 then (
    some 1)
  else (
    lt_ (dI d a1 3) fun x5 =>
    bd (f_M_byteOf S d x5 v2) fun x6 =>
    bd (f_M_isPlain S d x6) fun x8 =>
    if x8 = 0 then (
      kd S o 1 <|
      lt_ (sP S o 16) fun x11 =>
      nn x11 fun a12 =>
      kd S a12 51 <|
      gi v2 (sN S a12) <|
      lt_ (dL d a12 v2.toNatClampNeg) fun x15 =>
      if (lg_cmp x15 (-1)) = 0 then (
        f_M_takesGiven_J55 S d o kb (some a1) v2)
      else (
        lt_ (sP S o 16) fun x16 =>
        nn x16 fun a17 =>
        kd S a17 51 <|
        gi v2 (sN S a17) <|
        lt_ (dL d a17 v2.toNatClampNeg) fun x20 =>
        bd (f_M_isObjectBelow S d o x20 x6) fun x21 =>
        if x21 = 0 then (
          some 0)
        else (
          f_M_takesGiven_J55 S d o kb (some a1) v2)))
    else (
      f_M_takesGiven_J55 S d o kb (some a1) v2))
set_option maxRecDepth 100000 in
set_option maxHeartbeats 4000000 in
theorem w_M_takesGiven_B2 {X : GX} (hE : gE X b_M_takesGiven 4 "StandInMill" (some (.boolean)) "takesGiven" 3 66) {S : gS} {d : gD} {o : Nat} {r : Int32} {kb : Option Nat → Int32 → Option (Int32)} (hkb : ∀ (v1 : Option Nat) (v2 : Int32), kb v1 v2 = some r → gw X 0 0 (gQ X (some (.int r)) S d 0 0) S d 2 [some (va_rf (some o)), some (va_rf v1), some (.int v2), none] []) :
    ∀ (v1 : Option Nat) (v2 : Int32), f_M_takesGiven_B2 S d o kb v1 v2 = some r → gw X 0 0 (gQ X (some (.int r)) S d 0 0) S d 2 [some (va_rf (some o)), some (va_rf v1), some (.int v2), none] [] := by
  intro v1 v2 h
  unfold f_M_takesGiven_B2 at h
  refine g_iload_n (i := 2) hE d_M_takesGiven_2 rfl rfl ?_
  refine g_aload_n (i := 1) hE d_M_takesGiven_3 rfl rfl ?_
  obtain ⟨a1, rfl, h⟩ := nn_s h
  obtain ⟨k2, h⟩ := kd_s h
  obtain ⟨x3, e4, h⟩ := bd_s h
  refine g_callV (av := [.inr (.inr (some a1))]) (as := []) (stk := [.int x3, .int v2]) [.int v2] hE (c_Om_parameterCount (xl X) (xG X) e4) ky_Om_parameterCount ⟨Nat.le_of_ble_eq_true rfl, Nat.le_of_ble_eq_true rfl⟩ rfl kc_Om k2 m_354 m_290 m_291 rfl d_M_takesGiven_4 rfl rfl (Nat.le_trans (ct_i ct_n) (Nat.le_of_ble_eq_true rfl)) (Nat.zero_le _) (Nat.zero_le _) ?_
  refine gw.cs (c2 := 0) (s2 := 0) rfl rfl ?_
  refine g_icmp_ge hE d_M_takesGiven_7 (fun c26 => ?_) (fun c26 => ?_)
  · replace h := if_t c26 h
    refine g_iconst hE d_M_takesGiven_61 ki_1 ?_
    cases h
    exact g_zret hE (Or.inr rfl) d_M_takesGiven_62 rfl rfl
  · replace h := if_f c26 h
    refine g_aload_n (i := 1) hE d_M_takesGiven_10 rfl rfl ?_
    refine g_getIN 3 hE kc_Om k2 (Nat.le_of_ble_eq_true rfl) rfl nf_47 d_M_takesGiven_11 (fun x5 e => ?_)
    replace h := lt_i e h; clear e
    refine g_iload_n (i := 2) hE d_M_takesGiven_14 rfl rfl ?_
    obtain ⟨x6, e7, h⟩ := bd_s h
    refine g_callS (av := [.inl x5, .inl v2]) (stk := [.int x6]) [] hE (c_M_byteOf (xl X) (xG X) e7) ky_M_byteOf ⟨Nat.le_of_ble_eq_true rfl, Nat.le_of_ble_eq_true rfl⟩ m_128 m_129 rfl d_M_takesGiven_15 rfl rfl ct_0 (Nat.zero_le _) (Nat.zero_le _) ?_
    refine gw.cs (c2 := 0) (s2 := 0) rfl rfl ?_
    refine g_istore_n (i := 3) (lv' := [some (va_rf (some o)), some (va_rf (some a1)), some (.int v2), some (.int x6)]) hE d_M_takesGiven_18 rfl (Nat.le_of_ble_eq_true rfl) ⟨rfl, Nat.le_of_ble_eq_true rfl⟩ (lvp_i rfl) ?_
    refine g_iload_n (i := 3) hE d_M_takesGiven_19 rfl rfl ?_
    obtain ⟨x8, e9, h⟩ := bd_s h
    refine g_callS (av := [.inl x6]) (stk := [.int x8]) [] hE (c_M_isPlain (xl X) (xG X) e9) ky_M_isPlain ⟨Nat.le_of_ble_eq_true rfl, Nat.le_of_ble_eq_true rfl⟩ m_355 m_130 rfl d_M_takesGiven_20 rfl rfl ct_0 (Nat.zero_le _) (Nat.zero_le _) ?_
    refine gw.cs (c2 := 0) (s2 := 0) rfl rfl ?_
    refine g_if_ne hE d_M_takesGiven_23 (fun c25 => ?_) (fun c25 => ?_)
    · replace h := if_f c25 h
      exact gw.less (lv' := [some (va_rf (some o)), some (va_rf (some a1)), some (.int v2), none]) (And.intro rfl (And.intro rfl (And.intro rfl trivial))) (w_M_takesGiven_J55 hE hkb (some a1) v2 h)
    · replace h := if_t c25 h
      refine g_aload_n (i := 0) hE d_M_takesGiven_26 rfl rfl ?_
      obtain ⟨k10, h⟩ := kd_s h
      refine g_getR 16 hE kc_M k10 (Nat.le_of_ble_eq_true rfl) rfl m_64 d_M_takesGiven_27 (fun x11 e => ?_)
      replace h := lt_i e h; clear e
      refine g_iload_n (i := 2) hE d_M_takesGiven_30 rfl rfl ?_
      obtain ⟨a12, rfl, h⟩ := nn_s h
      obtain ⟨k13, h⟩ := kd_s h
      obtain ⟨g14, h⟩ := gi_s h
      refine g_lald hE k13 g14 d_M_takesGiven_31 (fun x15 e => ?_)
      replace h := lt_i e h; clear e
      refine g_ldc2 hE d_M_takesGiven_32 m_62 ?_
      refine g_lcmp hE d_M_takesGiven_35 ?_
      refine g_if_eq hE d_M_takesGiven_36 (fun c24 => ?_) (fun c24 => ?_)
      · replace h := if_t c24 h
        exact gw.less (lv' := [some (va_rf (some o)), some (va_rf (some a1)), some (.int v2), none]) (And.intro rfl (And.intro rfl (And.intro rfl trivial))) (w_M_takesGiven_J55 hE hkb (some a1) v2 h)
      · replace h := if_f c24 h
        refine g_aload_n (i := 0) hE d_M_takesGiven_39 rfl rfl ?_
        refine g_aload_n (i := 0) hE d_M_takesGiven_40 rfl rfl ?_
        refine g_getR 16 hE kc_M k10 (Nat.le_of_ble_eq_true rfl) rfl m_64 d_M_takesGiven_41 (fun x16 e => ?_)
        replace h := lt_i e h; clear e
        refine g_iload_n (i := 2) hE d_M_takesGiven_44 rfl rfl ?_
        obtain ⟨a17, rfl, h⟩ := nn_s h
        obtain ⟨k18, h⟩ := kd_s h
        obtain ⟨g19, h⟩ := gi_s h
        refine g_lald hE k18 g19 d_M_takesGiven_45 (fun x20 e => ?_)
        replace h := lt_i e h; clear e
        refine g_iload_n (i := 3) hE d_M_takesGiven_46 rfl rfl ?_
        obtain ⟨x21, e22, h⟩ := bd_s h
        refine g_callV (av := [.inr (.inr (some o)), .inr (.inl x20), .inl x6]) (as := [.inr (.inl x20), .inl x6]) (stk := [.int x21]) [] hE (c_M_isObjectBelow (xl X) (xG X) e22) ky_M_isObjectBelow ⟨Nat.le_of_ble_eq_true rfl, Nat.le_of_ble_eq_true rfl⟩ rfl kc_M k10 m_356 m_357 m_358 rfl d_M_takesGiven_47 rfl rfl ct_0 (Nat.zero_le _) (Nat.zero_le _) ?_
        refine gw.cs (c2 := 0) (s2 := 0) rfl rfl ?_
        refine g_if_ne hE d_M_takesGiven_50 (fun c23 => ?_) (fun c23 => ?_)
        · replace h := if_f c23 h
          exact gw.less (lv' := [some (va_rf (some o)), some (va_rf (some a1)), some (.int v2), none]) (And.intro rfl (And.intro rfl (And.intro rfl trivial))) (w_M_takesGiven_J55 hE hkb (some a1) v2 h)
        · replace h := if_t c23 h
          refine g_iconst hE d_M_takesGiven_53 ki_0 ?_
          cases h
          exact g_zret hE (Or.inl rfl) d_M_takesGiven_54 rfl rfl
theorem w_M_takesGiven_L2 {X : GX} (hE : gE X b_M_takesGiven 4 "StandInMill" (some (.boolean)) "takesGiven" 3 66) {S : gS} {d : gD} {o : Nat} {r : Int32} : ∀ (n : Nat) (v1 : Option Nat) (v2 : Int32), itr (f_M_takesGiven_B2 S d o) (fun _ _ => none) n v1 v2 = some r → gw X 0 0 (gQ X (some (.int r)) S d 0 0) S d 2 [some (va_rf (some o)), some (va_rf v1), some (.int v2), none] [] := by
  intro n
  induction n with
  | zero => intro v1 v2 h; cases h
  | succ n ih => exact w_M_takesGiven_B2 hE ih
set_option maxRecDepth 100000 in
def f_M_takesGiven (S : gS) (d : gD) (o : Nat) (v1 : Option Nat) : Option (Int32) :=
  itr (f_M_takesGiven_B2 S d o) (fun _ _ => none) fu v1 0
set_option maxRecDepth 100000 in
set_option maxHeartbeats 4000000 in
theorem c_M_takesGiven (l : Launch) (G : gG) {S : gS} {d : gD} {o : Nat} {v1 : Option Nat} {r : Int32} (h : f_M_takesGiven S d o v1 = some r) : GM l G y_M_takesGiven b_M_takesGiven 4 (some (.boolean)) 3 66 0 0 [.inr (.inr (some o)), .inr (.inr v1)] S d (some (.int r)) S d := by
  refine GM.of (by decide) (Nat.le_of_ble_eq_true rfl) ?_
  intro X hl0 hG0 hR0 hE0
  have hE : gE X b_M_takesGiven 4 "StandInMill" (some (.boolean)) "takesGiven" 3 66 := hE0
  unfold f_M_takesGiven at h
  refine gw.less (lv' := [some (va_rf (some o)), some (va_rf v1), none, none]) (And.intro rfl (And.intro rfl trivial)) ?_
  refine g_iconst hE d_M_takesGiven_0 ki_0 ?_
  refine g_istore_n (i := 2) (lv' := [some (va_rf (some o)), some (va_rf v1), some (.int 0), none]) hE d_M_takesGiven_1 rfl (Nat.le_of_ble_eq_true rfl) ⟨rfl, Nat.le_of_ble_eq_true rfl⟩ (lvp_r rfl) ?_
  exact gw.less (lv' := [some (va_rf (some o)), some (va_rf v1), some (.int 0), none]) (And.intro rfl (And.intro rfl (And.intro rfl trivial))) (w_M_takesGiven_L2 hE fu v1 0 h)
theorem d_M_showObject_0 : dc b_M_showObject 0 (.iload_n 2) 1 1 := ⟨by decide +kernel, rfl⟩
theorem d_M_showObject_1 : dc b_M_showObject 1 (.aload_n 0) 1 2 := ⟨by decide +kernel, rfl⟩
theorem d_M_showObject_2 : dc b_M_showObject 2 (.getfield 184) 3 5 := ⟨by decide +kernel, rfl⟩
theorem d_M_showObject_5 : dc b_M_showObject 5 (.invokestatic 94) 3 8 := ⟨by decide +kernel, rfl⟩
theorem d_M_showObject_8 : dc b_M_showObject 8 (.istore_n 3) 1 9 := ⟨by decide +kernel, rfl⟩
theorem d_M_showObject_9 : dc b_M_showObject 9 (.aload_n 0) 1 10 := ⟨by decide +kernel, rfl⟩
theorem d_M_showObject_10 : dc b_M_showObject 10 (.getfield 70) 3 13 := ⟨by decide +kernel, rfl⟩
theorem d_M_showObject_13 : dc b_M_showObject 13 (.iconst 3) 1 14 := ⟨by decide +kernel, rfl⟩
theorem d_M_showObject_14 : dc b_M_showObject 14 (.iload_n 1) 1 15 := ⟨by decide +kernel, rfl⟩
theorem d_M_showObject_15 : dc b_M_showObject 15 (.iadd) 1 16 := ⟨by decide +kernel, rfl⟩
theorem d_M_showObject_16 : dc b_M_showObject 16 (.iload_n 3) 1 17 := ⟨by decide +kernel, rfl⟩
theorem d_M_showObject_17 : db b_M_showObject 17 (.ifCond .eq 13) 13 30 20 := ⟨by decide +kernel, by decide, rfl⟩
theorem d_M_showObject_20 : dc b_M_showObject 20 (.aload_n 0) 1 21 := ⟨by decide +kernel, rfl⟩
theorem d_M_showObject_21 : dc b_M_showObject 21 (.getfield 26) 3 24 := ⟨by decide +kernel, rfl⟩
theorem d_M_showObject_24 : dc b_M_showObject 24 (.iload_n 2) 1 25 := ⟨by decide +kernel, rfl⟩
theorem d_M_showObject_25 : dc b_M_showObject 25 (.iaload) 1 26 := ⟨by decide +kernel, rfl⟩
theorem d_M_showObject_26 : dc b_M_showObject 26 (.i2l) 1 27 := ⟨by decide +kernel, rfl⟩
theorem d_M_showObject_27 : db b_M_showObject 27 (.goto 6) 6 33 30 := ⟨by decide +kernel, by decide, rfl⟩
theorem d_M_showObject_30 : dc b_M_showObject 30 (.ldc2_w 61) 3 33 := ⟨by decide +kernel, rfl⟩
theorem d_M_showObject_33 : dc b_M_showObject 33 (.lastore) 1 34 := ⟨by decide +kernel, rfl⟩
theorem d_M_showObject_34 : dc b_M_showObject 34 (.aload_n 0) 1 35 := ⟨by decide +kernel, rfl⟩
theorem d_M_showObject_35 : dc b_M_showObject 35 (.getfield 70) 3 38 := ⟨by decide +kernel, rfl⟩
theorem d_M_showObject_38 : dc b_M_showObject 38 (.bipush 6) 2 40 := ⟨by decide +kernel, rfl⟩
theorem d_M_showObject_40 : dc b_M_showObject 40 (.iload_n 1) 1 41 := ⟨by decide +kernel, rfl⟩
theorem d_M_showObject_41 : dc b_M_showObject 41 (.iadd) 1 42 := ⟨by decide +kernel, rfl⟩
theorem d_M_showObject_42 : dc b_M_showObject 42 (.iload_n 3) 1 43 := ⟨by decide +kernel, rfl⟩
theorem d_M_showObject_43 : db b_M_showObject 43 (.ifCond .eq 12) 12 55 46 := ⟨by decide +kernel, by decide, rfl⟩
theorem d_M_showObject_46 : dc b_M_showObject 46 (.aload_n 0) 1 47 := ⟨by decide +kernel, rfl⟩
theorem d_M_showObject_47 : dc b_M_showObject 47 (.getfield 29) 3 50 := ⟨by decide +kernel, rfl⟩
theorem d_M_showObject_50 : dc b_M_showObject 50 (.iload_n 2) 1 51 := ⟨by decide +kernel, rfl⟩
theorem d_M_showObject_51 : dc b_M_showObject 51 (.laload) 1 52 := ⟨by decide +kernel, rfl⟩
theorem d_M_showObject_52 : db b_M_showObject 52 (.goto 4) 4 56 55 := ⟨by decide +kernel, by decide, rfl⟩
theorem d_M_showObject_55 : dc b_M_showObject 55 (.lconst 0) 1 56 := ⟨by decide +kernel, rfl⟩
theorem d_M_showObject_56 : dc b_M_showObject 56 (.lastore) 1 57 := ⟨by decide +kernel, rfl⟩
theorem d_M_showObject_57 : dc b_M_showObject 57 (.return_) 1 58 := ⟨by decide +kernel, rfl⟩
def f_M_showObject_J56 (S : gS) (o : Nat) (d : gD) (u0 : Option Nat) (u1 : Int32) (u2 : Int64) : Option (Unit × gD) :=
  nn u0 fun a1 =>
  kd S a1 51 <|
  gi u1 (sN S a1) <|
  lt_ (wL d a1 u1.toNatClampNeg u2) fun d4 =>
  some ((), d4)
set_option maxRecDepth 100000 in
set_option maxHeartbeats 4000000 in
theorem w_M_showObject_J56 {X : GX} (hE : gE X b_M_showObject 4 "StandInMill" none "showObject" 1 21) {S : gS} {o : Nat} {r : Unit} {d' : gD} :
    ∀ (d : gD) (u0 : Option Nat) (u1 : Int32) (u2 : Int64), f_M_showObject_J56 S o d u0 u1 u2 = some (r, d') → gw X 0 0 (gQ X (none) S d' 0 0) S d 56 [some (va_rf (some o)), none, none, none] [.long u2, .int u1, va_rf u0] := by
  intro d u0 u1 u2 h
  unfold f_M_showObject_J56 at h
  obtain ⟨a1, rfl, h⟩ := nn_s h
  obtain ⟨k2, h⟩ := kd_s h
  obtain ⟨g3, h⟩ := gi_s h
  refine g_last hE k2 g3 d_M_showObject_56 (fun d4 e => ?_)
  replace h := lt_i e h; clear e
  cases h
  exact g_vret hE d_M_showObject_57 rfl rfl
def f_M_showObject_J33 (S : gS) (o : Nat) (d : gD) (v1 : Int32) (v2 : Int32) (v3 : Int32) (u0 : Option Nat) (u1 : Int32) (u2 : Int64) : Option (Unit × gD) :=
  nn u0 fun a1 =>
  kd S a1 51 <|
  gi u1 (sN S a1) <|
  lt_ (wL d a1 u1.toNatClampNeg u2) fun d4 =>
  kd S o 1 <|
  lt_ (sP S o 17) fun x6 =>
  if v3 = 0 then (
    f_M_showObject_J56 S o d4 x6 (6 + v1) 0)
  else (
    lt_ (sP S o 6) fun x7 =>
    nn x7 fun a8 =>
    kd S a8 51 <|
    gi v2 (sN S a8) <|
    lt_ (dL d4 a8 v2.toNatClampNeg) fun x11 =>
    f_M_showObject_J56 S o d4 x6 (6 + v1) x11)
set_option maxRecDepth 100000 in
set_option maxHeartbeats 4000000 in
theorem w_M_showObject_J33 {X : GX} (hE : gE X b_M_showObject 4 "StandInMill" none "showObject" 1 21) {S : gS} {o : Nat} {r : Unit} {d' : gD} :
    ∀ (d : gD) (v1 : Int32) (v2 : Int32) (v3 : Int32) (u0 : Option Nat) (u1 : Int32) (u2 : Int64), f_M_showObject_J33 S o d v1 v2 v3 u0 u1 u2 = some (r, d') → gw X 0 0 (gQ X (none) S d' 0 0) S d 33 [some (va_rf (some o)), some (.int v1), some (.int v2), some (.int v3)] [.long u2, .int u1, va_rf u0] := by
  intro d v1 v2 v3 u0 u1 u2 h
  unfold f_M_showObject_J33 at h
  obtain ⟨a1, rfl, h⟩ := nn_s h
  obtain ⟨k2, h⟩ := kd_s h
  obtain ⟨g3, h⟩ := gi_s h
  refine g_last hE k2 g3 d_M_showObject_33 (fun d4 e => ?_)
  replace h := lt_i e h; clear e
  refine g_aload_n (i := 0) hE d_M_showObject_34 rfl rfl ?_
  obtain ⟨k5, h⟩ := kd_s h
  refine g_getR 17 hE kc_M k5 (Nat.le_of_ble_eq_true rfl) rfl m_65 d_M_showObject_35 (fun x6 e => ?_)
  replace h := lt_i e h; clear e
  refine g_bipush hE d_M_showObject_38 kb_6 ?_
  refine g_iload_n (i := 1) hE d_M_showObject_40 rfl rfl ?_
  refine g_iadd hE d_M_showObject_41 ?_
  refine g_iload_n (i := 3) hE d_M_showObject_42 rfl rfl ?_
  refine g_if_eq hE d_M_showObject_43 (fun c12 => ?_) (fun c12 => ?_)
  · replace h := if_t c12 h
    refine g_lconst (v := 0) hE d_M_showObject_55 rfl ?_
    exact gw.less (lv' := [some (va_rf (some o)), none, none, none]) (And.intro rfl trivial) (w_M_showObject_J56 hE d4 x6 (6 + v1) 0 h)
  · replace h := if_f c12 h
    refine g_aload_n (i := 0) hE d_M_showObject_46 rfl rfl ?_
    refine g_getR 6 hE kc_M k5 (Nat.le_of_ble_eq_true rfl) rfl m_46 d_M_showObject_47 (fun x7 e => ?_)
    replace h := lt_i e h; clear e
    refine g_iload_n (i := 2) hE d_M_showObject_50 rfl rfl ?_
    obtain ⟨a8, rfl, h⟩ := nn_s h
    obtain ⟨k9, h⟩ := kd_s h
    obtain ⟨g10, h⟩ := gi_s h
    refine g_lald hE k9 g10 d_M_showObject_51 (fun x11 e => ?_)
    replace h := lt_i e h; clear e
    refine g_goto hE d_M_showObject_52 ?_
    exact gw.less (lv' := [some (va_rf (some o)), none, none, none]) (And.intro rfl trivial) (w_M_showObject_J56 hE d4 x6 (6 + v1) x11 h)
set_option maxRecDepth 100000 in
def f_M_showObject (S : gS) (d : gD) (o : Nat) (v1 : Int32) (v2 : Int32) : Option (Unit × gD) :=
  kd S o 1 <|
  lt_ (dI d o 7) fun x2 =>
  bd (f_M_isWithin S d v2 x2) fun x3 =>
  lt_ (sP S o 17) fun x5 =>
  if x3 = 0 then (
    f_M_showObject_J33 S o d v1 v2 x3 x5 (3 + v1) (-1))
  else (
    lt_ (sP S o 5) fun x6 =>
    nn x6 fun a7 =>
    kd S a7 50 <|
    gi v2 (sN S a7) <|
    lt_ (dI d a7 v2.toNatClampNeg) fun x10 =>
    f_M_showObject_J33 S o d v1 v2 x3 x5 (3 + v1) (Int32.toInt64 x10))
set_option maxRecDepth 100000 in
set_option maxHeartbeats 4000000 in
theorem c_M_showObject (l : Launch) (G : gG) {S : gS} {d : gD} {o : Nat} {v1 : Int32} {v2 : Int32} {r : Unit} {d' : gD} (h : f_M_showObject S d o v1 v2 = some (r, d')) : GM l G y_M_showObject b_M_showObject 4 none 1 21 0 0 [.inr (.inr (some o)), .inl v1, .inl v2] S d (none) S d' := by
  refine GM.of (by decide) (Nat.le_of_ble_eq_true rfl) ?_
  intro X hl0 hG0 hR0 hE0
  have hE : gE X b_M_showObject 4 "StandInMill" none "showObject" 1 21 := hE0
  unfold f_M_showObject at h
  refine gw.less (lv' := [some (va_rf (some o)), some (.int v1), some (.int v2), none]) (And.intro rfl (And.intro rfl (And.intro rfl trivial))) ?_
  refine g_iload_n (i := 2) hE d_M_showObject_0 rfl rfl ?_
  refine g_aload_n (i := 0) hE d_M_showObject_1 rfl rfl ?_
  obtain ⟨k1, h⟩ := kd_s h
  refine g_getI 7 hE kc_M k1 (Nat.le_of_ble_eq_true rfl) rfl m_160 d_M_showObject_2 (fun x2 e => ?_)
  replace h := lt_i e h; clear e
  obtain ⟨x3, e4, h⟩ := bd_s h
  refine g_callS (av := [.inl v2, .inl x2]) (stk := [.int x3]) [] hE (c_M_isWithin (xl X) (xG X) e4) ky_M_isWithin ⟨Nat.le_of_ble_eq_true rfl, Nat.le_of_ble_eq_true rfl⟩ m_73 m_74 rfl d_M_showObject_5 rfl rfl ct_0 (Nat.zero_le _) (Nat.zero_le _) ?_
  refine gw.cs (c2 := 0) (s2 := 0) rfl rfl ?_
  refine g_istore_n (i := 3) (lv' := [some (va_rf (some o)), some (.int v1), some (.int v2), some (.int x3)]) hE d_M_showObject_8 rfl (Nat.le_of_ble_eq_true rfl) ⟨rfl, Nat.le_of_ble_eq_true rfl⟩ (lvp_i rfl) ?_
  refine g_aload_n (i := 0) hE d_M_showObject_9 rfl rfl ?_
  refine g_getR 17 hE kc_M k1 (Nat.le_of_ble_eq_true rfl) rfl m_65 d_M_showObject_10 (fun x5 e => ?_)
  replace h := lt_i e h; clear e
  refine g_iconst hE d_M_showObject_13 ki_3 ?_
  refine g_iload_n (i := 1) hE d_M_showObject_14 rfl rfl ?_
  refine g_iadd hE d_M_showObject_15 ?_
  refine g_iload_n (i := 3) hE d_M_showObject_16 rfl rfl ?_
  refine g_if_eq hE d_M_showObject_17 (fun c11 => ?_) (fun c11 => ?_)
  · replace h := if_t c11 h
    refine g_ldc2 hE d_M_showObject_30 m_62 ?_
    exact gw.less (lv' := [some (va_rf (some o)), some (.int v1), some (.int v2), some (.int x3)]) (And.intro rfl (And.intro rfl (And.intro rfl (And.intro rfl trivial)))) (w_M_showObject_J33 hE d v1 v2 x3 x5 (3 + v1) (-1) h)
  · replace h := if_f c11 h
    refine g_aload_n (i := 0) hE d_M_showObject_20 rfl rfl ?_
    refine g_getR 5 hE kc_M k1 (Nat.le_of_ble_eq_true rfl) rfl m_45 d_M_showObject_21 (fun x6 e => ?_)
    replace h := lt_i e h; clear e
    refine g_iload_n (i := 2) hE d_M_showObject_24 rfl rfl ?_
    obtain ⟨a7, rfl, h⟩ := nn_s h
    obtain ⟨k8, h⟩ := kd_s h
    obtain ⟨g9, h⟩ := gi_s h
    refine g_iald hE k8 g9 d_M_showObject_25 (fun x10 e => ?_)
    replace h := lt_i e h; clear e
    refine g_i2l hE d_M_showObject_26 ?_
    refine g_goto hE d_M_showObject_27 ?_
    exact gw.less (lv' := [some (va_rf (some o)), some (.int v1), some (.int v2), some (.int x3)]) (And.intro rfl (And.intro rfl (And.intro rfl (And.intro rfl trivial)))) (w_M_showObject_J33 hE d v1 v2 x3 x5 (3 + v1) (Int32.toInt64 x10) h)
theorem d_M_showHandler_0 : dc b_M_showHandler 0 (.aload_n 0) 1 1 := ⟨by decide +kernel, rfl⟩
theorem d_M_showHandler_1 : dc b_M_showHandler 1 (.getfield 70) 3 4 := ⟨by decide +kernel, rfl⟩
theorem d_M_showHandler_4 : dc b_M_showHandler 4 (.ldc2_w 61) 3 7 := ⟨by decide +kernel, rfl⟩
theorem d_M_showHandler_7 : dc b_M_showHandler 7 (.invokestatic 80) 3 10 := ⟨by decide +kernel, rfl⟩
theorem d_M_showHandler_10 : dc b_M_showHandler 10 (.aload_n 0) 1 11 := ⟨by decide +kernel, rfl⟩
theorem d_M_showHandler_11 : dc b_M_showHandler 11 (.getfield 70) 3 14 := ⟨by decide +kernel, rfl⟩
theorem d_M_showHandler_14 : dc b_M_showHandler 14 (.iconst 0) 1 15 := ⟨by decide +kernel, rfl⟩
theorem d_M_showHandler_15 : dc b_M_showHandler 15 (.aload_n 1) 1 16 := ⟨by decide +kernel, rfl⟩
theorem d_M_showHandler_16 : dc b_M_showHandler 16 (.getfield 277) 3 19 := ⟨by decide +kernel, rfl⟩
theorem d_M_showHandler_19 : dc b_M_showHandler 19 (.i2l) 1 20 := ⟨by decide +kernel, rfl⟩
theorem d_M_showHandler_20 : dc b_M_showHandler 20 (.lastore) 1 21 := ⟨by decide +kernel, rfl⟩
theorem d_M_showHandler_21 : dc b_M_showHandler 21 (.aload_n 0) 1 22 := ⟨by decide +kernel, rfl⟩
theorem d_M_showHandler_22 : dc b_M_showHandler 22 (.getfield 70) 3 25 := ⟨by decide +kernel, rfl⟩
theorem d_M_showHandler_25 : dc b_M_showHandler 25 (.iconst 1) 1 26 := ⟨by decide +kernel, rfl⟩
theorem d_M_showHandler_26 : dc b_M_showHandler 26 (.aload_n 1) 1 27 := ⟨by decide +kernel, rfl⟩
theorem d_M_showHandler_27 : dc b_M_showHandler 27 (.getfield 280) 3 30 := ⟨by decide +kernel, rfl⟩
theorem d_M_showHandler_30 : dc b_M_showHandler 30 (.i2l) 1 31 := ⟨by decide +kernel, rfl⟩
theorem d_M_showHandler_31 : dc b_M_showHandler 31 (.lastore) 1 32 := ⟨by decide +kernel, rfl⟩
theorem d_M_showHandler_32 : dc b_M_showHandler 32 (.aload_n 0) 1 33 := ⟨by decide +kernel, rfl⟩
theorem d_M_showHandler_33 : dc b_M_showHandler 33 (.getfield 70) 3 36 := ⟨by decide +kernel, rfl⟩
theorem d_M_showHandler_36 : dc b_M_showHandler 36 (.iconst 2) 1 37 := ⟨by decide +kernel, rfl⟩
theorem d_M_showHandler_37 : dc b_M_showHandler 37 (.aload_n 1) 1 38 := ⟨by decide +kernel, rfl⟩
theorem d_M_showHandler_38 : dc b_M_showHandler 38 (.invokevirtual 372) 3 41 := ⟨by decide +kernel, rfl⟩
theorem d_M_showHandler_41 : dc b_M_showHandler 41 (.i2l) 1 42 := ⟨by decide +kernel, rfl⟩
theorem d_M_showHandler_42 : dc b_M_showHandler 42 (.lastore) 1 43 := ⟨by decide +kernel, rfl⟩
theorem d_M_showHandler_43 : dc b_M_showHandler 43 (.iconst 0) 1 44 := ⟨by decide +kernel, rfl⟩
theorem d_M_showHandler_44 : dc b_M_showHandler 44 (.istore_n 2) 1 45 := ⟨by decide +kernel, rfl⟩
theorem d_M_showHandler_45 : dc b_M_showHandler 45 (.iload_n 2) 1 46 := ⟨by decide +kernel, rfl⟩
theorem d_M_showHandler_46 : dc b_M_showHandler 46 (.aload_n 1) 1 47 := ⟨by decide +kernel, rfl⟩
theorem d_M_showHandler_47 : dc b_M_showHandler 47 (.invokevirtual 372) 3 50 := ⟨by decide +kernel, rfl⟩
theorem d_M_showHandler_50 : db b_M_showHandler 50 (.if_icmp .ge 72) 72 122 53 := ⟨by decide +kernel, by decide, rfl⟩
theorem d_M_showHandler_53 : dc b_M_showHandler 53 (.aload_n 1) 1 54 := ⟨by decide +kernel, rfl⟩
theorem d_M_showHandler_54 : dc b_M_showHandler 54 (.getfield 271) 3 57 := ⟨by decide +kernel, rfl⟩
theorem d_M_showHandler_57 : dc b_M_showHandler 57 (.iload_n 2) 1 58 := ⟨by decide +kernel, rfl⟩
theorem d_M_showHandler_58 : dc b_M_showHandler 58 (.invokestatic 274) 3 61 := ⟨by decide +kernel, rfl⟩
theorem d_M_showHandler_61 : dc b_M_showHandler 61 (.istore_n 3) 1 62 := ⟨by decide +kernel, rfl⟩
theorem d_M_showHandler_62 : dc b_M_showHandler 62 (.iload_n 3) 1 63 := ⟨by decide +kernel, rfl⟩
theorem d_M_showHandler_63 : dc b_M_showHandler 63 (.invokestatic 375) 3 66 := ⟨by decide +kernel, rfl⟩
theorem d_M_showHandler_66 : db b_M_showHandler 66 (.ifCond .eq 38) 38 104 69 := ⟨by decide +kernel, by decide, rfl⟩
theorem d_M_showHandler_69 : dc b_M_showHandler 69 (.aload_n 0) 1 70 := ⟨by decide +kernel, rfl⟩
theorem d_M_showHandler_70 : dc b_M_showHandler 70 (.getfield 70) 3 73 := ⟨by decide +kernel, rfl⟩
theorem d_M_showHandler_73 : dc b_M_showHandler 73 (.iconst 3) 1 74 := ⟨by decide +kernel, rfl⟩
theorem d_M_showHandler_74 : dc b_M_showHandler 74 (.iload_n 2) 1 75 := ⟨by decide +kernel, rfl⟩
theorem d_M_showHandler_75 : dc b_M_showHandler 75 (.iadd) 1 76 := ⟨by decide +kernel, rfl⟩
theorem d_M_showHandler_76 : dc b_M_showHandler 76 (.iload_n 3) 1 77 := ⟨by decide +kernel, rfl⟩
theorem d_M_showHandler_77 : dc b_M_showHandler 77 (.bipush 40) 2 79 := ⟨by decide +kernel, rfl⟩
theorem d_M_showHandler_79 : dc b_M_showHandler 79 (.iadd) 1 80 := ⟨by decide +kernel, rfl⟩
theorem d_M_showHandler_80 : dc b_M_showHandler 80 (.i2l) 1 81 := ⟨by decide +kernel, rfl⟩
theorem d_M_showHandler_81 : dc b_M_showHandler 81 (.lastore) 1 82 := ⟨by decide +kernel, rfl⟩
theorem d_M_showHandler_82 : dc b_M_showHandler 82 (.aload_n 0) 1 83 := ⟨by decide +kernel, rfl⟩
theorem d_M_showHandler_83 : dc b_M_showHandler 83 (.getfield 70) 3 86 := ⟨by decide +kernel, rfl⟩
theorem d_M_showHandler_86 : dc b_M_showHandler 86 (.bipush 6) 2 88 := ⟨by decide +kernel, rfl⟩
theorem d_M_showHandler_88 : dc b_M_showHandler 88 (.iload_n 2) 1 89 := ⟨by decide +kernel, rfl⟩
theorem d_M_showHandler_89 : dc b_M_showHandler 89 (.iadd) 1 90 := ⟨by decide +kernel, rfl⟩
theorem d_M_showHandler_90 : dc b_M_showHandler 90 (.iload_n 3) 1 91 := ⟨by decide +kernel, rfl⟩
theorem d_M_showHandler_91 : dc b_M_showHandler 91 (.aload_n 0) 1 92 := ⟨by decide +kernel, rfl⟩
theorem d_M_showHandler_92 : dc b_M_showHandler 92 (.getfield 67) 3 95 := ⟨by decide +kernel, rfl⟩
theorem d_M_showHandler_95 : dc b_M_showHandler 95 (.iload_n 2) 1 96 := ⟨by decide +kernel, rfl⟩
theorem d_M_showHandler_96 : dc b_M_showHandler 96 (.laload) 1 97 := ⟨by decide +kernel, rfl⟩
theorem d_M_showHandler_97 : dc b_M_showHandler 97 (.invokestatic 187) 3 100 := ⟨by decide +kernel, rfl⟩
theorem d_M_showHandler_100 : dc b_M_showHandler 100 (.lastore) 1 101 := ⟨by decide +kernel, rfl⟩
theorem d_M_showHandler_101 : db b_M_showHandler 101 (.goto 15) 15 116 104 := ⟨by decide +kernel, by decide, rfl⟩
theorem d_M_showHandler_104 : dc b_M_showHandler 104 (.aload_n 0) 1 105 := ⟨by decide +kernel, rfl⟩
theorem d_M_showHandler_105 : dc b_M_showHandler 105 (.iload_n 2) 1 106 := ⟨by decide +kernel, rfl⟩
theorem d_M_showHandler_106 : dc b_M_showHandler 106 (.aload_n 0) 1 107 := ⟨by decide +kernel, rfl⟩
theorem d_M_showHandler_107 : dc b_M_showHandler 107 (.getfield 67) 3 110 := ⟨by decide +kernel, rfl⟩
theorem d_M_showHandler_110 : dc b_M_showHandler 110 (.iload_n 2) 1 111 := ⟨by decide +kernel, rfl⟩
theorem d_M_showHandler_111 : dc b_M_showHandler 111 (.laload) 1 112 := ⟨by decide +kernel, rfl⟩
theorem d_M_showHandler_112 : dc b_M_showHandler 112 (.l2i) 1 113 := ⟨by decide +kernel, rfl⟩
theorem d_M_showHandler_113 : dc b_M_showHandler 113 (.invokevirtual 382) 3 116 := ⟨by decide +kernel, rfl⟩
theorem d_M_showHandler_116 : dc b_M_showHandler 116 (.iinc 2 1) 3 119 := ⟨by decide +kernel, rfl⟩
theorem d_M_showHandler_119 : db b_M_showHandler 119 (.goto (-74)) (-74) 45 122 := ⟨by decide +kernel, by decide, rfl⟩
theorem d_M_showHandler_122 : dc b_M_showHandler 122 (.return_) 1 123 := ⟨by decide +kernel, rfl⟩
def f_M_showHandler_J116 (S : gS) (o : Nat) (kb : gD → Option Nat → Int32 → Option (Unit × gD)) (d : gD) (v1 : Option Nat) (v2 : Int32) : Option (Unit × gD) :=
  kb d v1 (v2 + 1)
set_option maxRecDepth 100000 in
set_option maxHeartbeats 4000000 in
theorem w_M_showHandler_J116 {X : GX} (hE : gE X b_M_showHandler 4 "StandInMill" none "showHandler" 3 62) {S : gS} {o : Nat} {r : Unit} {d' : gD} {kb : gD → Option Nat → Int32 → Option (Unit × gD)} (hkb : ∀ (d : gD) (v1 : Option Nat) (v2 : Int32), kb d v1 v2 = some (r, d') → gw X 0 0 (gQ X (none) S d' 0 0) S d 45 [some (va_rf (some o)), some (va_rf v1), some (.int v2), none] []) :
    ∀ (d : gD) (v1 : Option Nat) (v2 : Int32), f_M_showHandler_J116 S o kb d v1 v2 = some (r, d') → gw X 0 0 (gQ X (none) S d' 0 0) S d 116 [some (va_rf (some o)), some (va_rf v1), some (.int v2), none] [] := by
  intro d v1 v2 h
  unfold f_M_showHandler_J116 at h
  refine g_iinc (i := 2) (lv' := [some (va_rf (some o)), some (va_rf v1), some (.int (v2 + 1)), none]) hE d_M_showHandler_116 ki_1 rfl (Nat.le_of_ble_eq_true rfl) ⟨rfl, Nat.le_of_ble_eq_true rfl⟩ (lvp_r rfl) ?_
  refine g_goto hE d_M_showHandler_119 ?_
  exact gw.less (lv' := [some (va_rf (some o)), some (va_rf v1), some (.int (v2 + 1)), none]) (And.intro rfl (And.intro rfl (And.intro rfl trivial))) (hkb d v1 (v2 + 1) h)
def f_M_showHandler_B45 (S : gS) (o : Nat) (kb : gD → Option Nat → Int32 → Option (Unit × gD)) (d : gD) (v1 : Option Nat) (v2 : Int32) : Option (Unit × gD) :=
  nn v1 fun a1 =>
  kd S a1 5 <|
  bd (f_Om_parameterCount S d a1) fun x3 =>
  if x3 ≤ v2 then (
    some ((), d))
  else (
    lt_ (dI d a1 3) fun x5 =>
    bd (f_M_byteOf S d x5 v2) fun x6 =>
    bd (f_M_isPlain S d x6) fun x8 =>
    if x8 = 0 then (
      kd S o 1 <|
      lt_ (sP S o 16) fun x11 =>
      nn x11 fun a12 =>
      kd S a12 51 <|
      gi v2 (sN S a12) <|
      lt_ (dL d a12 v2.toNatClampNeg) fun x15 =>
      bdD (f_M_showObject S d o v2 (Int64.toInt32 x15)) fun _ d18 =>
      f_M_showHandler_J116 S o kb d18 (some a1) v2)
    else (
      kd S o 1 <|
      lt_ (sP S o 17) fun x20 =>
      nn x20 fun a21 =>
      kd S a21 51 <|
      gi (3 + v2) (sN S a21) <|
      lt_ (wL d a21 (3 + v2 : Int32).toNatClampNeg (Int32.toInt64 (x6 + 40))) fun d24 =>
      lt_ (sP S o 17) fun x25 =>
      lt_ (sP S o 16) fun x26 =>
      nn x26 fun a27 =>
      kd S a27 51 <|
      gi v2 (sN S a27) <|
      lt_ (dL d24 a27 v2.toNatClampNeg) fun x30 =>
      bd (f_M_fitted S d24 x6 x30) fun x31 =>
      nn x25 fun a33 =>
      kd S a33 51 <|
      gi (6 + v2) (sN S a33) <|
      lt_ (wL d24 a33 (6 + v2 : Int32).toNatClampNeg x31) fun d36 =>
      f_M_showHandler_J116 S o kb d36 (some a1) v2))
set_option maxRecDepth 100000 in
set_option maxHeartbeats 4000000 in
theorem w_M_showHandler_B45 {X : GX} (hE : gE X b_M_showHandler 4 "StandInMill" none "showHandler" 3 62) {S : gS} {o : Nat} {r : Unit} {d' : gD} {kb : gD → Option Nat → Int32 → Option (Unit × gD)} (hkb : ∀ (d : gD) (v1 : Option Nat) (v2 : Int32), kb d v1 v2 = some (r, d') → gw X 0 0 (gQ X (none) S d' 0 0) S d 45 [some (va_rf (some o)), some (va_rf v1), some (.int v2), none] []) :
    ∀ (d : gD) (v1 : Option Nat) (v2 : Int32), f_M_showHandler_B45 S o kb d v1 v2 = some (r, d') → gw X 0 0 (gQ X (none) S d' 0 0) S d 45 [some (va_rf (some o)), some (va_rf v1), some (.int v2), none] [] := by
  intro d v1 v2 h
  unfold f_M_showHandler_B45 at h
  refine g_iload_n (i := 2) hE d_M_showHandler_45 rfl rfl ?_
  refine g_aload_n (i := 1) hE d_M_showHandler_46 rfl rfl ?_
  obtain ⟨a1, rfl, h⟩ := nn_s h
  obtain ⟨k2, h⟩ := kd_s h
  obtain ⟨x3, e4, h⟩ := bd_s h
  refine g_callV (av := [.inr (.inr (some a1))]) (as := []) (stk := [.int x3, .int v2]) [.int v2] hE (c_Om_parameterCount (xl X) (xG X) e4) ky_Om_parameterCount ⟨Nat.le_of_ble_eq_true rfl, Nat.le_of_ble_eq_true rfl⟩ rfl kc_Om k2 m_354 m_290 m_291 rfl d_M_showHandler_47 rfl rfl (Nat.le_trans (ct_i ct_n) (Nat.le_of_ble_eq_true rfl)) (Nat.zero_le _) (Nat.zero_le _) ?_
  refine gw.cs (c2 := 0) (s2 := 0) rfl rfl ?_
  refine g_icmp_ge hE d_M_showHandler_50 (fun c38 => ?_) (fun c38 => ?_)
  · replace h := if_t c38 h
    cases h
    exact g_vret hE d_M_showHandler_122 rfl rfl
  · replace h := if_f c38 h
    refine g_aload_n (i := 1) hE d_M_showHandler_53 rfl rfl ?_
    refine g_getIN 3 hE kc_Om k2 (Nat.le_of_ble_eq_true rfl) rfl nf_47 d_M_showHandler_54 (fun x5 e => ?_)
    replace h := lt_i e h; clear e
    refine g_iload_n (i := 2) hE d_M_showHandler_57 rfl rfl ?_
    obtain ⟨x6, e7, h⟩ := bd_s h
    refine g_callS (av := [.inl x5, .inl v2]) (stk := [.int x6]) [] hE (c_M_byteOf (xl X) (xG X) e7) ky_M_byteOf ⟨Nat.le_of_ble_eq_true rfl, Nat.le_of_ble_eq_true rfl⟩ m_128 m_129 rfl d_M_showHandler_58 rfl rfl ct_0 (Nat.zero_le _) (Nat.zero_le _) ?_
    refine gw.cs (c2 := 0) (s2 := 0) rfl rfl ?_
    refine g_istore_n (i := 3) (lv' := [some (va_rf (some o)), some (va_rf (some a1)), some (.int v2), some (.int x6)]) hE d_M_showHandler_61 rfl (Nat.le_of_ble_eq_true rfl) ⟨rfl, Nat.le_of_ble_eq_true rfl⟩ (lvp_i rfl) ?_
    refine g_iload_n (i := 3) hE d_M_showHandler_62 rfl rfl ?_
    obtain ⟨x8, e9, h⟩ := bd_s h
    refine g_callS (av := [.inl x6]) (stk := [.int x8]) [] hE (c_M_isPlain (xl X) (xG X) e9) ky_M_isPlain ⟨Nat.le_of_ble_eq_true rfl, Nat.le_of_ble_eq_true rfl⟩ m_355 m_130 rfl d_M_showHandler_63 rfl rfl ct_0 (Nat.zero_le _) (Nat.zero_le _) ?_
    refine gw.cs (c2 := 0) (s2 := 0) rfl rfl ?_
    refine g_if_eq hE d_M_showHandler_66 (fun c37 => ?_) (fun c37 => ?_)
    · replace h := if_t c37 h
      refine g_aload_n (i := 0) hE d_M_showHandler_104 rfl rfl ?_
      refine g_iload_n (i := 2) hE d_M_showHandler_105 rfl rfl ?_
      refine g_aload_n (i := 0) hE d_M_showHandler_106 rfl rfl ?_
      obtain ⟨k10, h⟩ := kd_s h
      refine g_getR 16 hE kc_M k10 (Nat.le_of_ble_eq_true rfl) rfl m_64 d_M_showHandler_107 (fun x11 e => ?_)
      replace h := lt_i e h; clear e
      refine g_iload_n (i := 2) hE d_M_showHandler_110 rfl rfl ?_
      obtain ⟨a12, rfl, h⟩ := nn_s h
      obtain ⟨k13, h⟩ := kd_s h
      obtain ⟨g14, h⟩ := gi_s h
      refine g_lald hE k13 g14 d_M_showHandler_111 (fun x15 e => ?_)
      replace h := lt_i e h; clear e
      refine g_l2i hE d_M_showHandler_112 ?_
      obtain ⟨x16, d18, e17, h⟩ := bdD_s h
      refine g_callV (av := [.inr (.inr (some o)), .inl v2, .inl (Int64.toInt32 x15)]) (as := [.inl v2, .inl (Int64.toInt32 x15)]) (stk := []) [] hE (c_M_showObject (xl X) (xG X) e17) ky_M_showObject ⟨Nat.le_of_ble_eq_true rfl, Nat.le_of_ble_eq_true rfl⟩ rfl kc_M k10 m_359 m_360 m_361 rfl d_M_showHandler_113 rfl rfl ct_0 (Nat.zero_le _) (Nat.zero_le _) ?_
      refine gw.cs (c2 := 0) (s2 := 0) rfl rfl ?_
      exact gw.less (lv' := [some (va_rf (some o)), some (va_rf (some a1)), some (.int v2), none]) (And.intro rfl (And.intro rfl (And.intro rfl trivial))) (w_M_showHandler_J116 hE hkb d18 (some a1) v2 h)
    · replace h := if_f c37 h
      refine g_aload_n (i := 0) hE d_M_showHandler_69 rfl rfl ?_
      obtain ⟨k19, h⟩ := kd_s h
      refine g_getR 17 hE kc_M k19 (Nat.le_of_ble_eq_true rfl) rfl m_65 d_M_showHandler_70 (fun x20 e => ?_)
      replace h := lt_i e h; clear e
      refine g_iconst hE d_M_showHandler_73 ki_3 ?_
      refine g_iload_n (i := 2) hE d_M_showHandler_74 rfl rfl ?_
      refine g_iadd hE d_M_showHandler_75 ?_
      refine g_iload_n (i := 3) hE d_M_showHandler_76 rfl rfl ?_
      refine g_bipush hE d_M_showHandler_77 kb_40 ?_
      refine g_iadd hE d_M_showHandler_79 ?_
      refine g_i2l hE d_M_showHandler_80 ?_
      obtain ⟨a21, rfl, h⟩ := nn_s h
      obtain ⟨k22, h⟩ := kd_s h
      obtain ⟨g23, h⟩ := gi_s h
      refine g_last hE k22 g23 d_M_showHandler_81 (fun d24 e => ?_)
      replace h := lt_i e h; clear e
      refine g_aload_n (i := 0) hE d_M_showHandler_82 rfl rfl ?_
      refine g_getR 17 hE kc_M k19 (Nat.le_of_ble_eq_true rfl) rfl m_65 d_M_showHandler_83 (fun x25 e => ?_)
      replace h := lt_i e h; clear e
      refine g_bipush hE d_M_showHandler_86 kb_6 ?_
      refine g_iload_n (i := 2) hE d_M_showHandler_88 rfl rfl ?_
      refine g_iadd hE d_M_showHandler_89 ?_
      refine g_iload_n (i := 3) hE d_M_showHandler_90 rfl rfl ?_
      refine g_aload_n (i := 0) hE d_M_showHandler_91 rfl rfl ?_
      refine g_getR 16 hE kc_M k19 (Nat.le_of_ble_eq_true rfl) rfl m_64 d_M_showHandler_92 (fun x26 e => ?_)
      replace h := lt_i e h; clear e
      refine g_iload_n (i := 2) hE d_M_showHandler_95 rfl rfl ?_
      obtain ⟨a27, rfl, h⟩ := nn_s h
      obtain ⟨k28, h⟩ := kd_s h
      obtain ⟨g29, h⟩ := gi_s h
      refine g_lald hE k28 g29 d_M_showHandler_96 (fun x30 e => ?_)
      replace h := lt_i e h; clear e
      obtain ⟨x31, e32, h⟩ := bd_s h
      refine g_callS (av := [.inl x6, .inr (.inl x30)]) (stk := [.long x31, .int (6 + v2), va_rf x25]) [.int (6 + v2), va_rf x25] hE (c_M_fitted (xl X) (xG X) e32) ky_M_fitted ⟨Nat.le_of_ble_eq_true rfl, Nat.le_of_ble_eq_true rfl⟩ m_163 m_164 rfl d_M_showHandler_97 rfl rfl (Nat.le_trans (ct_i (ct_r ct_n)) (Nat.le_of_ble_eq_true rfl)) (Nat.zero_le _) (Nat.zero_le _) ?_
      refine gw.cs (c2 := 0) (s2 := 0) rfl rfl ?_
      obtain ⟨a33, rfl, h⟩ := nn_s h
      obtain ⟨k34, h⟩ := kd_s h
      obtain ⟨g35, h⟩ := gi_s h
      refine g_last hE k34 g35 d_M_showHandler_100 (fun d36 e => ?_)
      replace h := lt_i e h; clear e
      refine g_goto hE d_M_showHandler_101 ?_
      exact gw.less (lv' := [some (va_rf (some o)), some (va_rf (some a1)), some (.int v2), none]) (And.intro rfl (And.intro rfl (And.intro rfl trivial))) (w_M_showHandler_J116 hE hkb d36 (some a1) v2 h)
theorem w_M_showHandler_L45 {X : GX} (hE : gE X b_M_showHandler 4 "StandInMill" none "showHandler" 3 62) {S : gS} {o : Nat} {r : Unit} {d' : gD} : ∀ (n : Nat) (d : gD) (v1 : Option Nat) (v2 : Int32), itr (f_M_showHandler_B45 S o) (fun _ _ _ => none) n d v1 v2 = some (r, d') → gw X 0 0 (gQ X (none) S d' 0 0) S d 45 [some (va_rf (some o)), some (va_rf v1), some (.int v2), none] [] := by
  intro n
  induction n with
  | zero => intro d v1 v2 h; cases h
  | succ n ih => exact w_M_showHandler_B45 hE ih
set_option maxRecDepth 100000 in
def f_M_showHandler (S : gS) (d : gD) (o : Nat) (v1 : Option Nat) : Option (Unit × gD) :=
  kd S o 1 <|
  lt_ (sP S o 17) fun x2 =>
  bdD (f_Ar_fillJ S d x2 (-1)) fun _ d5 =>
  lt_ (sP S o 17) fun x6 =>
  nn v1 fun a7 =>
  kd S a7 5 <|
  lt_ (dI d5 a7 0) fun x9 =>
  nn x6 fun a10 =>
  kd S a10 51 <|
  gi 0 (sN S a10) <|
  lt_ (wL d5 a10 (0 : Int32).toNatClampNeg (Int32.toInt64 x9)) fun d13 =>
  lt_ (sP S o 17) fun x14 =>
  lt_ (dI d13 a7 1) fun x15 =>
  nn x14 fun a16 =>
  kd S a16 51 <|
  gi 1 (sN S a16) <|
  lt_ (wL d13 a16 (1 : Int32).toNatClampNeg (Int32.toInt64 x15)) fun d19 =>
  lt_ (sP S o 17) fun x20 =>
  bd (f_Om_parameterCount S d19 a7) fun x21 =>
  nn x20 fun a23 =>
  kd S a23 51 <|
  gi 2 (sN S a23) <|
  lt_ (wL d19 a23 (2 : Int32).toNatClampNeg (Int32.toInt64 x21)) fun d26 =>
  itr (f_M_showHandler_B45 S o) (fun _ _ _ => none) fu d26 (some a7) 0
set_option maxRecDepth 100000 in
set_option maxHeartbeats 4000000 in
theorem c_M_showHandler (l : Launch) (G : gG) {S : gS} {d : gD} {o : Nat} {v1 : Option Nat} {r : Unit} {d' : gD} (h : f_M_showHandler S d o v1 = some (r, d')) : GM l G y_M_showHandler b_M_showHandler 4 none 3 62 0 0 [.inr (.inr (some o)), .inr (.inr v1)] S d (none) S d' := by
  refine GM.of (by decide) (Nat.le_of_ble_eq_true rfl) ?_
  intro X hl0 hG0 hR0 hE0
  have hE : gE X b_M_showHandler 4 "StandInMill" none "showHandler" 3 62 := hE0
  unfold f_M_showHandler at h
  refine gw.less (lv' := [some (va_rf (some o)), some (va_rf v1), none, none]) (And.intro rfl (And.intro rfl trivial)) ?_
  refine g_aload_n (i := 0) hE d_M_showHandler_0 rfl rfl ?_
  obtain ⟨k1, h⟩ := kd_s h
  refine g_getR 17 hE kc_M k1 (Nat.le_of_ble_eq_true rfl) rfl m_65 d_M_showHandler_1 (fun x2 e => ?_)
  replace h := lt_i e h; clear e
  refine g_ldc2 hE d_M_showHandler_4 m_62 ?_
  obtain ⟨x3, d5, e4, h⟩ := bdD_s h
  refine g_callS (av := [.inr (.inr x2), .inr (.inl (-1))]) (stk := []) [] hE (c_Ar_fillJ (xl X) (xG X) e4) ky_Ar_fillJ ⟨Nat.le_of_ble_eq_true rfl, Nat.le_of_ble_eq_true rfl⟩ m_71 m_72 rfl d_M_showHandler_7 rfl rfl ct_0 (Nat.zero_le _) (Nat.zero_le _) ?_
  refine gw.cs (c2 := 0) (s2 := 0) rfl rfl ?_
  refine g_aload_n (i := 0) hE d_M_showHandler_10 rfl rfl ?_
  refine g_getR 17 hE kc_M k1 (Nat.le_of_ble_eq_true rfl) rfl m_65 d_M_showHandler_11 (fun x6 e => ?_)
  replace h := lt_i e h; clear e
  refine g_iconst hE d_M_showHandler_14 ki_0 ?_
  refine g_aload_n (i := 1) hE d_M_showHandler_15 rfl rfl ?_
  obtain ⟨a7, rfl, h⟩ := nn_s h
  obtain ⟨k8, h⟩ := kd_s h
  refine g_getIN 0 hE kc_Om k8 (Nat.le_of_ble_eq_true rfl) rfl nf_48 d_M_showHandler_16 (fun x9 e => ?_)
  replace h := lt_i e h; clear e
  refine g_i2l hE d_M_showHandler_19 ?_
  obtain ⟨a10, rfl, h⟩ := nn_s h
  obtain ⟨k11, h⟩ := kd_s h
  obtain ⟨g12, h⟩ := gi_s h
  refine g_last hE k11 g12 d_M_showHandler_20 (fun d13 e => ?_)
  replace h := lt_i e h; clear e
  refine g_aload_n (i := 0) hE d_M_showHandler_21 rfl rfl ?_
  refine g_getR 17 hE kc_M k1 (Nat.le_of_ble_eq_true rfl) rfl m_65 d_M_showHandler_22 (fun x14 e => ?_)
  replace h := lt_i e h; clear e
  refine g_iconst hE d_M_showHandler_25 ki_1 ?_
  refine g_aload_n (i := 1) hE d_M_showHandler_26 rfl rfl ?_
  refine g_getIN 1 hE kc_Om k8 (Nat.le_of_ble_eq_true rfl) rfl nf_49 d_M_showHandler_27 (fun x15 e => ?_)
  replace h := lt_i e h; clear e
  refine g_i2l hE d_M_showHandler_30 ?_
  obtain ⟨a16, rfl, h⟩ := nn_s h
  obtain ⟨k17, h⟩ := kd_s h
  obtain ⟨g18, h⟩ := gi_s h
  refine g_last hE k17 g18 d_M_showHandler_31 (fun d19 e => ?_)
  replace h := lt_i e h; clear e
  refine g_aload_n (i := 0) hE d_M_showHandler_32 rfl rfl ?_
  refine g_getR 17 hE kc_M k1 (Nat.le_of_ble_eq_true rfl) rfl m_65 d_M_showHandler_33 (fun x20 e => ?_)
  replace h := lt_i e h; clear e
  refine g_iconst hE d_M_showHandler_36 ki_2 ?_
  refine g_aload_n (i := 1) hE d_M_showHandler_37 rfl rfl ?_
  obtain ⟨x21, e22, h⟩ := bd_s h
  refine g_callV (av := [.inr (.inr (some a7))]) (as := []) (stk := [.int x21, .int 2, va_rf x20]) [.int 2, va_rf x20] hE (c_Om_parameterCount (xl X) (xG X) e22) ky_Om_parameterCount ⟨Nat.le_of_ble_eq_true rfl, Nat.le_of_ble_eq_true rfl⟩ rfl kc_Om k8 m_354 m_290 m_291 rfl d_M_showHandler_38 rfl rfl (Nat.le_trans (ct_i (ct_r ct_n)) (Nat.le_of_ble_eq_true rfl)) (Nat.zero_le _) (Nat.zero_le _) ?_
  refine gw.cs (c2 := 0) (s2 := 0) rfl rfl ?_
  refine g_i2l hE d_M_showHandler_41 ?_
  obtain ⟨a23, rfl, h⟩ := nn_s h
  obtain ⟨k24, h⟩ := kd_s h
  obtain ⟨g25, h⟩ := gi_s h
  refine g_last hE k24 g25 d_M_showHandler_42 (fun d26 e => ?_)
  replace h := lt_i e h; clear e
  refine g_iconst hE d_M_showHandler_43 ki_0 ?_
  refine g_istore_n (i := 2) (lv' := [some (va_rf (some o)), some (va_rf (some a7)), some (.int 0), none]) hE d_M_showHandler_44 rfl (Nat.le_of_ble_eq_true rfl) ⟨rfl, Nat.le_of_ble_eq_true rfl⟩ (lvp_r rfl) ?_
  exact gw.less (lv' := [some (va_rf (some o)), some (va_rf (some a7)), some (.int 0), none]) (And.intro rfl (And.intro rfl (And.intro rfl trivial))) (w_M_showHandler_L45 hE fu d26 (some a7) 0 h)
theorem d_M_fitThrown_0 : dc b_M_fitThrown 0 (.aload_n 0) 1 1 := ⟨by decide +kernel, rfl⟩
theorem d_M_fitThrown_1 : dc b_M_fitThrown 1 (.iload_n 2) 1 2 := ⟨by decide +kernel, rfl⟩
theorem d_M_fitThrown_2 : dc b_M_fitThrown 2 (.i2l) 1 3 := ⟨by decide +kernel, rfl⟩
theorem d_M_fitThrown_3 : dc b_M_fitThrown 3 (.putfield 63) 3 6 := ⟨by decide +kernel, rfl⟩
theorem d_M_fitThrown_6 : dc b_M_fitThrown 6 (.aload_n 1) 1 7 := ⟨by decide +kernel, rfl⟩
theorem d_M_fitThrown_7 : dc b_M_fitThrown 7 (.getfield 258) 3 10 := ⟨by decide +kernel, rfl⟩
theorem d_M_fitThrown_10 : dc b_M_fitThrown 10 (.getfield 175) 3 13 := ⟨by decide +kernel, rfl⟩
theorem d_M_fitThrown_13 : db b_M_fitThrown 13 (.ifCond .eq 23) 23 36 16 := ⟨by decide +kernel, by decide, rfl⟩
theorem d_M_fitThrown_16 : dc b_M_fitThrown 16 (.aload_n 0) 1 17 := ⟨by decide +kernel, rfl⟩
theorem d_M_fitThrown_17 : dc b_M_fitThrown 17 (.getfield 10) 3 20 := ⟨by decide +kernel, rfl⟩
theorem d_M_fitThrown_20 : dc b_M_fitThrown 20 (.aload_n 0) 1 21 := ⟨by decide +kernel, rfl⟩
theorem d_M_fitThrown_21 : dc b_M_fitThrown 21 (.getfield 26) 3 24 := ⟨by decide +kernel, rfl⟩
theorem d_M_fitThrown_24 : dc b_M_fitThrown 24 (.iload_n 2) 1 25 := ⟨by decide +kernel, rfl⟩
theorem d_M_fitThrown_25 : dc b_M_fitThrown 25 (.iaload) 1 26 := ⟨by decide +kernel, rfl⟩
theorem d_M_fitThrown_26 : dc b_M_fitThrown 26 (.aload_n 1) 1 27 := ⟨by decide +kernel, rfl⟩
theorem d_M_fitThrown_27 : dc b_M_fitThrown 27 (.getfield 258) 3 30 := ⟨by decide +kernel, rfl⟩
theorem d_M_fitThrown_30 : dc b_M_fitThrown 30 (.invokevirtual 385) 3 33 := ⟨by decide +kernel, rfl⟩
theorem d_M_fitThrown_33 : db b_M_fitThrown 33 (.ifCond .eq 5) 5 38 36 := ⟨by decide +kernel, by decide, rfl⟩
theorem d_M_fitThrown_36 : dc b_M_fitThrown 36 (.iconst 4) 1 37 := ⟨by decide +kernel, rfl⟩
theorem d_M_fitThrown_37 : dc b_M_fitThrown 37 (.ireturn) 1 38 := ⟨by decide +kernel, rfl⟩
theorem d_M_fitThrown_38 : dc b_M_fitThrown 38 (.iconst 5) 1 39 := ⟨by decide +kernel, rfl⟩
theorem d_M_fitThrown_39 : dc b_M_fitThrown 39 (.ireturn) 1 40 := ⟨by decide +kernel, rfl⟩
set_option maxRecDepth 100000 in
def f_M_fitThrown (S : gS) (d : gD) (o : Nat) (v1 : Option Nat) (v2 : Int32) : Option (Int32 × gD) :=
  kd S o 1 <|
  lt_ (wL d o 15 (Int32.toInt64 v2)) fun d2 =>
  nn v1 fun a3 =>
  kd S a3 7 <|
  lt_ (sP S a3 2) fun x5 =>
  nn x5 fun a6 =>
  kd S a6 2 <|
  lt_ (dI d2 a6 1) fun x8 =>
  if x8 = 0 then (
    some (4, d2))
  else (
    lt_ (sP S o 0) fun x9 =>
    lt_ (sP S o 5) fun x10 =>
    nn x10 fun a11 =>
    kd S a11 50 <|
    gi v2 (sN S a11) <|
    lt_ (dI d2 a11 v2.toNatClampNeg) fun x14 =>
    lt_ (sP S a3 2) fun x15 =>
    nn x9 fun a16 =>
    kd S a16 8 <|
    bd (f_Ty_isBelowOneOf S d2 a16 x14 x15) fun x18 =>
    if x18 = 0 then (
      some (5, d2))
    else (
      some (4, d2)))
set_option maxRecDepth 100000 in
set_option maxHeartbeats 4000000 in
theorem c_M_fitThrown (l : Launch) (G : gG) {S : gS} {d : gD} {o : Nat} {v1 : Option Nat} {v2 : Int32} {r : Int32} {d' : gD} (h : f_M_fitThrown S d o v1 v2 = some (r, d')) : GM l G y_M_fitThrown b_M_fitThrown 3 (some (.int)) 3 66 0 0 [.inr (.inr (some o)), .inr (.inr v1), .inl v2] S d (some (.int r)) S d' := by
  refine GM.of (by decide) (Nat.le_of_ble_eq_true rfl) ?_
  intro X hl0 hG0 hR0 hE0
  have hE : gE X b_M_fitThrown 3 "StandInMill" (some (.int)) "fitThrown" 3 66 := hE0
  unfold f_M_fitThrown at h
  refine gw.less (lv' := [some (va_rf (some o)), some (va_rf v1), some (.int v2)]) (And.intro rfl (And.intro rfl (And.intro rfl trivial))) ?_
  refine g_aload_n (i := 0) hE d_M_fitThrown_0 rfl rfl ?_
  refine g_iload_n (i := 2) hE d_M_fitThrown_1 rfl rfl ?_
  refine g_i2l hE d_M_fitThrown_2 ?_
  obtain ⟨k1, h⟩ := kd_s h
  refine g_putL 15 hE kc_M k1 (Nat.le_of_ble_eq_true rfl) rfl m_63 rfl (by decide +kernel) d_M_fitThrown_3 (fun d2 e => ?_)
  replace h := lt_i e h; clear e
  refine g_aload_n (i := 1) hE d_M_fitThrown_6 rfl rfl ?_
  obtain ⟨a3, rfl, h⟩ := nn_s h
  obtain ⟨k4, h⟩ := kd_s h
  refine g_getRN 2 hE kc_Sm k4 (Nat.le_of_ble_eq_true rfl) rfl nf_51 d_M_fitThrown_7 (fun x5 e => ?_)
  replace h := lt_i e h; clear e
  obtain ⟨a6, rfl, h⟩ := nn_s h
  obtain ⟨k7, h⟩ := kd_s h
  refine g_getIN 1 hE kc_Rw k7 (Nat.le_of_ble_eq_true rfl) rfl nf_9 d_M_fitThrown_10 (fun x8 e => ?_)
  replace h := lt_i e h; clear e
  refine g_if_eq hE d_M_fitThrown_13 (fun c21 => ?_) (fun c21 => ?_)
  · replace h := if_t c21 h
    refine g_iconst hE d_M_fitThrown_36 ki_4 ?_
    cases h
    exact g_iret hE d_M_fitThrown_37 rfl rfl
  · replace h := if_f c21 h
    refine g_aload_n (i := 0) hE d_M_fitThrown_16 rfl rfl ?_
    refine g_getR 0 hE kc_M k1 (Nat.le_of_ble_eq_true rfl) rfl m_41 d_M_fitThrown_17 (fun x9 e => ?_)
    replace h := lt_i e h; clear e
    refine g_aload_n (i := 0) hE d_M_fitThrown_20 rfl rfl ?_
    refine g_getR 5 hE kc_M k1 (Nat.le_of_ble_eq_true rfl) rfl m_45 d_M_fitThrown_21 (fun x10 e => ?_)
    replace h := lt_i e h; clear e
    refine g_iload_n (i := 2) hE d_M_fitThrown_24 rfl rfl ?_
    obtain ⟨a11, rfl, h⟩ := nn_s h
    obtain ⟨k12, h⟩ := kd_s h
    obtain ⟨g13, h⟩ := gi_s h
    refine g_iald hE k12 g13 d_M_fitThrown_25 (fun x14 e => ?_)
    replace h := lt_i e h; clear e
    refine g_aload_n (i := 1) hE d_M_fitThrown_26 rfl rfl ?_
    refine g_getRN 2 hE kc_Sm k4 (Nat.le_of_ble_eq_true rfl) rfl nf_51 d_M_fitThrown_27 (fun x15 e => ?_)
    replace h := lt_i e h; clear e
    obtain ⟨a16, rfl, h⟩ := nn_s h
    obtain ⟨k17, h⟩ := kd_s h
    obtain ⟨x18, e19, h⟩ := bd_s h
    refine g_callV (av := [.inr (.inr (some a16)), .inl x14, .inr (.inr x15)]) (as := [.inl x14, .inr (.inr x15)]) (stk := [.int x18]) [] hE (c_Ty_isBelowOneOf (xl X) (xG X) e19) ky_Ty_isBelowOneOf ⟨Nat.le_of_ble_eq_true rfl, Nat.le_of_ble_eq_true rfl⟩ rfl kc_Ty k17 m_362 m_194 m_195 rfl d_M_fitThrown_30 rfl rfl ct_0 (Nat.zero_le _) (Nat.zero_le _) ?_
    refine gw.cs (c2 := 0) (s2 := 0) rfl rfl ?_
    refine g_if_eq hE d_M_fitThrown_33 (fun c20 => ?_) (fun c20 => ?_)
    · replace h := if_t c20 h
      refine g_iconst hE d_M_fitThrown_38 ki_5 ?_
      cases h
      exact g_iret hE d_M_fitThrown_39 rfl rfl
    · replace h := if_f c20 h
      refine g_iconst hE d_M_fitThrown_36 ki_4 ?_
      cases h
      exact g_iret hE d_M_fitThrown_37 rfl rfl
