theorem d_Uw_putParameterCode_0 : dc b_Uw_putParameterCode 0 (.iconst 1) 1 1 := ⟨by decide +kernel, rfl⟩
theorem d_Uw_putParameterCode_1 : dc b_Uw_putParameterCode 1 (.istore_n 2) 1 2 := ⟨by decide +kernel, rfl⟩
theorem d_Uw_putParameterCode_2 : dc b_Uw_putParameterCode 2 (.iconst 0) 1 3 := ⟨by decide +kernel, rfl⟩
theorem d_Uw_putParameterCode_3 : dc b_Uw_putParameterCode 3 (.istore_n 3) 1 4 := ⟨by decide +kernel, rfl⟩
theorem d_Uw_putParameterCode_4 : dc b_Uw_putParameterCode 4 (.iload_n 3) 1 5 := ⟨by decide +kernel, rfl⟩
theorem d_Uw_putParameterCode_5 : dc b_Uw_putParameterCode 5 (.aload_n 1) 1 6 := ⟨by decide +kernel, rfl⟩
theorem d_Uw_putParameterCode_6 : dc b_Uw_putParameterCode 6 (.invokevirtual 133) 3 9 := ⟨by decide +kernel, rfl⟩
theorem d_Uw_putParameterCode_9 : db b_Uw_putParameterCode 9 (.if_icmp .ge 88) 88 97 12 := ⟨by decide +kernel, by decide, rfl⟩
theorem d_Uw_putParameterCode_12 : dc b_Uw_putParameterCode 12 (.aload_n 1) 1 13 := ⟨by decide +kernel, rfl⟩
theorem d_Uw_putParameterCode_13 : dc b_Uw_putParameterCode 13 (.getfield 89) 3 16 := ⟨by decide +kernel, rfl⟩
theorem d_Uw_putParameterCode_16 : dc b_Uw_putParameterCode 16 (.iload_n 3) 1 17 := ⟨by decide +kernel, rfl⟩
theorem d_Uw_putParameterCode_17 : dc b_Uw_putParameterCode 17 (.invokestatic 122) 3 20 := ⟨by decide +kernel, rfl⟩
theorem d_Uw_putParameterCode_20 : dc b_Uw_putParameterCode 20 (.istore 4) 2 22 := ⟨by decide +kernel, rfl⟩
theorem d_Uw_putParameterCode_22 : dc b_Uw_putParameterCode 22 (.aload_n 0) 1 23 := ⟨by decide +kernel, rfl⟩
theorem d_Uw_putParameterCode_23 : dc b_Uw_putParameterCode 23 (.bipush 6) 2 25 := ⟨by decide +kernel, rfl⟩
theorem d_Uw_putParameterCode_25 : dc b_Uw_putParameterCode 25 (.invokevirtual 43) 3 28 := ⟨by decide +kernel, rfl⟩
theorem d_Uw_putParameterCode_28 : dc b_Uw_putParameterCode 28 (.aload_n 0) 1 29 := ⟨by decide +kernel, rfl⟩
theorem d_Uw_putParameterCode_29 : dc b_Uw_putParameterCode 29 (.bipush 7) 2 31 := ⟨by decide +kernel, rfl⟩
theorem d_Uw_putParameterCode_31 : dc b_Uw_putParameterCode 31 (.invokevirtual 43) 3 34 := ⟨by decide +kernel, rfl⟩
theorem d_Uw_putParameterCode_34 : dc b_Uw_putParameterCode 34 (.aload_n 0) 1 35 := ⟨by decide +kernel, rfl⟩
theorem d_Uw_putParameterCode_35 : dc b_Uw_putParameterCode 35 (.iload_n 3) 1 36 := ⟨by decide +kernel, rfl⟩
theorem d_Uw_putParameterCode_36 : dc b_Uw_putParameterCode 36 (.invokevirtual 43) 3 39 := ⟨by decide +kernel, rfl⟩
theorem d_Uw_putParameterCode_39 : dc b_Uw_putParameterCode 39 (.aload_n 0) 1 40 := ⟨by decide +kernel, rfl⟩
theorem d_Uw_putParameterCode_40 : dc b_Uw_putParameterCode 40 (.bipush 8) 2 42 := ⟨by decide +kernel, rfl⟩
theorem d_Uw_putParameterCode_42 : dc b_Uw_putParameterCode 42 (.invokevirtual 43) 3 45 := ⟨by decide +kernel, rfl⟩
theorem d_Uw_putParameterCode_45 : dc b_Uw_putParameterCode 45 (.aload_n 0) 1 46 := ⟨by decide +kernel, rfl⟩
theorem d_Uw_putParameterCode_46 : dc b_Uw_putParameterCode 46 (.iload_n 2) 1 47 := ⟨by decide +kernel, rfl⟩
theorem d_Uw_putParameterCode_47 : dc b_Uw_putParameterCode 47 (.invokevirtual 43) 3 50 := ⟨by decide +kernel, rfl⟩
theorem d_Uw_putParameterCode_50 : dc b_Uw_putParameterCode 50 (.iload 4) 2 52 := ⟨by decide +kernel, rfl⟩
theorem d_Uw_putParameterCode_52 : dc b_Uw_putParameterCode 52 (.invokestatic 143) 3 55 := ⟨by decide +kernel, rfl⟩
theorem d_Uw_putParameterCode_55 : db b_Uw_putParameterCode 55 (.ifCond .eq 15) 15 70 58 := ⟨by decide +kernel, by decide, rfl⟩
theorem d_Uw_putParameterCode_58 : dc b_Uw_putParameterCode 58 (.aload_n 0) 1 59 := ⟨by decide +kernel, rfl⟩
theorem d_Uw_putParameterCode_59 : dc b_Uw_putParameterCode 59 (.bipush 9) 2 61 := ⟨by decide +kernel, rfl⟩
theorem d_Uw_putParameterCode_61 : dc b_Uw_putParameterCode 61 (.invokevirtual 43) 3 64 := ⟨by decide +kernel, rfl⟩
theorem d_Uw_putParameterCode_64 : dc b_Uw_putParameterCode 64 (.aload_n 0) 1 65 := ⟨by decide +kernel, rfl⟩
theorem d_Uw_putParameterCode_65 : dc b_Uw_putParameterCode 65 (.iload 4) 2 67 := ⟨by decide +kernel, rfl⟩
theorem d_Uw_putParameterCode_67 : dc b_Uw_putParameterCode 67 (.invokevirtual 43) 3 70 := ⟨by decide +kernel, rfl⟩
theorem d_Uw_putParameterCode_70 : dc b_Uw_putParameterCode 70 (.aload_n 0) 1 71 := ⟨by decide +kernel, rfl⟩
theorem d_Uw_putParameterCode_71 : dc b_Uw_putParameterCode 71 (.bipush 10) 2 73 := ⟨by decide +kernel, rfl⟩
theorem d_Uw_putParameterCode_73 : dc b_Uw_putParameterCode 73 (.invokevirtual 43) 3 76 := ⟨by decide +kernel, rfl⟩
theorem d_Uw_putParameterCode_76 : dc b_Uw_putParameterCode 76 (.iload_n 2) 1 77 := ⟨by decide +kernel, rfl⟩
theorem d_Uw_putParameterCode_77 : dc b_Uw_putParameterCode 77 (.iload 4) 2 79 := ⟨by decide +kernel, rfl⟩
theorem d_Uw_putParameterCode_79 : dc b_Uw_putParameterCode 79 (.bipush 6) 2 81 := ⟨by decide +kernel, rfl⟩
theorem d_Uw_putParameterCode_81 : db b_Uw_putParameterCode 81 (.if_icmp .ne 7) 7 88 84 := ⟨by decide +kernel, by decide, rfl⟩
theorem d_Uw_putParameterCode_84 : dc b_Uw_putParameterCode 84 (.iconst 2) 1 85 := ⟨by decide +kernel, rfl⟩
theorem d_Uw_putParameterCode_85 : db b_Uw_putParameterCode 85 (.goto 4) 4 89 88 := ⟨by decide +kernel, by decide, rfl⟩
theorem d_Uw_putParameterCode_88 : dc b_Uw_putParameterCode 88 (.iconst 1) 1 89 := ⟨by decide +kernel, rfl⟩
theorem d_Uw_putParameterCode_89 : dc b_Uw_putParameterCode 89 (.iadd) 1 90 := ⟨by decide +kernel, rfl⟩
theorem d_Uw_putParameterCode_90 : dc b_Uw_putParameterCode 90 (.istore_n 2) 1 91 := ⟨by decide +kernel, rfl⟩
theorem d_Uw_putParameterCode_91 : dc b_Uw_putParameterCode 91 (.iinc 3 1) 3 94 := ⟨by decide +kernel, rfl⟩
theorem d_Uw_putParameterCode_94 : db b_Uw_putParameterCode 94 (.goto (-90)) (-90) 4 97 := ⟨by decide +kernel, by decide, rfl⟩
theorem d_Uw_putParameterCode_97 : dc b_Uw_putParameterCode 97 (.return_) 1 98 := ⟨by decide +kernel, rfl⟩
def f_Uw_putParameterCode_J89 (S : gS) (o : Nat) (kb : gD → Option Nat → Int32 → Int32 → Option (Unit × gD)) (d : gD) (v1 : Option Nat) (v3 : Int32) (u0 : Int32) (u1 : Int32) : Option (Unit × gD) :=
  kb d v1 (u0 + u1) (v3 + 1)
set_option maxRecDepth 100000 in
set_option maxHeartbeats 4000000 in
theorem w_Uw_putParameterCode_J89 {X : GX} (hE : gE X b_Uw_putParameterCode 5 "StandInMill$UnitWriter" none "putParameterCode" 3 62) {S : gS} {o : Nat} {r : Unit} {d' : gD} {kb : gD → Option Nat → Int32 → Int32 → Option (Unit × gD)} (hkb : ∀ (d : gD) (v1 : Option Nat) (v2 : Int32) (v3 : Int32), kb d v1 v2 v3 = some (r, d') → gw X 0 0 (gQ X (none) S d' 0 0) S d 4 [some (va_rf (some o)), some (va_rf v1), some (.int v2), some (.int v3), none] []) :
    ∀ (d : gD) (v1 : Option Nat) (v3 : Int32) (u0 : Int32) (u1 : Int32), f_Uw_putParameterCode_J89 S o kb d v1 v3 u0 u1 = some (r, d') → gw X 0 0 (gQ X (none) S d' 0 0) S d 89 [some (va_rf (some o)), some (va_rf v1), none, some (.int v3), none] [.int u1, .int u0] := by
  intro d v1 v3 u0 u1 h
  unfold f_Uw_putParameterCode_J89 at h
  refine g_iadd hE d_Uw_putParameterCode_89 ?_
  refine g_istore_n (i := 2) (lv' := [some (va_rf (some o)), some (va_rf v1), some (.int (u0 + u1)), some (.int v3), none]) hE d_Uw_putParameterCode_90 rfl (Nat.le_of_ble_eq_true rfl) ⟨rfl, Nat.le_of_ble_eq_true rfl⟩ (lvp_r rfl) ?_
  refine g_iinc (i := 3) (lv' := [some (va_rf (some o)), some (va_rf v1), some (.int (u0 + u1)), some (.int (v3 + 1)), none]) hE d_Uw_putParameterCode_91 ki_1 rfl (Nat.le_of_ble_eq_true rfl) ⟨rfl, Nat.le_of_ble_eq_true rfl⟩ (lvp_i rfl) ?_
  refine g_goto hE d_Uw_putParameterCode_94 ?_
  exact gw.less (lv' := [some (va_rf (some o)), some (va_rf v1), some (.int (u0 + u1)), some (.int (v3 + 1)), none]) (And.intro rfl (And.intro rfl (And.intro rfl (And.intro rfl trivial)))) (hkb d v1 (u0 + u1) (v3 + 1) h)
def f_Uw_putParameterCode_J70 (S : gS) (o : Nat) (kb : gD → Option Nat → Int32 → Int32 → Option (Unit × gD)) (d : gD) (v1 : Option Nat) (v2 : Int32) (v3 : Int32) (v4 : Int32) : Option (Unit × gD) :=
  kd S o 9 <|
  bdD (f_Uw_put S d o 10) fun _ d4 =>
  if v4 = 6 then (
    f_Uw_putParameterCode_J89 S o kb d4 v1 v3 v2 2)
  else (
    f_Uw_putParameterCode_J89 S o kb d4 v1 v3 v2 1)
set_option maxRecDepth 100000 in
set_option maxHeartbeats 4000000 in
theorem w_Uw_putParameterCode_J70 {X : GX} (hE : gE X b_Uw_putParameterCode 5 "StandInMill$UnitWriter" none "putParameterCode" 3 62) {S : gS} {o : Nat} {r : Unit} {d' : gD} {kb : gD → Option Nat → Int32 → Int32 → Option (Unit × gD)} (hkb : ∀ (d : gD) (v1 : Option Nat) (v2 : Int32) (v3 : Int32), kb d v1 v2 v3 = some (r, d') → gw X 0 0 (gQ X (none) S d' 0 0) S d 4 [some (va_rf (some o)), some (va_rf v1), some (.int v2), some (.int v3), none] []) :
    ∀ (d : gD) (v1 : Option Nat) (v2 : Int32) (v3 : Int32) (v4 : Int32), f_Uw_putParameterCode_J70 S o kb d v1 v2 v3 v4 = some (r, d') → gw X 0 0 (gQ X (none) S d' 0 0) S d 70 [some (va_rf (some o)), some (va_rf v1), some (.int v2), some (.int v3), some (.int v4)] [] := by
  intro d v1 v2 v3 v4 h
  unfold f_Uw_putParameterCode_J70 at h
  refine g_aload_n (i := 0) hE d_Uw_putParameterCode_70 rfl rfl ?_
  refine g_bipush hE d_Uw_putParameterCode_71 kb_10 ?_
  obtain ⟨k1, h⟩ := kd_s h
  obtain ⟨x2, d4, e3, h⟩ := bdD_s h
  refine g_callV (av := [.inr (.inr (some o)), .inl 10]) (as := [.inl 10]) (stk := []) [] hE (c_Uw_put (xl X) (xG X) e3) ky_Uw_put ⟨Nat.le_of_ble_eq_true rfl, Nat.le_of_ble_eq_true rfl⟩ rfl kc_Uw k1 m_275 m_276 m_277 rfl d_Uw_putParameterCode_73 rfl rfl ct_0 (Nat.zero_le _) (Nat.zero_le _) ?_
  refine gw.cs (c2 := 0) (s2 := 0) rfl rfl ?_
  refine g_iload_n (i := 2) hE d_Uw_putParameterCode_76 rfl rfl ?_
  refine g_iload (i := 4) hE d_Uw_putParameterCode_77 rfl ?_
  refine g_bipush hE d_Uw_putParameterCode_79 kb_6 ?_
  refine g_icmp_ne hE d_Uw_putParameterCode_81 (fun c5 => ?_) (fun c5 => ?_)
  · replace h := if_f c5 h
    refine g_iconst hE d_Uw_putParameterCode_88 ki_1 ?_
    exact gw.less (lv' := [some (va_rf (some o)), some (va_rf v1), none, some (.int v3), none]) (And.intro rfl (And.intro rfl (And.intro rfl trivial))) (w_Uw_putParameterCode_J89 hE hkb d4 v1 v3 v2 1 h)
  · replace h := if_t c5 h
    refine g_iconst hE d_Uw_putParameterCode_84 ki_2 ?_
    refine g_goto hE d_Uw_putParameterCode_85 ?_
    exact gw.less (lv' := [some (va_rf (some o)), some (va_rf v1), none, some (.int v3), none]) (And.intro rfl (And.intro rfl (And.intro rfl trivial))) (w_Uw_putParameterCode_J89 hE hkb d4 v1 v3 v2 2 h)
def f_Uw_putParameterCode_B4 (S : gS) (o : Nat) (kb : gD → Option Nat → Int32 → Int32 → Option (Unit × gD)) (d : gD) (v1 : Option Nat) (v2 : Int32) (v3 : Int32) : Option (Unit × gD) :=
  nn v1 fun a1 =>
  kd S a1 5 <|
  bd (f_Om_parameterCount S d a1) fun x3 =>
  if x3 ≤ v3 then (
    some ((), d))
  else (
    lt_ (dI d a1 3) fun x5 =>
    bd (f_M_byteOf S d x5 v3) fun x6 =>
    kd S o 9 <|
    bdD (f_Uw_put S d o 6) fun _ d11 =>
    bdD (f_Uw_put S d11 o 7) fun _ d14 =>
    bdD (f_Uw_put S d14 o v3) fun _ d17 =>
    bdD (f_Uw_put S d17 o 8) fun _ d20 =>
    bdD (f_Uw_put S d20 o v2) fun _ d23 =>
    bd (f_M_isPlain S d23 x6) fun x24 =>
    if x24 = 0 then (
      f_Uw_putParameterCode_J70 S o kb d23 (some a1) v2 v3 x6)
    else (
      bdD (f_Uw_put S d23 o 9) fun _ d28 =>
      bdD (f_Uw_put S d28 o x6) fun _ d31 =>
      f_Uw_putParameterCode_J70 S o kb d31 (some a1) v2 v3 x6))
set_option maxRecDepth 100000 in
set_option maxHeartbeats 4000000 in
theorem w_Uw_putParameterCode_B4 {X : GX} (hE : gE X b_Uw_putParameterCode 5 "StandInMill$UnitWriter" none "putParameterCode" 3 62) {S : gS} {o : Nat} {r : Unit} {d' : gD} {kb : gD → Option Nat → Int32 → Int32 → Option (Unit × gD)} (hkb : ∀ (d : gD) (v1 : Option Nat) (v2 : Int32) (v3 : Int32), kb d v1 v2 v3 = some (r, d') → gw X 0 0 (gQ X (none) S d' 0 0) S d 4 [some (va_rf (some o)), some (va_rf v1), some (.int v2), some (.int v3), none] []) :
    ∀ (d : gD) (v1 : Option Nat) (v2 : Int32) (v3 : Int32), f_Uw_putParameterCode_B4 S o kb d v1 v2 v3 = some (r, d') → gw X 0 0 (gQ X (none) S d' 0 0) S d 4 [some (va_rf (some o)), some (va_rf v1), some (.int v2), some (.int v3), none] [] := by
  intro d v1 v2 v3 h
  unfold f_Uw_putParameterCode_B4 at h
  refine g_iload_n (i := 3) hE d_Uw_putParameterCode_4 rfl rfl ?_
  refine g_aload_n (i := 1) hE d_Uw_putParameterCode_5 rfl rfl ?_
  obtain ⟨a1, rfl, h⟩ := nn_s h
  obtain ⟨k2, h⟩ := kd_s h
  obtain ⟨x3, e4, h⟩ := bd_s h
  refine g_callV (av := [.inr (.inr (some a1))]) (as := []) (stk := [.int x3, .int v3]) [.int v3] hE (c_Om_parameterCount (xl X) (xG X) e4) ky_Om_parameterCount ⟨Nat.le_of_ble_eq_true rfl, Nat.le_of_ble_eq_true rfl⟩ rfl kc_Om k2 m_289 m_290 m_291 rfl d_Uw_putParameterCode_6 rfl rfl (Nat.le_trans (ct_i ct_n) (Nat.le_of_ble_eq_true rfl)) (Nat.zero_le _) (Nat.zero_le _) ?_
  refine gw.cs (c2 := 0) (s2 := 0) rfl rfl ?_
  refine g_icmp_ge hE d_Uw_putParameterCode_9 (fun c33 => ?_) (fun c33 => ?_)
  · replace h := if_t c33 h
    cases h
    exact g_vret hE d_Uw_putParameterCode_97 rfl rfl
  · replace h := if_f c33 h
    refine g_aload_n (i := 1) hE d_Uw_putParameterCode_12 rfl rfl ?_
    refine g_getIN 3 hE kc_Om k2 (Nat.le_of_ble_eq_true rfl) rfl nf_32 d_Uw_putParameterCode_13 (fun x5 e => ?_)
    replace h := lt_i e h; clear e
    refine g_iload_n (i := 3) hE d_Uw_putParameterCode_16 rfl rfl ?_
    obtain ⟨x6, e7, h⟩ := bd_s h
    refine g_callSN (av := [.inl x5, .inl v3]) (stk := [.int x6]) [] hE (c_M_byteOf (xl X) (xG X) e7) ky_M_byteOf ⟨Nat.le_of_ble_eq_true rfl, Nat.le_of_ble_eq_true rfl⟩ nm_7 m_129 rfl d_Uw_putParameterCode_17 rfl rfl ct_0 (Nat.zero_le _) (Nat.zero_le _) ?_
    refine gw.cs (c2 := 0) (s2 := 0) rfl rfl ?_
    refine g_istore (i := 4) (lv' := [some (va_rf (some o)), some (va_rf (some a1)), some (.int v2), some (.int v3), some (.int x6)]) hE d_Uw_putParameterCode_20 (Nat.le_of_ble_eq_true rfl) ⟨rfl, Nat.le_of_ble_eq_true rfl⟩ (lvp_i rfl) ?_
    refine g_aload_n (i := 0) hE d_Uw_putParameterCode_22 rfl rfl ?_
    refine g_bipush hE d_Uw_putParameterCode_23 kb_6 ?_
    obtain ⟨k8, h⟩ := kd_s h
    obtain ⟨x9, d11, e10, h⟩ := bdD_s h
    refine g_callV (av := [.inr (.inr (some o)), .inl 6]) (as := [.inl 6]) (stk := []) [] hE (c_Uw_put (xl X) (xG X) e10) ky_Uw_put ⟨Nat.le_of_ble_eq_true rfl, Nat.le_of_ble_eq_true rfl⟩ rfl kc_Uw k8 m_275 m_276 m_277 rfl d_Uw_putParameterCode_25 rfl rfl ct_0 (Nat.zero_le _) (Nat.zero_le _) ?_
    refine gw.cs (c2 := 0) (s2 := 0) rfl rfl ?_
    refine g_aload_n (i := 0) hE d_Uw_putParameterCode_28 rfl rfl ?_
    refine g_bipush hE d_Uw_putParameterCode_29 kb_7 ?_
    obtain ⟨x12, d14, e13, h⟩ := bdD_s h
    refine g_callV (av := [.inr (.inr (some o)), .inl 7]) (as := [.inl 7]) (stk := []) [] hE (c_Uw_put (xl X) (xG X) e13) ky_Uw_put ⟨Nat.le_of_ble_eq_true rfl, Nat.le_of_ble_eq_true rfl⟩ rfl kc_Uw k8 m_275 m_276 m_277 rfl d_Uw_putParameterCode_31 rfl rfl ct_0 (Nat.zero_le _) (Nat.zero_le _) ?_
    refine gw.cs (c2 := 0) (s2 := 0) rfl rfl ?_
    refine g_aload_n (i := 0) hE d_Uw_putParameterCode_34 rfl rfl ?_
    refine g_iload_n (i := 3) hE d_Uw_putParameterCode_35 rfl rfl ?_
    obtain ⟨x15, d17, e16, h⟩ := bdD_s h
    refine g_callV (av := [.inr (.inr (some o)), .inl v3]) (as := [.inl v3]) (stk := []) [] hE (c_Uw_put (xl X) (xG X) e16) ky_Uw_put ⟨Nat.le_of_ble_eq_true rfl, Nat.le_of_ble_eq_true rfl⟩ rfl kc_Uw k8 m_275 m_276 m_277 rfl d_Uw_putParameterCode_36 rfl rfl ct_0 (Nat.zero_le _) (Nat.zero_le _) ?_
    refine gw.cs (c2 := 0) (s2 := 0) rfl rfl ?_
    refine g_aload_n (i := 0) hE d_Uw_putParameterCode_39 rfl rfl ?_
    refine g_bipush hE d_Uw_putParameterCode_40 kb_8 ?_
    obtain ⟨x18, d20, e19, h⟩ := bdD_s h
    refine g_callV (av := [.inr (.inr (some o)), .inl 8]) (as := [.inl 8]) (stk := []) [] hE (c_Uw_put (xl X) (xG X) e19) ky_Uw_put ⟨Nat.le_of_ble_eq_true rfl, Nat.le_of_ble_eq_true rfl⟩ rfl kc_Uw k8 m_275 m_276 m_277 rfl d_Uw_putParameterCode_42 rfl rfl ct_0 (Nat.zero_le _) (Nat.zero_le _) ?_
    refine gw.cs (c2 := 0) (s2 := 0) rfl rfl ?_
    refine g_aload_n (i := 0) hE d_Uw_putParameterCode_45 rfl rfl ?_
    refine g_iload_n (i := 2) hE d_Uw_putParameterCode_46 rfl rfl ?_
    obtain ⟨x21, d23, e22, h⟩ := bdD_s h
    refine g_callV (av := [.inr (.inr (some o)), .inl v2]) (as := [.inl v2]) (stk := []) [] hE (c_Uw_put (xl X) (xG X) e22) ky_Uw_put ⟨Nat.le_of_ble_eq_true rfl, Nat.le_of_ble_eq_true rfl⟩ rfl kc_Uw k8 m_275 m_276 m_277 rfl d_Uw_putParameterCode_47 rfl rfl ct_0 (Nat.zero_le _) (Nat.zero_le _) ?_
    refine gw.cs (c2 := 0) (s2 := 0) rfl rfl ?_
    refine g_iload (i := 4) hE d_Uw_putParameterCode_50 rfl ?_
    obtain ⟨x24, e25, h⟩ := bd_s h
    refine g_callSN (av := [.inl x6]) (stk := [.int x24]) [] hE (c_M_isPlain (xl X) (xG X) e25) ky_M_isPlain ⟨Nat.le_of_ble_eq_true rfl, Nat.le_of_ble_eq_true rfl⟩ nm_9 m_130 rfl d_Uw_putParameterCode_52 rfl rfl ct_0 (Nat.zero_le _) (Nat.zero_le _) ?_
    refine gw.cs (c2 := 0) (s2 := 0) rfl rfl ?_
    refine g_if_eq hE d_Uw_putParameterCode_55 (fun c32 => ?_) (fun c32 => ?_)
    · replace h := if_t c32 h
      exact gw.less (lv' := [some (va_rf (some o)), some (va_rf (some a1)), some (.int v2), some (.int v3), some (.int x6)]) (And.intro rfl (And.intro rfl (And.intro rfl (And.intro rfl (And.intro rfl trivial))))) (w_Uw_putParameterCode_J70 hE hkb d23 (some a1) v2 v3 x6 h)
    · replace h := if_f c32 h
      refine g_aload_n (i := 0) hE d_Uw_putParameterCode_58 rfl rfl ?_
      refine g_bipush hE d_Uw_putParameterCode_59 kb_9 ?_
      obtain ⟨x26, d28, e27, h⟩ := bdD_s h
      refine g_callV (av := [.inr (.inr (some o)), .inl 9]) (as := [.inl 9]) (stk := []) [] hE (c_Uw_put (xl X) (xG X) e27) ky_Uw_put ⟨Nat.le_of_ble_eq_true rfl, Nat.le_of_ble_eq_true rfl⟩ rfl kc_Uw k8 m_275 m_276 m_277 rfl d_Uw_putParameterCode_61 rfl rfl ct_0 (Nat.zero_le _) (Nat.zero_le _) ?_
      refine gw.cs (c2 := 0) (s2 := 0) rfl rfl ?_
      refine g_aload_n (i := 0) hE d_Uw_putParameterCode_64 rfl rfl ?_
      refine g_iload (i := 4) hE d_Uw_putParameterCode_65 rfl ?_
      obtain ⟨x29, d31, e30, h⟩ := bdD_s h
      refine g_callV (av := [.inr (.inr (some o)), .inl x6]) (as := [.inl x6]) (stk := []) [] hE (c_Uw_put (xl X) (xG X) e30) ky_Uw_put ⟨Nat.le_of_ble_eq_true rfl, Nat.le_of_ble_eq_true rfl⟩ rfl kc_Uw k8 m_275 m_276 m_277 rfl d_Uw_putParameterCode_67 rfl rfl ct_0 (Nat.zero_le _) (Nat.zero_le _) ?_
      refine gw.cs (c2 := 0) (s2 := 0) rfl rfl ?_
      exact gw.less (lv' := [some (va_rf (some o)), some (va_rf (some a1)), some (.int v2), some (.int v3), some (.int x6)]) (And.intro rfl (And.intro rfl (And.intro rfl (And.intro rfl (And.intro rfl trivial))))) (w_Uw_putParameterCode_J70 hE hkb d31 (some a1) v2 v3 x6 h)
theorem w_Uw_putParameterCode_L4 {X : GX} (hE : gE X b_Uw_putParameterCode 5 "StandInMill$UnitWriter" none "putParameterCode" 3 62) {S : gS} {o : Nat} {r : Unit} {d' : gD} : ∀ (n : Nat) (d : gD) (v1 : Option Nat) (v2 : Int32) (v3 : Int32), itr (f_Uw_putParameterCode_B4 S o) (fun _ _ _ _ => none) n d v1 v2 v3 = some (r, d') → gw X 0 0 (gQ X (none) S d' 0 0) S d 4 [some (va_rf (some o)), some (va_rf v1), some (.int v2), some (.int v3), none] [] := by
  intro n
  induction n with
  | zero => intro d v1 v2 v3 h; cases h
  | succ n ih => exact w_Uw_putParameterCode_B4 hE ih
set_option maxRecDepth 100000 in
def f_Uw_putParameterCode (S : gS) (d : gD) (o : Nat) (v1 : Option Nat) : Option (Unit × gD) :=
  itr (f_Uw_putParameterCode_B4 S o) (fun _ _ _ _ => none) fu d v1 1 0
set_option maxRecDepth 100000 in
set_option maxHeartbeats 4000000 in
theorem c_Uw_putParameterCode (l : Launch) (G : gG) {S : gS} {d : gD} {o : Nat} {v1 : Option Nat} {r : Unit} {d' : gD} (h : f_Uw_putParameterCode S d o v1 = some (r, d')) : GM l G y_Uw_putParameterCode b_Uw_putParameterCode 5 none 3 62 0 0 [.inr (.inr (some o)), .inr (.inr v1)] S d (none) S d' := by
  refine GM.of (by decide) (Nat.le_of_ble_eq_true rfl) ?_
  intro X hl0 hG0 hR0 hE0
  have hE : gE X b_Uw_putParameterCode 5 "StandInMill$UnitWriter" none "putParameterCode" 3 62 := hE0
  unfold f_Uw_putParameterCode at h
  refine gw.less (lv' := [some (va_rf (some o)), some (va_rf v1), none, none, none]) (And.intro rfl (And.intro rfl trivial)) ?_
  refine g_iconst hE d_Uw_putParameterCode_0 ki_1 ?_
  refine g_istore_n (i := 2) (lv' := [some (va_rf (some o)), some (va_rf v1), some (.int 1), none, none]) hE d_Uw_putParameterCode_1 rfl (Nat.le_of_ble_eq_true rfl) ⟨rfl, Nat.le_of_ble_eq_true rfl⟩ (lvp_r rfl) ?_
  refine g_iconst hE d_Uw_putParameterCode_2 ki_0 ?_
  refine g_istore_n (i := 3) (lv' := [some (va_rf (some o)), some (va_rf v1), some (.int 1), some (.int 0), none]) hE d_Uw_putParameterCode_3 rfl (Nat.le_of_ble_eq_true rfl) ⟨rfl, Nat.le_of_ble_eq_true rfl⟩ (lvp_i rfl) ?_
  exact gw.less (lv' := [some (va_rf (some o)), some (va_rf v1), some (.int 1), some (.int 0), none]) (And.intro rfl (And.intro rfl (And.intro rfl (And.intro rfl trivial)))) (w_Uw_putParameterCode_L4 hE fu d v1 1 0 h)
theorem d_Uw_putResultCode_0 : dc b_Uw_putResultCode 0 (.iload_n 1) 1 1 := ⟨by decide +kernel, rfl⟩
theorem d_Uw_putResultCode_1 : db b_Uw_putResultCode 1 (.ifCond .ne 16) 16 17 4 := ⟨by decide +kernel, by decide, rfl⟩
theorem d_Uw_putResultCode_4 : dc b_Uw_putResultCode 4 (.aload_n 0) 1 5 := ⟨by decide +kernel, rfl⟩
theorem d_Uw_putResultCode_5 : dc b_Uw_putResultCode 5 (.bipush 12) 2 7 := ⟨by decide +kernel, rfl⟩
theorem d_Uw_putResultCode_7 : dc b_Uw_putResultCode 7 (.invokevirtual 43) 3 10 := ⟨by decide +kernel, rfl⟩
theorem d_Uw_putResultCode_10 : dc b_Uw_putResultCode 10 (.aload_n 0) 1 11 := ⟨by decide +kernel, rfl⟩
theorem d_Uw_putResultCode_11 : dc b_Uw_putResultCode 11 (.bipush 16) 2 13 := ⟨by decide +kernel, rfl⟩
theorem d_Uw_putResultCode_13 : dc b_Uw_putResultCode 13 (.invokevirtual 43) 3 16 := ⟨by decide +kernel, rfl⟩
theorem d_Uw_putResultCode_16 : dc b_Uw_putResultCode 16 (.return_) 1 17 := ⟨by decide +kernel, rfl⟩
theorem d_Uw_putResultCode_17 : dc b_Uw_putResultCode 17 (.aload_n 0) 1 18 := ⟨by decide +kernel, rfl⟩
theorem d_Uw_putResultCode_18 : dc b_Uw_putResultCode 18 (.bipush 13) 2 20 := ⟨by decide +kernel, rfl⟩
theorem d_Uw_putResultCode_20 : dc b_Uw_putResultCode 20 (.invokevirtual 43) 3 23 := ⟨by decide +kernel, rfl⟩
theorem d_Uw_putResultCode_23 : dc b_Uw_putResultCode 23 (.aload_n 0) 1 24 := ⟨by decide +kernel, rfl⟩
theorem d_Uw_putResultCode_24 : dc b_Uw_putResultCode 24 (.iload_n 1) 1 25 := ⟨by decide +kernel, rfl⟩
theorem d_Uw_putResultCode_25 : dc b_Uw_putResultCode 25 (.invokestatic 143) 3 28 := ⟨by decide +kernel, rfl⟩
theorem d_Uw_putResultCode_28 : db b_Uw_putResultCode 28 (.ifCond .eq 10) 10 38 31 := ⟨by decide +kernel, by decide, rfl⟩
theorem d_Uw_putResultCode_31 : dc b_Uw_putResultCode 31 (.iload_n 1) 1 32 := ⟨by decide +kernel, rfl⟩
theorem d_Uw_putResultCode_32 : dc b_Uw_putResultCode 32 (.bipush 40) 2 34 := ⟨by decide +kernel, rfl⟩
theorem d_Uw_putResultCode_34 : dc b_Uw_putResultCode 34 (.iadd) 1 35 := ⟨by decide +kernel, rfl⟩
theorem d_Uw_putResultCode_35 : db b_Uw_putResultCode 35 (.goto 4) 4 39 38 := ⟨by decide +kernel, by decide, rfl⟩
theorem d_Uw_putResultCode_38 : dc b_Uw_putResultCode 38 (.iload_n 1) 1 39 := ⟨by decide +kernel, rfl⟩
theorem d_Uw_putResultCode_39 : dc b_Uw_putResultCode 39 (.invokevirtual 95) 3 42 := ⟨by decide +kernel, rfl⟩
theorem d_Uw_putResultCode_42 : dc b_Uw_putResultCode 42 (.iload_n 1) 1 43 := ⟨by decide +kernel, rfl⟩
theorem d_Uw_putResultCode_43 : dc b_Uw_putResultCode 43 (.invokestatic 143) 3 46 := ⟨by decide +kernel, rfl⟩
theorem d_Uw_putResultCode_46 : db b_Uw_putResultCode 46 (.ifCond .eq 14) 14 60 49 := ⟨by decide +kernel, by decide, rfl⟩
theorem d_Uw_putResultCode_49 : dc b_Uw_putResultCode 49 (.aload_n 0) 1 50 := ⟨by decide +kernel, rfl⟩
theorem d_Uw_putResultCode_50 : dc b_Uw_putResultCode 50 (.bipush 14) 2 52 := ⟨by decide +kernel, rfl⟩
theorem d_Uw_putResultCode_52 : dc b_Uw_putResultCode 52 (.invokevirtual 43) 3 55 := ⟨by decide +kernel, rfl⟩
theorem d_Uw_putResultCode_55 : dc b_Uw_putResultCode 55 (.aload_n 0) 1 56 := ⟨by decide +kernel, rfl⟩
theorem d_Uw_putResultCode_56 : dc b_Uw_putResultCode 56 (.iload_n 1) 1 57 := ⟨by decide +kernel, rfl⟩
theorem d_Uw_putResultCode_57 : dc b_Uw_putResultCode 57 (.invokevirtual 43) 3 60 := ⟨by decide +kernel, rfl⟩
theorem d_Uw_putResultCode_60 : dc b_Uw_putResultCode 60 (.aload_n 0) 1 61 := ⟨by decide +kernel, rfl⟩
theorem d_Uw_putResultCode_61 : dc b_Uw_putResultCode 61 (.bipush 15) 2 63 := ⟨by decide +kernel, rfl⟩
theorem d_Uw_putResultCode_63 : dc b_Uw_putResultCode 63 (.invokevirtual 43) 3 66 := ⟨by decide +kernel, rfl⟩
theorem d_Uw_putResultCode_66 : dc b_Uw_putResultCode 66 (.return_) 1 67 := ⟨by decide +kernel, rfl⟩
def f_Uw_putResultCode_J60 (S : gS) (o : Nat) (d : gD) : Option (Unit × gD) :=
  kd S o 9 <|
  bdD (f_Uw_put S d o 15) fun _ d4 =>
  some ((), d4)
set_option maxRecDepth 100000 in
set_option maxHeartbeats 4000000 in
theorem w_Uw_putResultCode_J60 {X : GX} (hE : gE X b_Uw_putResultCode 2 "StandInMill$UnitWriter" none "putResultCode" 3 66) {S : gS} {o : Nat} {r : Unit} {d' : gD} :
    ∀ (d : gD), f_Uw_putResultCode_J60 S o d = some (r, d') → gw X 0 0 (gQ X (none) S d' 0 0) S d 60 [some (va_rf (some o)), none] [] := by
  intro d h
  unfold f_Uw_putResultCode_J60 at h
  refine g_aload_n (i := 0) hE d_Uw_putResultCode_60 rfl rfl ?_
  refine g_bipush hE d_Uw_putResultCode_61 kb_15 ?_
  obtain ⟨k1, h⟩ := kd_s h
  obtain ⟨x2, d4, e3, h⟩ := bdD_s h
  refine g_callV (av := [.inr (.inr (some o)), .inl 15]) (as := [.inl 15]) (stk := []) [] hE (c_Uw_put (xl X) (xG X) e3) ky_Uw_put ⟨Nat.le_of_ble_eq_true rfl, Nat.le_of_ble_eq_true rfl⟩ rfl kc_Uw k1 m_275 m_276 m_277 rfl d_Uw_putResultCode_63 rfl rfl ct_0 (Nat.zero_le _) (Nat.zero_le _) ?_
  refine gw.cs (c2 := 0) (s2 := 0) rfl rfl ?_
  cases h
  exact g_vret hE d_Uw_putResultCode_66 rfl rfl
def f_Uw_putResultCode_J39 (S : gS) (o : Nat) (d : gD) (v1 : Int32) (u0 : Option Nat) (u1 : Int32) : Option (Unit × gD) :=
  nn u0 fun a1 =>
  kd S a1 9 <|
  bdD (f_Uw_putType S d a1 u1) fun _ d5 =>
  bd (f_M_isPlain S d5 v1) fun x6 =>
  if x6 = 0 then (
    f_Uw_putResultCode_J60 S o d5)
  else (
    kd S o 9 <|
    bdD (f_Uw_put S d5 o 14) fun _ d11 =>
    bdD (f_Uw_put S d11 o v1) fun _ d14 =>
    f_Uw_putResultCode_J60 S o d14)
set_option maxRecDepth 100000 in
set_option maxHeartbeats 4000000 in
theorem w_Uw_putResultCode_J39 {X : GX} (hE : gE X b_Uw_putResultCode 2 "StandInMill$UnitWriter" none "putResultCode" 3 66) {S : gS} {o : Nat} {r : Unit} {d' : gD} :
    ∀ (d : gD) (v1 : Int32) (u0 : Option Nat) (u1 : Int32), f_Uw_putResultCode_J39 S o d v1 u0 u1 = some (r, d') → gw X 0 0 (gQ X (none) S d' 0 0) S d 39 [some (va_rf (some o)), some (.int v1)] [.int u1, va_rf u0] := by
  intro d v1 u0 u1 h
  unfold f_Uw_putResultCode_J39 at h
  obtain ⟨a1, rfl, h⟩ := nn_s h
  obtain ⟨k2, h⟩ := kd_s h
  obtain ⟨x3, d5, e4, h⟩ := bdD_s h
  refine g_callV (av := [.inr (.inr (some a1)), .inl u1]) (as := [.inl u1]) (stk := []) [] hE (c_Uw_putType (xl X) (xG X) e4) ky_Uw_putType ⟨Nat.le_of_ble_eq_true rfl, Nat.le_of_ble_eq_true rfl⟩ rfl kc_Uw k2 m_285 m_286 m_287 rfl d_Uw_putResultCode_39 rfl rfl ct_0 (Nat.zero_le _) (Nat.zero_le _) ?_
  refine gw.cs (c2 := 0) (s2 := 0) rfl rfl ?_
  refine g_iload_n (i := 1) hE d_Uw_putResultCode_42 rfl rfl ?_
  obtain ⟨x6, e7, h⟩ := bd_s h
  refine g_callSN (av := [.inl v1]) (stk := [.int x6]) [] hE (c_M_isPlain (xl X) (xG X) e7) ky_M_isPlain ⟨Nat.le_of_ble_eq_true rfl, Nat.le_of_ble_eq_true rfl⟩ nm_9 m_130 rfl d_Uw_putResultCode_43 rfl rfl ct_0 (Nat.zero_le _) (Nat.zero_le _) ?_
  refine gw.cs (c2 := 0) (s2 := 0) rfl rfl ?_
  refine g_if_eq hE d_Uw_putResultCode_46 (fun c15 => ?_) (fun c15 => ?_)
  · replace h := if_t c15 h
    exact gw.less (lv' := [some (va_rf (some o)), none]) (And.intro rfl trivial) (w_Uw_putResultCode_J60 hE d5 h)
  · replace h := if_f c15 h
    refine g_aload_n (i := 0) hE d_Uw_putResultCode_49 rfl rfl ?_
    refine g_bipush hE d_Uw_putResultCode_50 kb_14 ?_
    obtain ⟨k8, h⟩ := kd_s h
    obtain ⟨x9, d11, e10, h⟩ := bdD_s h
    refine g_callV (av := [.inr (.inr (some o)), .inl 14]) (as := [.inl 14]) (stk := []) [] hE (c_Uw_put (xl X) (xG X) e10) ky_Uw_put ⟨Nat.le_of_ble_eq_true rfl, Nat.le_of_ble_eq_true rfl⟩ rfl kc_Uw k8 m_275 m_276 m_277 rfl d_Uw_putResultCode_52 rfl rfl ct_0 (Nat.zero_le _) (Nat.zero_le _) ?_
    refine gw.cs (c2 := 0) (s2 := 0) rfl rfl ?_
    refine g_aload_n (i := 0) hE d_Uw_putResultCode_55 rfl rfl ?_
    refine g_iload_n (i := 1) hE d_Uw_putResultCode_56 rfl rfl ?_
    obtain ⟨x12, d14, e13, h⟩ := bdD_s h
    refine g_callV (av := [.inr (.inr (some o)), .inl v1]) (as := [.inl v1]) (stk := []) [] hE (c_Uw_put (xl X) (xG X) e13) ky_Uw_put ⟨Nat.le_of_ble_eq_true rfl, Nat.le_of_ble_eq_true rfl⟩ rfl kc_Uw k8 m_275 m_276 m_277 rfl d_Uw_putResultCode_57 rfl rfl ct_0 (Nat.zero_le _) (Nat.zero_le _) ?_
    refine gw.cs (c2 := 0) (s2 := 0) rfl rfl ?_
    exact gw.less (lv' := [some (va_rf (some o)), none]) (And.intro rfl trivial) (w_Uw_putResultCode_J60 hE d14 h)
set_option maxRecDepth 100000 in
def f_Uw_putResultCode (S : gS) (d : gD) (o : Nat) (v1 : Int32) : Option (Unit × gD) :=
  if v1 = 0 then (
    kd S o 9 <|
    bdD (f_Uw_put S d o 12) fun _ d11 =>
    bdD (f_Uw_put S d11 o 16) fun _ d14 =>
    some ((), d14))
  else (
    kd S o 9 <|
    bdD (f_Uw_put S d o 13) fun _ d4 =>
    bd (f_M_isPlain S d4 v1) fun x5 =>
    if x5 = 0 then (
      f_Uw_putResultCode_J39 S o d4 v1 (some o) v1)
    else (
      f_Uw_putResultCode_J39 S o d4 v1 (some o) (v1 + 40)))
set_option maxRecDepth 100000 in
set_option maxHeartbeats 4000000 in
theorem c_Uw_putResultCode (l : Launch) (G : gG) {S : gS} {d : gD} {o : Nat} {v1 : Int32} {r : Unit} {d' : gD} (h : f_Uw_putResultCode S d o v1 = some (r, d')) : GM l G y_Uw_putResultCode b_Uw_putResultCode 2 none 3 66 0 0 [.inr (.inr (some o)), .inl v1] S d (none) S d' := by
  refine GM.of (by decide) (Nat.le_of_ble_eq_true rfl) ?_
  intro X hl0 hG0 hR0 hE0
  have hE : gE X b_Uw_putResultCode 2 "StandInMill$UnitWriter" none "putResultCode" 3 66 := hE0
  unfold f_Uw_putResultCode at h
  refine gw.less (lv' := [some (va_rf (some o)), some (.int v1)]) (And.intro rfl (And.intro rfl trivial)) ?_
  refine g_iload_n (i := 1) hE d_Uw_putResultCode_0 rfl rfl ?_
  refine g_if_ne hE d_Uw_putResultCode_1 (fun c15 => ?_) (fun c15 => ?_)
  · replace h := if_f c15 h
    refine g_aload_n (i := 0) hE d_Uw_putResultCode_17 rfl rfl ?_
    refine g_bipush hE d_Uw_putResultCode_18 kb_13 ?_
    obtain ⟨k1, h⟩ := kd_s h
    obtain ⟨x2, d4, e3, h⟩ := bdD_s h
    refine g_callV (av := [.inr (.inr (some o)), .inl 13]) (as := [.inl 13]) (stk := []) [] hE (c_Uw_put (xl X) (xG X) e3) ky_Uw_put ⟨Nat.le_of_ble_eq_true rfl, Nat.le_of_ble_eq_true rfl⟩ rfl kc_Uw k1 m_275 m_276 m_277 rfl d_Uw_putResultCode_20 rfl rfl ct_0 (Nat.zero_le _) (Nat.zero_le _) ?_
    refine gw.cs (c2 := 0) (s2 := 0) rfl rfl ?_
    refine g_aload_n (i := 0) hE d_Uw_putResultCode_23 rfl rfl ?_
    refine g_iload_n (i := 1) hE d_Uw_putResultCode_24 rfl rfl ?_
    obtain ⟨x5, e6, h⟩ := bd_s h
    refine g_callSN (av := [.inl v1]) (stk := [.int x5, va_rf (some o)]) [va_rf (some o)] hE (c_M_isPlain (xl X) (xG X) e6) ky_M_isPlain ⟨Nat.le_of_ble_eq_true rfl, Nat.le_of_ble_eq_true rfl⟩ nm_9 m_130 rfl d_Uw_putResultCode_25 rfl rfl (Nat.le_trans (ct_r ct_n) (Nat.le_of_ble_eq_true rfl)) (Nat.zero_le _) (Nat.zero_le _) ?_
    refine gw.cs (c2 := 0) (s2 := 0) rfl rfl ?_
    refine g_if_eq hE d_Uw_putResultCode_28 (fun c7 => ?_) (fun c7 => ?_)
    · replace h := if_t c7 h
      refine g_iload_n (i := 1) hE d_Uw_putResultCode_38 rfl rfl ?_
      exact gw.less (lv' := [some (va_rf (some o)), some (.int v1)]) (And.intro rfl (And.intro rfl trivial)) (w_Uw_putResultCode_J39 hE d4 v1 (some o) v1 h)
    · replace h := if_f c7 h
      refine g_iload_n (i := 1) hE d_Uw_putResultCode_31 rfl rfl ?_
      refine g_bipush hE d_Uw_putResultCode_32 kb_40 ?_
      refine g_iadd hE d_Uw_putResultCode_34 ?_
      refine g_goto hE d_Uw_putResultCode_35 ?_
      exact gw.less (lv' := [some (va_rf (some o)), some (.int v1)]) (And.intro rfl (And.intro rfl trivial)) (w_Uw_putResultCode_J39 hE d4 v1 (some o) (v1 + 40) h)
  · replace h := if_t c15 h
    refine g_aload_n (i := 0) hE d_Uw_putResultCode_4 rfl rfl ?_
    refine g_bipush hE d_Uw_putResultCode_5 kb_12 ?_
    obtain ⟨k8, h⟩ := kd_s h
    obtain ⟨x9, d11, e10, h⟩ := bdD_s h
    refine g_callV (av := [.inr (.inr (some o)), .inl 12]) (as := [.inl 12]) (stk := []) [] hE (c_Uw_put (xl X) (xG X) e10) ky_Uw_put ⟨Nat.le_of_ble_eq_true rfl, Nat.le_of_ble_eq_true rfl⟩ rfl kc_Uw k8 m_275 m_276 m_277 rfl d_Uw_putResultCode_7 rfl rfl ct_0 (Nat.zero_le _) (Nat.zero_le _) ?_
    refine gw.cs (c2 := 0) (s2 := 0) rfl rfl ?_
    refine g_aload_n (i := 0) hE d_Uw_putResultCode_10 rfl rfl ?_
    refine g_bipush hE d_Uw_putResultCode_11 kb_16 ?_
    obtain ⟨x12, d14, e13, h⟩ := bdD_s h
    refine g_callV (av := [.inr (.inr (some o)), .inl 16]) (as := [.inl 16]) (stk := []) [] hE (c_Uw_put (xl X) (xG X) e13) ky_Uw_put ⟨Nat.le_of_ble_eq_true rfl, Nat.le_of_ble_eq_true rfl⟩ rfl kc_Uw k8 m_275 m_276 m_277 rfl d_Uw_putResultCode_13 rfl rfl ct_0 (Nat.zero_le _) (Nat.zero_le _) ?_
    refine gw.cs (c2 := 0) (s2 := 0) rfl rfl ?_
    cases h
    exact g_vret hE d_Uw_putResultCode_16 rfl rfl
theorem d_Uw_putCode_0 : dc b_Uw_putCode 0 (.aload_n 0) 1 1 := ⟨by decide +kernel, rfl⟩
theorem d_Uw_putCode_1 : dc b_Uw_putCode 1 (.iconst 1) 1 2 := ⟨by decide +kernel, rfl⟩
theorem d_Uw_putCode_2 : dc b_Uw_putCode 2 (.invokevirtual 43) 3 5 := ⟨by decide +kernel, rfl⟩
theorem d_Uw_putCode_5 : dc b_Uw_putCode 5 (.aload_n 0) 1 6 := ⟨by decide +kernel, rfl⟩
theorem d_Uw_putCode_6 : dc b_Uw_putCode 6 (.iconst 2) 1 7 := ⟨by decide +kernel, rfl⟩
theorem d_Uw_putCode_7 : dc b_Uw_putCode 7 (.invokevirtual 43) 3 10 := ⟨by decide +kernel, rfl⟩
theorem d_Uw_putCode_10 : dc b_Uw_putCode 10 (.aload_n 0) 1 11 := ⟨by decide +kernel, rfl⟩
theorem d_Uw_putCode_11 : dc b_Uw_putCode 11 (.iconst 3) 1 12 := ⟨by decide +kernel, rfl⟩
theorem d_Uw_putCode_12 : dc b_Uw_putCode 12 (.invokevirtual 43) 3 15 := ⟨by decide +kernel, rfl⟩
theorem d_Uw_putCode_15 : dc b_Uw_putCode 15 (.aload_n 0) 1 16 := ⟨by decide +kernel, rfl⟩
theorem d_Uw_putCode_16 : dc b_Uw_putCode 16 (.aload_n 1) 1 17 := ⟨by decide +kernel, rfl⟩
theorem d_Uw_putCode_17 : dc b_Uw_putCode 17 (.invokevirtual 129) 3 20 := ⟨by decide +kernel, rfl⟩
theorem d_Uw_putCode_20 : dc b_Uw_putCode 20 (.aload_n 1) 1 21 := ⟨by decide +kernel, rfl⟩
theorem d_Uw_putCode_21 : dc b_Uw_putCode 21 (.getfield 89) 3 24 := ⟨by decide +kernel, rfl⟩
theorem d_Uw_putCode_24 : db b_Uw_putCode 24 (.ifCond .ne 11) 11 35 27 := ⟨by decide +kernel, by decide, rfl⟩
theorem d_Uw_putCode_27 : dc b_Uw_putCode 27 (.aload_n 0) 1 28 := ⟨by decide +kernel, rfl⟩
theorem d_Uw_putCode_28 : dc b_Uw_putCode 28 (.iconst 4) 1 29 := ⟨by decide +kernel, rfl⟩
theorem d_Uw_putCode_29 : dc b_Uw_putCode 29 (.invokevirtual 43) 3 32 := ⟨by decide +kernel, rfl⟩
theorem d_Uw_putCode_32 : db b_Uw_putCode 32 (.goto 21) 21 53 35 := ⟨by decide +kernel, by decide, rfl⟩
theorem d_Uw_putCode_35 : dc b_Uw_putCode 35 (.aload_n 0) 1 36 := ⟨by decide +kernel, rfl⟩
theorem d_Uw_putCode_36 : dc b_Uw_putCode 36 (.iconst 5) 1 37 := ⟨by decide +kernel, rfl⟩
theorem d_Uw_putCode_37 : dc b_Uw_putCode 37 (.invokevirtual 43) 3 40 := ⟨by decide +kernel, rfl⟩
theorem d_Uw_putCode_40 : dc b_Uw_putCode 40 (.aload_n 0) 1 41 := ⟨by decide +kernel, rfl⟩
theorem d_Uw_putCode_41 : dc b_Uw_putCode 41 (.aload_n 1) 1 42 := ⟨by decide +kernel, rfl⟩
theorem d_Uw_putCode_42 : dc b_Uw_putCode 42 (.invokevirtual 133) 3 45 := ⟨by decide +kernel, rfl⟩
theorem d_Uw_putCode_45 : dc b_Uw_putCode 45 (.invokevirtual 43) 3 48 := ⟨by decide +kernel, rfl⟩
theorem d_Uw_putCode_48 : dc b_Uw_putCode 48 (.aload_n 0) 1 49 := ⟨by decide +kernel, rfl⟩
theorem d_Uw_putCode_49 : dc b_Uw_putCode 49 (.aload_n 1) 1 50 := ⟨by decide +kernel, rfl⟩
theorem d_Uw_putCode_50 : dc b_Uw_putCode 50 (.invokevirtual 137) 3 53 := ⟨by decide +kernel, rfl⟩
theorem d_Uw_putCode_53 : dc b_Uw_putCode 53 (.aload_n 0) 1 54 := ⟨by decide +kernel, rfl⟩
theorem d_Uw_putCode_54 : dc b_Uw_putCode 54 (.bipush 11) 2 56 := ⟨by decide +kernel, rfl⟩
theorem d_Uw_putCode_56 : dc b_Uw_putCode 56 (.invokevirtual 43) 3 59 := ⟨by decide +kernel, rfl⟩
theorem d_Uw_putCode_59 : dc b_Uw_putCode 59 (.aload_n 0) 1 60 := ⟨by decide +kernel, rfl⟩
theorem d_Uw_putCode_60 : dc b_Uw_putCode 60 (.aload_n 1) 1 61 := ⟨by decide +kernel, rfl⟩
theorem d_Uw_putCode_61 : dc b_Uw_putCode 61 (.getfield 92) 3 64 := ⟨by decide +kernel, rfl⟩
theorem d_Uw_putCode_64 : dc b_Uw_putCode 64 (.invokevirtual 140) 3 67 := ⟨by decide +kernel, rfl⟩
theorem d_Uw_putCode_67 : dc b_Uw_putCode 67 (.iload_n 2) 1 68 := ⟨by decide +kernel, rfl⟩
theorem d_Uw_putCode_68 : db b_Uw_putCode 68 (.ifCond .eq 15) 15 83 71 := ⟨by decide +kernel, by decide, rfl⟩
theorem d_Uw_putCode_71 : dc b_Uw_putCode 71 (.aload_n 0) 1 72 := ⟨by decide +kernel, rfl⟩
theorem d_Uw_putCode_72 : dc b_Uw_putCode 72 (.bipush 17) 2 74 := ⟨by decide +kernel, rfl⟩
theorem d_Uw_putCode_74 : dc b_Uw_putCode 74 (.invokevirtual 43) 3 77 := ⟨by decide +kernel, rfl⟩
theorem d_Uw_putCode_77 : dc b_Uw_putCode 77 (.aload_n 0) 1 78 := ⟨by decide +kernel, rfl⟩
theorem d_Uw_putCode_78 : dc b_Uw_putCode 78 (.bipush 18) 2 80 := ⟨by decide +kernel, rfl⟩
theorem d_Uw_putCode_80 : dc b_Uw_putCode 80 (.invokevirtual 43) 3 83 := ⟨by decide +kernel, rfl⟩
theorem d_Uw_putCode_83 : dc b_Uw_putCode 83 (.return_) 1 84 := ⟨by decide +kernel, rfl⟩
def f_Uw_putCode_J53 (S : gS) (o : Nat) (d : gD) (v1 : Option Nat) (v2 : Int32) : Option (Unit × gD) :=
  kd S o 9 <|
  bdD (f_Uw_put S d o 11) fun _ d4 =>
  nn v1 fun a5 =>
  kd S a5 5 <|
  lt_ (dI d4 a5 4) fun x7 =>
  bdD (f_Uw_putResultCode S d4 o x7) fun _ d10 =>
  if v2 = 0 then (
    some ((), d10))
  else (
    bdD (f_Uw_put S d10 o 17) fun _ d13 =>
    bdD (f_Uw_put S d13 o 18) fun _ d16 =>
    some ((), d16))
set_option maxRecDepth 100000 in
set_option maxHeartbeats 4000000 in
theorem w_Uw_putCode_J53 {X : GX} (hE : gE X b_Uw_putCode 3 "StandInMill$UnitWriter" none "putCode" 4 87) {S : gS} {o : Nat} {r : Unit} {d' : gD} :
    ∀ (d : gD) (v1 : Option Nat) (v2 : Int32), f_Uw_putCode_J53 S o d v1 v2 = some (r, d') → gw X 0 0 (gQ X (none) S d' 0 0) S d 53 [some (va_rf (some o)), some (va_rf v1), some (.int v2)] [] := by
  intro d v1 v2 h
  unfold f_Uw_putCode_J53 at h
  refine g_aload_n (i := 0) hE d_Uw_putCode_53 rfl rfl ?_
  refine g_bipush hE d_Uw_putCode_54 kb_11 ?_
  obtain ⟨k1, h⟩ := kd_s h
  obtain ⟨x2, d4, e3, h⟩ := bdD_s h
  refine g_callV (av := [.inr (.inr (some o)), .inl 11]) (as := [.inl 11]) (stk := []) [] hE (c_Uw_put (xl X) (xG X) e3) ky_Uw_put ⟨Nat.le_of_ble_eq_true rfl, Nat.le_of_ble_eq_true rfl⟩ rfl kc_Uw k1 m_275 m_276 m_277 rfl d_Uw_putCode_56 rfl rfl ct_0 (Nat.zero_le _) (Nat.zero_le _) ?_
  refine gw.cs (c2 := 0) (s2 := 0) rfl rfl ?_
  refine g_aload_n (i := 0) hE d_Uw_putCode_59 rfl rfl ?_
  refine g_aload_n (i := 1) hE d_Uw_putCode_60 rfl rfl ?_
  obtain ⟨a5, rfl, h⟩ := nn_s h
  obtain ⟨k6, h⟩ := kd_s h
  refine g_getIN 4 hE kc_Om k6 (Nat.le_of_ble_eq_true rfl) rfl nf_33 d_Uw_putCode_61 (fun x7 e => ?_)
  replace h := lt_i e h; clear e
  obtain ⟨x8, d10, e9, h⟩ := bdD_s h
  refine g_callV (av := [.inr (.inr (some o)), .inl x7]) (as := [.inl x7]) (stk := []) [] hE (c_Uw_putResultCode (xl X) (xG X) e9) ky_Uw_putResultCode ⟨Nat.le_of_ble_eq_true rfl, Nat.le_of_ble_eq_true rfl⟩ rfl kc_Uw k1 m_298 m_299 m_300 rfl d_Uw_putCode_64 rfl rfl ct_0 (Nat.zero_le _) (Nat.zero_le _) ?_
  refine gw.cs (c2 := 0) (s2 := 0) rfl rfl ?_
  refine g_iload_n (i := 2) hE d_Uw_putCode_67 rfl rfl ?_
  refine g_if_eq hE d_Uw_putCode_68 (fun c17 => ?_) (fun c17 => ?_)
  · replace h := if_t c17 h
    cases h
    exact g_vret hE d_Uw_putCode_83 rfl rfl
  · replace h := if_f c17 h
    refine g_aload_n (i := 0) hE d_Uw_putCode_71 rfl rfl ?_
    refine g_bipush hE d_Uw_putCode_72 kb_17 ?_
    obtain ⟨x11, d13, e12, h⟩ := bdD_s h
    refine g_callV (av := [.inr (.inr (some o)), .inl 17]) (as := [.inl 17]) (stk := []) [] hE (c_Uw_put (xl X) (xG X) e12) ky_Uw_put ⟨Nat.le_of_ble_eq_true rfl, Nat.le_of_ble_eq_true rfl⟩ rfl kc_Uw k1 m_275 m_276 m_277 rfl d_Uw_putCode_74 rfl rfl ct_0 (Nat.zero_le _) (Nat.zero_le _) ?_
    refine gw.cs (c2 := 0) (s2 := 0) rfl rfl ?_
    refine g_aload_n (i := 0) hE d_Uw_putCode_77 rfl rfl ?_
    refine g_bipush hE d_Uw_putCode_78 kb_18 ?_
    obtain ⟨x14, d16, e15, h⟩ := bdD_s h
    refine g_callV (av := [.inr (.inr (some o)), .inl 18]) (as := [.inl 18]) (stk := []) [] hE (c_Uw_put (xl X) (xG X) e15) ky_Uw_put ⟨Nat.le_of_ble_eq_true rfl, Nat.le_of_ble_eq_true rfl⟩ rfl kc_Uw k1 m_275 m_276 m_277 rfl d_Uw_putCode_80 rfl rfl ct_0 (Nat.zero_le _) (Nat.zero_le _) ?_
    refine gw.cs (c2 := 0) (s2 := 0) rfl rfl ?_
    cases h
    exact g_vret hE d_Uw_putCode_83 rfl rfl
set_option maxRecDepth 100000 in
def f_Uw_putCode (S : gS) (d : gD) (o : Nat) (v1 : Option Nat) (v2 : Int32) : Option (Unit × gD) :=
  kd S o 9 <|
  bdD (f_Uw_put S d o 1) fun _ d4 =>
  bdD (f_Uw_put S d4 o 2) fun _ d7 =>
  bdD (f_Uw_put S d7 o 3) fun _ d10 =>
  bdD (f_Uw_putMethodEntry S d10 o v1) fun _ d13 =>
  nn v1 fun a14 =>
  kd S a14 5 <|
  lt_ (dI d13 a14 3) fun x16 =>
  if x16 = 0 then (
    bdD (f_Uw_put S d13 o 4) fun _ d30 =>
    f_Uw_putCode_J53 S o d30 (some a14) v2)
  else (
    bdD (f_Uw_put S d13 o 5) fun _ d19 =>
    bd (f_Om_parameterCount S d19 a14) fun x20 =>
    bdD (f_Uw_put S d19 o x20) fun _ d24 =>
    bdD (f_Uw_putParameterCode S d24 o (some a14)) fun _ d27 =>
    f_Uw_putCode_J53 S o d27 (some a14) v2)
set_option maxRecDepth 100000 in
set_option maxHeartbeats 4000000 in
theorem c_Uw_putCode (l : Launch) (G : gG) {S : gS} {d : gD} {o : Nat} {v1 : Option Nat} {v2 : Int32} {r : Unit} {d' : gD} (h : f_Uw_putCode S d o v1 v2 = some (r, d')) : GM l G y_Uw_putCode b_Uw_putCode 3 none 4 87 0 0 [.inr (.inr (some o)), .inr (.inr v1), .inl v2] S d (none) S d' := by
  refine GM.of (by decide) (Nat.le_of_ble_eq_true rfl) ?_
  intro X hl0 hG0 hR0 hE0
  have hE : gE X b_Uw_putCode 3 "StandInMill$UnitWriter" none "putCode" 4 87 := hE0
  unfold f_Uw_putCode at h
  refine gw.less (lv' := [some (va_rf (some o)), some (va_rf v1), some (.int v2)]) (And.intro rfl (And.intro rfl (And.intro rfl trivial))) ?_
  refine g_aload_n (i := 0) hE d_Uw_putCode_0 rfl rfl ?_
  refine g_iconst hE d_Uw_putCode_1 ki_1 ?_
  obtain ⟨k1, h⟩ := kd_s h
  obtain ⟨x2, d4, e3, h⟩ := bdD_s h
  refine g_callV (av := [.inr (.inr (some o)), .inl 1]) (as := [.inl 1]) (stk := []) [] hE (c_Uw_put (xl X) (xG X) e3) ky_Uw_put ⟨Nat.le_of_ble_eq_true rfl, Nat.le_of_ble_eq_true rfl⟩ rfl kc_Uw k1 m_275 m_276 m_277 rfl d_Uw_putCode_2 rfl rfl ct_0 (Nat.zero_le _) (Nat.zero_le _) ?_
  refine gw.cs (c2 := 0) (s2 := 0) rfl rfl ?_
  refine g_aload_n (i := 0) hE d_Uw_putCode_5 rfl rfl ?_
  refine g_iconst hE d_Uw_putCode_6 ki_2 ?_
  obtain ⟨x5, d7, e6, h⟩ := bdD_s h
  refine g_callV (av := [.inr (.inr (some o)), .inl 2]) (as := [.inl 2]) (stk := []) [] hE (c_Uw_put (xl X) (xG X) e6) ky_Uw_put ⟨Nat.le_of_ble_eq_true rfl, Nat.le_of_ble_eq_true rfl⟩ rfl kc_Uw k1 m_275 m_276 m_277 rfl d_Uw_putCode_7 rfl rfl ct_0 (Nat.zero_le _) (Nat.zero_le _) ?_
  refine gw.cs (c2 := 0) (s2 := 0) rfl rfl ?_
  refine g_aload_n (i := 0) hE d_Uw_putCode_10 rfl rfl ?_
  refine g_iconst hE d_Uw_putCode_11 ki_3 ?_
  obtain ⟨x8, d10, e9, h⟩ := bdD_s h
  refine g_callV (av := [.inr (.inr (some o)), .inl 3]) (as := [.inl 3]) (stk := []) [] hE (c_Uw_put (xl X) (xG X) e9) ky_Uw_put ⟨Nat.le_of_ble_eq_true rfl, Nat.le_of_ble_eq_true rfl⟩ rfl kc_Uw k1 m_275 m_276 m_277 rfl d_Uw_putCode_12 rfl rfl ct_0 (Nat.zero_le _) (Nat.zero_le _) ?_
  refine gw.cs (c2 := 0) (s2 := 0) rfl rfl ?_
  refine g_aload_n (i := 0) hE d_Uw_putCode_15 rfl rfl ?_
  refine g_aload_n (i := 1) hE d_Uw_putCode_16 rfl rfl ?_
  obtain ⟨x11, d13, e12, h⟩ := bdD_s h
  refine g_callV (av := [.inr (.inr (some o)), .inr (.inr v1)]) (as := [.inr (.inr v1)]) (stk := []) [] hE (c_Uw_putMethodEntry (xl X) (xG X) e12) ky_Uw_putMethodEntry ⟨Nat.le_of_ble_eq_true rfl, Nat.le_of_ble_eq_true rfl⟩ rfl kc_Uw k1 m_292 m_293 m_294 rfl d_Uw_putCode_17 rfl rfl ct_0 (Nat.zero_le _) (Nat.zero_le _) ?_
  refine gw.cs (c2 := 0) (s2 := 0) rfl rfl ?_
  refine g_aload_n (i := 1) hE d_Uw_putCode_20 rfl rfl ?_
  obtain ⟨a14, rfl, h⟩ := nn_s h
  obtain ⟨k15, h⟩ := kd_s h
  refine g_getIN 3 hE kc_Om k15 (Nat.le_of_ble_eq_true rfl) rfl nf_32 d_Uw_putCode_21 (fun x16 e => ?_)
  replace h := lt_i e h; clear e
  refine g_if_ne hE d_Uw_putCode_24 (fun c31 => ?_) (fun c31 => ?_)
  · replace h := if_f c31 h
    refine g_aload_n (i := 0) hE d_Uw_putCode_35 rfl rfl ?_
    refine g_iconst hE d_Uw_putCode_36 ki_5 ?_
    obtain ⟨x17, d19, e18, h⟩ := bdD_s h
    refine g_callV (av := [.inr (.inr (some o)), .inl 5]) (as := [.inl 5]) (stk := []) [] hE (c_Uw_put (xl X) (xG X) e18) ky_Uw_put ⟨Nat.le_of_ble_eq_true rfl, Nat.le_of_ble_eq_true rfl⟩ rfl kc_Uw k1 m_275 m_276 m_277 rfl d_Uw_putCode_37 rfl rfl ct_0 (Nat.zero_le _) (Nat.zero_le _) ?_
    refine gw.cs (c2 := 0) (s2 := 0) rfl rfl ?_
    refine g_aload_n (i := 0) hE d_Uw_putCode_40 rfl rfl ?_
    refine g_aload_n (i := 1) hE d_Uw_putCode_41 rfl rfl ?_
    obtain ⟨x20, e21, h⟩ := bd_s h
    refine g_callV (av := [.inr (.inr (some a14))]) (as := []) (stk := [.int x20, va_rf (some o)]) [va_rf (some o)] hE (c_Om_parameterCount (xl X) (xG X) e21) ky_Om_parameterCount ⟨Nat.le_of_ble_eq_true rfl, Nat.le_of_ble_eq_true rfl⟩ rfl kc_Om k15 m_289 m_290 m_291 rfl d_Uw_putCode_42 rfl rfl (Nat.le_trans (ct_r ct_n) (Nat.le_of_ble_eq_true rfl)) (Nat.zero_le _) (Nat.zero_le _) ?_
    refine gw.cs (c2 := 0) (s2 := 0) rfl rfl ?_
    obtain ⟨x22, d24, e23, h⟩ := bdD_s h
    refine g_callV (av := [.inr (.inr (some o)), .inl x20]) (as := [.inl x20]) (stk := []) [] hE (c_Uw_put (xl X) (xG X) e23) ky_Uw_put ⟨Nat.le_of_ble_eq_true rfl, Nat.le_of_ble_eq_true rfl⟩ rfl kc_Uw k1 m_275 m_276 m_277 rfl d_Uw_putCode_45 rfl rfl ct_0 (Nat.zero_le _) (Nat.zero_le _) ?_
    refine gw.cs (c2 := 0) (s2 := 0) rfl rfl ?_
    refine g_aload_n (i := 0) hE d_Uw_putCode_48 rfl rfl ?_
    refine g_aload_n (i := 1) hE d_Uw_putCode_49 rfl rfl ?_
    obtain ⟨x25, d27, e26, h⟩ := bdD_s h
    refine g_callV (av := [.inr (.inr (some o)), .inr (.inr (some a14))]) (as := [.inr (.inr (some a14))]) (stk := []) [] hE (c_Uw_putParameterCode (xl X) (xG X) e26) ky_Uw_putParameterCode ⟨Nat.le_of_ble_eq_true rfl, Nat.le_of_ble_eq_true rfl⟩ rfl kc_Uw k1 m_295 m_296 m_297 rfl d_Uw_putCode_50 rfl rfl ct_0 (Nat.zero_le _) (Nat.zero_le _) ?_
    refine gw.cs (c2 := 0) (s2 := 0) rfl rfl ?_
    exact gw.less (lv' := [some (va_rf (some o)), some (va_rf (some a14)), some (.int v2)]) (And.intro rfl (And.intro rfl (And.intro rfl trivial))) (w_Uw_putCode_J53 hE d27 (some a14) v2 h)
  · replace h := if_t c31 h
    refine g_aload_n (i := 0) hE d_Uw_putCode_27 rfl rfl ?_
    refine g_iconst hE d_Uw_putCode_28 ki_4 ?_
    obtain ⟨x28, d30, e29, h⟩ := bdD_s h
    refine g_callV (av := [.inr (.inr (some o)), .inl 4]) (as := [.inl 4]) (stk := []) [] hE (c_Uw_put (xl X) (xG X) e29) ky_Uw_put ⟨Nat.le_of_ble_eq_true rfl, Nat.le_of_ble_eq_true rfl⟩ rfl kc_Uw k1 m_275 m_276 m_277 rfl d_Uw_putCode_29 rfl rfl ct_0 (Nat.zero_le _) (Nat.zero_le _) ?_
    refine gw.cs (c2 := 0) (s2 := 0) rfl rfl ?_
    refine g_goto hE d_Uw_putCode_32 ?_
    exact gw.less (lv' := [some (va_rf (some o)), some (va_rf (some a14)), some (.int v2)]) (And.intro rfl (And.intro rfl (And.intro rfl trivial))) (w_Uw_putCode_J53 hE d30 (some a14) v2 h)
