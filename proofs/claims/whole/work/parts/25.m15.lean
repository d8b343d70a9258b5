theorem d_Uw_putMethod_0 : dc b_Uw_putMethod 0 (.aload_n 1) 1 1 := ⟨by decide +kernel, rfl⟩
theorem d_Uw_putMethod_1 : dc b_Uw_putMethod 1 (.getfield 74) 3 4 := ⟨by decide +kernel, rfl⟩
theorem d_Uw_putMethod_4 : dc b_Uw_putMethod 4 (.astore_n 2) 1 5 := ⟨by decide +kernel, rfl⟩
theorem d_Uw_putMethod_5 : dc b_Uw_putMethod 5 (.aload_n 0) 1 6 := ⟨by decide +kernel, rfl⟩
theorem d_Uw_putMethod_6 : dc b_Uw_putMethod 6 (.sipush 263) 3 9 := ⟨by decide +kernel, rfl⟩
theorem d_Uw_putMethod_9 : dc b_Uw_putMethod 9 (.aload_n 2) 1 10 := ⟨by decide +kernel, rfl⟩
theorem d_Uw_putMethod_10 : dc b_Uw_putMethod 10 (.getfield 80) 3 13 := ⟨by decide +kernel, rfl⟩
theorem d_Uw_putMethod_13 : dc b_Uw_putMethod 13 (.iadd) 1 14 := ⟨by decide +kernel, rfl⟩
theorem d_Uw_putMethod_14 : dc b_Uw_putMethod 14 (.iconst 3) 1 15 := ⟨by decide +kernel, rfl⟩
theorem d_Uw_putMethod_15 : dc b_Uw_putMethod 15 (.aload_n 2) 1 16 := ⟨by decide +kernel, rfl⟩
theorem d_Uw_putMethod_16 : dc b_Uw_putMethod 16 (.getfield 80) 3 19 := ⟨by decide +kernel, rfl⟩
theorem d_Uw_putMethod_19 : dc b_Uw_putMethod 19 (.invokevirtual 85) 3 22 := ⟨by decide +kernel, rfl⟩
theorem d_Uw_putMethod_22 : dc b_Uw_putMethod 22 (.pop) 1 23 := ⟨by decide +kernel, rfl⟩
theorem d_Uw_putMethod_23 : dc b_Uw_putMethod 23 (.aload_n 0) 1 24 := ⟨by decide +kernel, rfl⟩
theorem d_Uw_putMethod_24 : dc b_Uw_putMethod 24 (.aload_n 2) 1 25 := ⟨by decide +kernel, rfl⟩
theorem d_Uw_putMethod_25 : dc b_Uw_putMethod 25 (.getfield 89) 3 28 := ⟨by decide +kernel, rfl⟩
theorem d_Uw_putMethod_28 : dc b_Uw_putMethod 28 (.invokevirtual 53) 3 31 := ⟨by decide +kernel, rfl⟩
theorem d_Uw_putMethod_31 : dc b_Uw_putMethod 31 (.aload_n 0) 1 32 := ⟨by decide +kernel, rfl⟩
theorem d_Uw_putMethod_32 : dc b_Uw_putMethod 32 (.aload_n 2) 1 33 := ⟨by decide +kernel, rfl⟩
theorem d_Uw_putMethod_33 : dc b_Uw_putMethod 33 (.getfield 92) 3 36 := ⟨by decide +kernel, rfl⟩
theorem d_Uw_putMethod_36 : dc b_Uw_putMethod 36 (.invokevirtual 95) 3 39 := ⟨by decide +kernel, rfl⟩
theorem d_Uw_putMethod_39 : dc b_Uw_putMethod 39 (.aload_n 0) 1 40 := ⟨by decide +kernel, rfl⟩
theorem d_Uw_putMethod_40 : dc b_Uw_putMethod 40 (.aload_n 1) 1 41 := ⟨by decide +kernel, rfl⟩
theorem d_Uw_putMethod_41 : dc b_Uw_putMethod 41 (.getfield 98) 3 44 := ⟨by decide +kernel, rfl⟩
theorem d_Uw_putMethod_44 : dc b_Uw_putMethod 44 (.invokevirtual 102) 3 47 := ⟨by decide +kernel, rfl⟩
theorem d_Uw_putMethod_47 : dc b_Uw_putMethod 47 (.aload_n 0) 1 48 := ⟨by decide +kernel, rfl⟩
theorem d_Uw_putMethod_48 : dc b_Uw_putMethod 48 (.getfield 35) 3 51 := ⟨by decide +kernel, rfl⟩
theorem d_Uw_putMethod_51 : dc b_Uw_putMethod 51 (.istore_n 3) 1 52 := ⟨by decide +kernel, rfl⟩
theorem d_Uw_putMethod_52 : dc b_Uw_putMethod 52 (.aload_n 0) 1 53 := ⟨by decide +kernel, rfl⟩
theorem d_Uw_putMethod_53 : dc b_Uw_putMethod 53 (.iconst 0) 1 54 := ⟨by decide +kernel, rfl⟩
theorem d_Uw_putMethod_54 : dc b_Uw_putMethod 54 (.invokevirtual 43) 3 57 := ⟨by decide +kernel, rfl⟩
theorem d_Uw_putMethod_57 : dc b_Uw_putMethod 57 (.aload_n 0) 1 58 := ⟨by decide +kernel, rfl⟩
theorem d_Uw_putMethod_58 : dc b_Uw_putMethod 58 (.aload_n 2) 1 59 := ⟨by decide +kernel, rfl⟩
theorem d_Uw_putMethod_59 : dc b_Uw_putMethod 59 (.aload_n 1) 1 60 := ⟨by decide +kernel, rfl⟩
theorem d_Uw_putMethod_60 : dc b_Uw_putMethod 60 (.getfield 106) 3 63 := ⟨by decide +kernel, rfl⟩
theorem d_Uw_putMethod_63 : dc b_Uw_putMethod 63 (.getfield 109) 3 66 := ⟨by decide +kernel, rfl⟩
theorem d_Uw_putMethod_66 : db b_Uw_putMethod 66 (.ifCond .le 7) 7 73 69 := ⟨by decide +kernel, by decide, rfl⟩
theorem d_Uw_putMethod_69 : dc b_Uw_putMethod 69 (.iconst 1) 1 70 := ⟨by decide +kernel, rfl⟩
theorem d_Uw_putMethod_70 : db b_Uw_putMethod 70 (.goto 4) 4 74 73 := ⟨by decide +kernel, by decide, rfl⟩
theorem d_Uw_putMethod_73 : dc b_Uw_putMethod 73 (.iconst 0) 1 74 := ⟨by decide +kernel, rfl⟩
theorem d_Uw_putMethod_74 : dc b_Uw_putMethod 74 (.invokevirtual 114) 3 77 := ⟨by decide +kernel, rfl⟩
theorem d_Uw_putMethod_77 : dc b_Uw_putMethod 77 (.aload_n 0) 1 78 := ⟨by decide +kernel, rfl⟩
theorem d_Uw_putMethod_78 : dc b_Uw_putMethod 78 (.getfield 19) 3 81 := ⟨by decide +kernel, rfl⟩
theorem d_Uw_putMethod_81 : dc b_Uw_putMethod 81 (.iload_n 3) 1 82 := ⟨by decide +kernel, rfl⟩
theorem d_Uw_putMethod_82 : dc b_Uw_putMethod 82 (.aload_n 0) 1 83 := ⟨by decide +kernel, rfl⟩
theorem d_Uw_putMethod_83 : dc b_Uw_putMethod 83 (.getfield 35) 3 86 := ⟨by decide +kernel, rfl⟩
theorem d_Uw_putMethod_86 : dc b_Uw_putMethod 86 (.iload_n 3) 1 87 := ⟨by decide +kernel, rfl⟩
theorem d_Uw_putMethod_87 : dc b_Uw_putMethod 87 (.isub) 1 88 := ⟨by decide +kernel, rfl⟩
theorem d_Uw_putMethod_88 : dc b_Uw_putMethod 88 (.iconst 1) 1 89 := ⟨by decide +kernel, rfl⟩
theorem d_Uw_putMethod_89 : dc b_Uw_putMethod 89 (.isub) 1 90 := ⟨by decide +kernel, rfl⟩
theorem d_Uw_putMethod_90 : dc b_Uw_putMethod 90 (.i2b) 1 91 := ⟨by decide +kernel, rfl⟩
theorem d_Uw_putMethod_91 : dc b_Uw_putMethod 91 (.bastore) 1 92 := ⟨by decide +kernel, rfl⟩
theorem d_Uw_putMethod_92 : dc b_Uw_putMethod 92 (.aload_n 0) 1 93 := ⟨by decide +kernel, rfl⟩
theorem d_Uw_putMethod_93 : dc b_Uw_putMethod 93 (.aload_n 1) 1 94 := ⟨by decide +kernel, rfl⟩
theorem d_Uw_putMethod_94 : dc b_Uw_putMethod 94 (.getfield 106) 3 97 := ⟨by decide +kernel, rfl⟩
theorem d_Uw_putMethod_97 : dc b_Uw_putMethod 97 (.invokevirtual 102) 3 100 := ⟨by decide +kernel, rfl⟩
theorem d_Uw_putMethod_100 : dc b_Uw_putMethod 100 (.return_) 1 101 := ⟨by decide +kernel, rfl⟩
def f_Uw_putMethod_J74 (S : gS) (o : Nat) (d : gD) (v1 : Option Nat) (v3 : Int32) (u0 : Option Nat) (u1 : Option Nat) (u2 : Int32) : Option (Unit × gD) :=
  nn u0 fun a1 =>
  kd S a1 9 <|
  bdD (f_Uw_putCode S d a1 u1 u2) fun _ d5 =>
  kd S o 9 <|
  lt_ (sP S o 4) fun x7 =>
  lt_ (dI d5 o 5) fun x8 =>
  nn x7 fun a9 =>
  kd S a9 52 <|
  gi v3 (sN S a9) <|
  lt_ (wI d5 a9 v3.toNatClampNeg (vp_nar .byte ((Int32.toInt8 ((x8 - v3) - 1)).toInt32))) fun d12 =>
  nn v1 fun a13 =>
  kd S a13 7 <|
  lt_ (sP S a13 2) fun x15 =>
  bdD (f_Uw_putRow S d12 o x15) fun _ d18 =>
  some ((), d18)
set_option maxRecDepth 100000 in
set_option maxHeartbeats 4000000 in
theorem w_Uw_putMethod_J74 {X : GX} (hE : gE X b_Uw_putMethod 4 "StandInMill$UnitWriter" none "putMethod" 5 109) {S : gS} {o : Nat} {r : Unit} {d' : gD} :
    ∀ (d : gD) (v1 : Option Nat) (v3 : Int32) (u0 : Option Nat) (u1 : Option Nat) (u2 : Int32), f_Uw_putMethod_J74 S o d v1 v3 u0 u1 u2 = some (r, d') → gw X 0 0 (gQ X (none) S d' 0 0) S d 74 [some (va_rf (some o)), some (va_rf v1), none, some (.int v3)] [.int u2, va_rf u1, va_rf u0] := by
  intro d v1 v3 u0 u1 u2 h
  unfold f_Uw_putMethod_J74 at h
  obtain ⟨a1, rfl, h⟩ := nn_s h
  obtain ⟨k2, h⟩ := kd_s h
  obtain ⟨x3, d5, e4, h⟩ := bdD_s h
  refine g_callV (av := [.inr (.inr (some a1)), .inr (.inr u1), .inl u2]) (as := [.inr (.inr u1), .inl u2]) (stk := []) [] hE (c_Uw_putCode (xl X) (xG X) e4) ky_Uw_putCode ⟨Nat.le_of_ble_eq_true rfl, Nat.le_of_ble_eq_true rfl⟩ rfl kc_Uw k2 m_307 m_308 m_309 rfl d_Uw_putMethod_74 rfl rfl ct_0 (Nat.zero_le _) (Nat.zero_le _) ?_
  refine gw.cs (c2 := 0) (s2 := 0) rfl rfl ?_
  refine g_aload_n (i := 0) hE d_Uw_putMethod_77 rfl rfl ?_
  obtain ⟨k6, h⟩ := kd_s h
  refine g_getR 4 hE kc_Uw k6 (Nat.le_of_ble_eq_true rfl) rfl m_25 d_Uw_putMethod_78 (fun x7 e => ?_)
  replace h := lt_i e h; clear e
  refine g_iload_n (i := 3) hE d_Uw_putMethod_81 rfl rfl ?_
  refine g_aload_n (i := 0) hE d_Uw_putMethod_82 rfl rfl ?_
  refine g_getI 5 hE kc_Uw k6 (Nat.le_of_ble_eq_true rfl) rfl m_273 d_Uw_putMethod_83 (fun x8 e => ?_)
  replace h := lt_i e h; clear e
  refine g_iload_n (i := 3) hE d_Uw_putMethod_86 rfl rfl ?_
  refine g_isub hE d_Uw_putMethod_87 ?_
  refine g_iconst hE d_Uw_putMethod_88 ki_1 ?_
  refine g_isub hE d_Uw_putMethod_89 ?_
  refine g_i2b hE d_Uw_putMethod_90 ?_
  obtain ⟨a9, rfl, h⟩ := nn_s h
  obtain ⟨k10, h⟩ := kd_s h
  obtain ⟨g11, h⟩ := gi_s h
  refine g_bast hE k10 g11 d_Uw_putMethod_91 (fun d12 e => ?_)
  replace h := lt_i e h; clear e
  refine g_aload_n (i := 0) hE d_Uw_putMethod_92 rfl rfl ?_
  refine g_aload_n (i := 1) hE d_Uw_putMethod_93 rfl rfl ?_
  obtain ⟨a13, rfl, h⟩ := nn_s h
  obtain ⟨k14, h⟩ := kd_s h
  refine g_getRN 2 hE kc_Sm k14 (Nat.le_of_ble_eq_true rfl) rfl nf_37 d_Uw_putMethod_94 (fun x15 e => ?_)
  replace h := lt_i e h; clear e
  obtain ⟨x16, d18, e17, h⟩ := bdD_s h
  refine g_callV (av := [.inr (.inr (some o)), .inr (.inr x15)]) (as := [.inr (.inr x15)]) (stk := []) [] hE (c_Uw_putRow (xl X) (xG X) e17) ky_Uw_putRow ⟨Nat.le_of_ble_eq_true rfl, Nat.le_of_ble_eq_true rfl⟩ rfl kc_Uw k6 m_304 m_305 m_306 rfl d_Uw_putMethod_97 rfl rfl ct_0 (Nat.zero_le _) (Nat.zero_le _) ?_
  refine gw.cs (c2 := 0) (s2 := 0) rfl rfl ?_
  cases h
  exact g_vret hE d_Uw_putMethod_100 rfl rfl
set_option maxRecDepth 100000 in
def f_Uw_putMethod (S : gS) (d : gD) (o : Nat) (v1 : Option Nat) : Option (Unit × gD) :=
  nn v1 fun a1 =>
  kd S a1 7 <|
  lt_ (sP S a1 0) fun x3 =>
  nn x3 fun a4 =>
  kd S a4 5 <|
  lt_ (dI d a4 2) fun x6 =>
  lt_ (dI d a4 2) fun x7 =>
  kd S o 9 <|
  bdD (f_Uw_putEntry S d o (263 + x6) 3 x7) fun x9 d11 =>
  lt_ (dI d11 a4 3) fun x12 =>
  bdD (f_Uw_putTypes S d11 o x12) fun _ d15 =>
  lt_ (dI d15 a4 4) fun x16 =>
  bdD (f_Uw_putType S d15 o x16) fun _ d19 =>
  lt_ (sP S a1 1) fun x20 =>
  bdD (f_Uw_putRow S d19 o x20) fun _ d23 =>
  lt_ (dI d23 o 5) fun x24 =>
  bdD (f_Uw_put S d23 o 0) fun _ d27 =>
  lt_ (sP S a1 2) fun x28 =>
  nn x28 fun a29 =>
  kd S a29 2 <|
  lt_ (dI d27 a29 1) fun x31 =>
  if x31 ≤ 0 then (
    f_Uw_putMethod_J74 S o d27 (some a1) x24 (some o) (some a4) 0)
  else (
    f_Uw_putMethod_J74 S o d27 (some a1) x24 (some o) (some a4) 1)
set_option maxRecDepth 100000 in
set_option maxHeartbeats 4000000 in
theorem c_Uw_putMethod (l : Launch) (G : gG) {S : gS} {d : gD} {o : Nat} {v1 : Option Nat} {r : Unit} {d' : gD} (h : f_Uw_putMethod S d o v1 = some (r, d')) : GM l G y_Uw_putMethod b_Uw_putMethod 4 none 5 109 0 0 [.inr (.inr (some o)), .inr (.inr v1)] S d (none) S d' := by
  refine GM.of (by decide) (Nat.le_of_ble_eq_true rfl) ?_
  intro X hl0 hG0 hR0 hE0
  have hE : gE X b_Uw_putMethod 4 "StandInMill$UnitWriter" none "putMethod" 5 109 := hE0
  unfold f_Uw_putMethod at h
  refine gw.less (lv' := [some (va_rf (some o)), some (va_rf v1), none, none]) (And.intro rfl (And.intro rfl trivial)) ?_
  refine g_aload_n (i := 1) hE d_Uw_putMethod_0 rfl rfl ?_
  obtain ⟨a1, rfl, h⟩ := nn_s h
  obtain ⟨k2, h⟩ := kd_s h
  refine g_getRN 0 hE kc_Sm k2 (Nat.le_of_ble_eq_true rfl) rfl nf_34 d_Uw_putMethod_1 (fun x3 e => ?_)
  replace h := lt_i e h; clear e
  refine g_astore_n (i := 2) (lv' := [some (va_rf (some o)), some (va_rf (some a1)), some (va_rf x3), none]) hE d_Uw_putMethod_4 rfl (Nat.le_of_ble_eq_true rfl) ⟨rfl, Nat.le_of_ble_eq_true rfl⟩ (lvp_r rfl) ?_
  refine g_aload_n (i := 0) hE d_Uw_putMethod_5 rfl rfl ?_
  refine g_sipush hE d_Uw_putMethod_6 ks_263 ?_
  refine g_aload_n (i := 2) hE d_Uw_putMethod_9 rfl rfl ?_
  obtain ⟨a4, rfl, h⟩ := nn_s h
  obtain ⟨k5, h⟩ := kd_s h
  refine g_getIN 2 hE kc_Om k5 (Nat.le_of_ble_eq_true rfl) rfl nf_35 d_Uw_putMethod_10 (fun x6 e => ?_)
  replace h := lt_i e h; clear e
  refine g_iadd hE d_Uw_putMethod_13 ?_
  refine g_iconst hE d_Uw_putMethod_14 ki_3 ?_
  refine g_aload_n (i := 2) hE d_Uw_putMethod_15 rfl rfl ?_
  refine g_getIN 2 hE kc_Om k5 (Nat.le_of_ble_eq_true rfl) rfl nf_35 d_Uw_putMethod_16 (fun x7 e => ?_)
  replace h := lt_i e h; clear e
  obtain ⟨k8, h⟩ := kd_s h
  obtain ⟨x9, d11, e10, h⟩ := bdD_s h
  refine g_callV (av := [.inr (.inr (some o)), .inl (263 + x6), .inl 3, .inl x7]) (as := [.inl (263 + x6), .inl 3, .inl x7]) (stk := [.int x9]) [] hE (c_Uw_putEntry (xl X) (xG X) e10) ky_Uw_putEntry ⟨Nat.le_of_ble_eq_true rfl, Nat.le_of_ble_eq_true rfl⟩ rfl kc_Uw k8 m_282 m_283 m_284 rfl d_Uw_putMethod_19 rfl rfl ct_0 (Nat.zero_le _) (Nat.zero_le _) ?_
  refine gw.cs (c2 := 0) (s2 := 0) rfl rfl ?_
  refine g_popi hE d_Uw_putMethod_22 ?_
  refine g_aload_n (i := 0) hE d_Uw_putMethod_23 rfl rfl ?_
  refine g_aload_n (i := 2) hE d_Uw_putMethod_24 rfl rfl ?_
  refine g_getIN 3 hE kc_Om k5 (Nat.le_of_ble_eq_true rfl) rfl nf_32 d_Uw_putMethod_25 (fun x12 e => ?_)
  replace h := lt_i e h; clear e
  obtain ⟨x13, d15, e14, h⟩ := bdD_s h
  refine g_callV (av := [.inr (.inr (some o)), .inl x12]) (as := [.inl x12]) (stk := []) [] hE (c_Uw_putTypes (xl X) (xG X) e14) ky_Uw_putTypes ⟨Nat.le_of_ble_eq_true rfl, Nat.le_of_ble_eq_true rfl⟩ rfl kc_Uw k8 m_301 m_302 m_303 rfl d_Uw_putMethod_28 rfl rfl ct_0 (Nat.zero_le _) (Nat.zero_le _) ?_
  refine gw.cs (c2 := 0) (s2 := 0) rfl rfl ?_
  refine g_aload_n (i := 0) hE d_Uw_putMethod_31 rfl rfl ?_
  refine g_aload_n (i := 2) hE d_Uw_putMethod_32 rfl rfl ?_
  refine g_getIN 4 hE kc_Om k5 (Nat.le_of_ble_eq_true rfl) rfl nf_33 d_Uw_putMethod_33 (fun x16 e => ?_)
  replace h := lt_i e h; clear e
  obtain ⟨x17, d19, e18, h⟩ := bdD_s h
  refine g_callV (av := [.inr (.inr (some o)), .inl x16]) (as := [.inl x16]) (stk := []) [] hE (c_Uw_putType (xl X) (xG X) e18) ky_Uw_putType ⟨Nat.le_of_ble_eq_true rfl, Nat.le_of_ble_eq_true rfl⟩ rfl kc_Uw k8 m_285 m_286 m_287 rfl d_Uw_putMethod_36 rfl rfl ct_0 (Nat.zero_le _) (Nat.zero_le _) ?_
  refine gw.cs (c2 := 0) (s2 := 0) rfl rfl ?_
  refine g_aload_n (i := 0) hE d_Uw_putMethod_39 rfl rfl ?_
  refine g_aload_n (i := 1) hE d_Uw_putMethod_40 rfl rfl ?_
  refine g_getRN 1 hE kc_Sm k2 (Nat.le_of_ble_eq_true rfl) rfl nf_36 d_Uw_putMethod_41 (fun x20 e => ?_)
  replace h := lt_i e h; clear e
  obtain ⟨x21, d23, e22, h⟩ := bdD_s h
  refine g_callV (av := [.inr (.inr (some o)), .inr (.inr x20)]) (as := [.inr (.inr x20)]) (stk := []) [] hE (c_Uw_putRow (xl X) (xG X) e22) ky_Uw_putRow ⟨Nat.le_of_ble_eq_true rfl, Nat.le_of_ble_eq_true rfl⟩ rfl kc_Uw k8 m_304 m_305 m_306 rfl d_Uw_putMethod_44 rfl rfl ct_0 (Nat.zero_le _) (Nat.zero_le _) ?_
  refine gw.cs (c2 := 0) (s2 := 0) rfl rfl ?_
  refine g_aload_n (i := 0) hE d_Uw_putMethod_47 rfl rfl ?_
  refine g_getI 5 hE kc_Uw k8 (Nat.le_of_ble_eq_true rfl) rfl m_273 d_Uw_putMethod_48 (fun x24 e => ?_)
  replace h := lt_i e h; clear e
  refine g_istore_n (i := 3) (lv' := [some (va_rf (some o)), some (va_rf (some a1)), some (va_rf (some a4)), some (.int x24)]) hE d_Uw_putMethod_51 rfl (Nat.le_of_ble_eq_true rfl) ⟨rfl, Nat.le_of_ble_eq_true rfl⟩ (lvp_r rfl) ?_
  refine g_aload_n (i := 0) hE d_Uw_putMethod_52 rfl rfl ?_
  refine g_iconst hE d_Uw_putMethod_53 ki_0 ?_
  obtain ⟨x25, d27, e26, h⟩ := bdD_s h
  refine g_callV (av := [.inr (.inr (some o)), .inl 0]) (as := [.inl 0]) (stk := []) [] hE (c_Uw_put (xl X) (xG X) e26) ky_Uw_put ⟨Nat.le_of_ble_eq_true rfl, Nat.le_of_ble_eq_true rfl⟩ rfl kc_Uw k8 m_275 m_276 m_277 rfl d_Uw_putMethod_54 rfl rfl ct_0 (Nat.zero_le _) (Nat.zero_le _) ?_
  refine gw.cs (c2 := 0) (s2 := 0) rfl rfl ?_
  refine g_aload_n (i := 0) hE d_Uw_putMethod_57 rfl rfl ?_
  refine g_aload_n (i := 2) hE d_Uw_putMethod_58 rfl rfl ?_
  refine g_aload_n (i := 1) hE d_Uw_putMethod_59 rfl rfl ?_
  refine g_getRN 2 hE kc_Sm k2 (Nat.le_of_ble_eq_true rfl) rfl nf_37 d_Uw_putMethod_60 (fun x28 e => ?_)
  replace h := lt_i e h; clear e
  obtain ⟨a29, rfl, h⟩ := nn_s h
  obtain ⟨k30, h⟩ := kd_s h
  refine g_getIN 1 hE kc_Rw k30 (Nat.le_of_ble_eq_true rfl) rfl nf_29 d_Uw_putMethod_63 (fun x31 e => ?_)
  replace h := lt_i e h; clear e
  refine g_if_le hE d_Uw_putMethod_66 (fun c32 => ?_) (fun c32 => ?_)
  · replace h := if_t c32 h
    refine g_iconst hE d_Uw_putMethod_73 ki_0 ?_
    exact gw.less (lv' := [some (va_rf (some o)), some (va_rf (some a1)), none, some (.int x24)]) (And.intro rfl (And.intro rfl (And.intro rfl trivial))) (w_Uw_putMethod_J74 hE d27 (some a1) x24 (some o) (some a4) 0 h)
  · replace h := if_f c32 h
    refine g_iconst hE d_Uw_putMethod_69 ki_1 ?_
    refine g_goto hE d_Uw_putMethod_70 ?_
    exact gw.less (lv' := [some (va_rf (some o)), some (va_rf (some a1)), none, some (.int x24)]) (And.intro rfl (And.intro rfl (And.intro rfl trivial))) (w_Uw_putMethod_J74 hE d27 (some a1) x24 (some o) (some a4) 1 h)
theorem d_Uw_joined_0 : dc b_Uw_joined 0 (.iconst 3) 1 1 := ⟨by decide +kernel, rfl⟩
theorem d_Uw_joined_1 : dc b_Uw_joined 1 (.aload_n 0) 1 2 := ⟨by decide +kernel, rfl⟩
theorem d_Uw_joined_2 : dc b_Uw_joined 2 (.getfield 32) 3 5 := ⟨by decide +kernel, rfl⟩
theorem d_Uw_joined_5 : dc b_Uw_joined 5 (.iadd) 1 6 := ⟨by decide +kernel, rfl⟩
theorem d_Uw_joined_6 : dc b_Uw_joined 6 (.aload_n 0) 1 7 := ⟨by decide +kernel, rfl⟩
theorem d_Uw_joined_7 : dc b_Uw_joined 7 (.getfield 35) 3 10 := ⟨by decide +kernel, rfl⟩
theorem d_Uw_joined_10 : dc b_Uw_joined 10 (.iadd) 1 11 := ⟨by decide +kernel, rfl⟩
theorem d_Uw_joined_11 : dc b_Uw_joined 11 (.newarray .byte) 2 13 := ⟨by decide +kernel, rfl⟩
theorem d_Uw_joined_13 : dc b_Uw_joined 13 (.astore_n 1) 1 14 := ⟨by decide +kernel, rfl⟩
theorem d_Uw_joined_14 : dc b_Uw_joined 14 (.aload_n 1) 1 15 := ⟨by decide +kernel, rfl⟩
theorem d_Uw_joined_15 : dc b_Uw_joined 15 (.iconst 0) 1 16 := ⟨by decide +kernel, rfl⟩
theorem d_Uw_joined_16 : dc b_Uw_joined 16 (.bipush 70) 2 18 := ⟨by decide +kernel, rfl⟩
theorem d_Uw_joined_18 : dc b_Uw_joined 18 (.bastore) 1 19 := ⟨by decide +kernel, rfl⟩
theorem d_Uw_joined_19 : dc b_Uw_joined 19 (.aload_n 1) 1 20 := ⟨by decide +kernel, rfl⟩
theorem d_Uw_joined_20 : dc b_Uw_joined 20 (.iconst 1) 1 21 := ⟨by decide +kernel, rfl⟩
theorem d_Uw_joined_21 : dc b_Uw_joined 21 (.iconst 1) 1 22 := ⟨by decide +kernel, rfl⟩
theorem d_Uw_joined_22 : dc b_Uw_joined 22 (.bastore) 1 23 := ⟨by decide +kernel, rfl⟩
theorem d_Uw_joined_23 : dc b_Uw_joined 23 (.aload_n 1) 1 24 := ⟨by decide +kernel, rfl⟩
theorem d_Uw_joined_24 : dc b_Uw_joined 24 (.iconst 2) 1 25 := ⟨by decide +kernel, rfl⟩
theorem d_Uw_joined_25 : dc b_Uw_joined 25 (.aload_n 0) 1 26 := ⟨by decide +kernel, rfl⟩
theorem d_Uw_joined_26 : dc b_Uw_joined 26 (.getfield 28) 3 29 := ⟨by decide +kernel, rfl⟩
theorem d_Uw_joined_29 : dc b_Uw_joined 29 (.i2b) 1 30 := ⟨by decide +kernel, rfl⟩
theorem d_Uw_joined_30 : dc b_Uw_joined 30 (.bastore) 1 31 := ⟨by decide +kernel, rfl⟩
theorem d_Uw_joined_31 : dc b_Uw_joined 31 (.aload_n 0) 1 32 := ⟨by decide +kernel, rfl⟩
theorem d_Uw_joined_32 : dc b_Uw_joined 32 (.getfield 15) 3 35 := ⟨by decide +kernel, rfl⟩
theorem d_Uw_joined_35 : dc b_Uw_joined 35 (.iconst 0) 1 36 := ⟨by decide +kernel, rfl⟩
theorem d_Uw_joined_36 : dc b_Uw_joined 36 (.aload_n 1) 1 37 := ⟨by decide +kernel, rfl⟩
theorem d_Uw_joined_37 : dc b_Uw_joined 37 (.iconst 3) 1 38 := ⟨by decide +kernel, rfl⟩
theorem d_Uw_joined_38 : dc b_Uw_joined 38 (.aload_n 0) 1 39 := ⟨by decide +kernel, rfl⟩
theorem d_Uw_joined_39 : dc b_Uw_joined 39 (.getfield 32) 3 42 := ⟨by decide +kernel, rfl⟩
theorem d_Uw_joined_42 : dc b_Uw_joined 42 (.invokestatic 68) 3 45 := ⟨by decide +kernel, rfl⟩
theorem d_Uw_joined_45 : dc b_Uw_joined 45 (.aload_n 0) 1 46 := ⟨by decide +kernel, rfl⟩
theorem d_Uw_joined_46 : dc b_Uw_joined 46 (.getfield 19) 3 49 := ⟨by decide +kernel, rfl⟩
theorem d_Uw_joined_49 : dc b_Uw_joined 49 (.iconst 0) 1 50 := ⟨by decide +kernel, rfl⟩
theorem d_Uw_joined_50 : dc b_Uw_joined 50 (.aload_n 1) 1 51 := ⟨by decide +kernel, rfl⟩
theorem d_Uw_joined_51 : dc b_Uw_joined 51 (.iconst 3) 1 52 := ⟨by decide +kernel, rfl⟩
theorem d_Uw_joined_52 : dc b_Uw_joined 52 (.aload_n 0) 1 53 := ⟨by decide +kernel, rfl⟩
theorem d_Uw_joined_53 : dc b_Uw_joined 53 (.getfield 32) 3 56 := ⟨by decide +kernel, rfl⟩
theorem d_Uw_joined_56 : dc b_Uw_joined 56 (.iadd) 1 57 := ⟨by decide +kernel, rfl⟩
theorem d_Uw_joined_57 : dc b_Uw_joined 57 (.aload_n 0) 1 58 := ⟨by decide +kernel, rfl⟩
theorem d_Uw_joined_58 : dc b_Uw_joined 58 (.getfield 35) 3 61 := ⟨by decide +kernel, rfl⟩
theorem d_Uw_joined_61 : dc b_Uw_joined 61 (.invokestatic 68) 3 64 := ⟨by decide +kernel, rfl⟩
theorem d_Uw_joined_64 : dc b_Uw_joined 64 (.aload_n 1) 1 65 := ⟨by decide +kernel, rfl⟩
theorem d_Uw_joined_65 : dc b_Uw_joined 65 (.areturn) 1 66 := ⟨by decide +kernel, rfl⟩
set_option maxRecDepth 100000 in
def f_Uw_joined (S : gS) (d : gD) (o : Nat) : Option ((Option Nat × gS × gD) × Nat × Nat) :=
  kd S o 9 <|
  lt_ (dI d o 3) fun x2 =>
  lt_ (dI d o 5) fun x3 =>
  nl ((3 + x2) + x3) <|
  ac 1 (((3 + x2) + x3 : Int32).toNatClampNeg) <|
  lt_ (nS S 52 (((3 + x2) + x3 : Int32).toNatClampNeg)) fun S4 =>
  lt_ (nD S d) fun d5 =>
  lt_ (sZ S) fun a6 =>
  gi 0 (sN S4 a6) <|
  lt_ (wI d5 a6 (0 : Int32).toNatClampNeg (vp_nar .byte 70)) fun d12 =>
  gi 1 (sN S4 a6) <|
  lt_ (wI d12 a6 (1 : Int32).toNatClampNeg (vp_nar .byte 1)) fun d14 =>
  kd S4 o 9 <|
  lt_ (dI d14 o 1) fun x16 =>
  gi 2 (sN S4 a6) <|
  lt_ (wI d14 a6 (2 : Int32).toNatClampNeg (vp_nar .byte ((Int32.toInt8 x16).toInt32))) fun d18 =>
  lt_ (sP S4 o 2) fun x19 =>
  lt_ (dI d18 o 3) fun x20 =>
  nn x19 fun a21 =>
  kd S4 a21 52 <|
  cp S4 d18 a21 a6 0 3 x20 <|
  lt_ (wcp d18 a21 a6 0 3 x20) fun d24 =>
  lt_ (sP S4 o 4) fun x25 =>
  lt_ (dI d24 o 3) fun x26 =>
  lt_ (dI d24 o 5) fun x27 =>
  nn x25 fun a28 =>
  kd S4 a28 52 <|
  cp S4 d24 a28 a6 0 (3 + x26) x27 <|
  lt_ (wcp d24 a28 a6 0 (3 + x26) x27) fun d31 =>
  some (((some a6), S4, d31), 0, 0)
set_option maxRecDepth 100000 in
set_option maxHeartbeats 4000000 in
theorem c_Uw_joined (l : Launch) (G : gG) {S : gS} {d : gD} {o : Nat} {r : Option Nat} {d' : gD} {S' : gS} {dc ds : Nat} (h : f_Uw_joined S d o = some ((r, S', d'), dc, ds)) : GM l G y_Uw_joined b_Uw_joined 2 (some (.array (.byte))) 1 26 dc ds [.inr (.inr (some o))] S d (some (va_rf r)) S' d' := by
  refine GM.of (by decide) (Nat.le_of_ble_eq_true rfl) ?_
  intro X hl0 hG0 hR0 hE0
  have hE : gE X b_Uw_joined 2 "StandInMill$UnitWriter" (some (.array (.byte))) "joined" 1 26 := hE0
  have hmc : (xR X).cells = dc := by rw [hR0]
  have hms : (xR X).slots = ds := by rw [hR0]
  obtain ⟨mc, emc⟩ : ∃ z, z = dc := ⟨_, rfl⟩
  obtain ⟨ms, ems⟩ : ∃ z, z = ds := ⟨_, rfl⟩
  rw [← emc] at hmc
  rw [← ems] at hms
  have hc : 0 + dc = mc := by omega
  have hs : 0 + ds = ms := by omega
  show gw X 0 0 (gQ X _ _ _ dc ds) _ _ _ _ _
  rw [← emc, ← ems]
  clear hR0 emc ems
  unfold f_Uw_joined at h
  refine gw.less (lv' := [some (va_rf (some o)), none]) (And.intro rfl trivial) ?_
  refine g_iconst hE d_Uw_joined_0 ki_3 ?_
  refine g_aload_n (i := 0) hE d_Uw_joined_1 rfl rfl ?_
  obtain ⟨k1, h⟩ := kd_s h
  refine g_getI 3 hE kc_Uw k1 (Nat.le_of_ble_eq_true rfl) rfl m_274 d_Uw_joined_2 (fun x2 e => ?_)
  replace h := lt_i e h; clear e
  refine g_iadd hE d_Uw_joined_5 ?_
  refine g_aload_n (i := 0) hE d_Uw_joined_6 rfl rfl ?_
  refine g_getI 5 hE kc_Uw k1 (Nat.le_of_ble_eq_true rfl) rfl m_273 d_Uw_joined_7 (fun x3 e => ?_)
  replace h := lt_i e h; clear e
  refine g_iadd hE d_Uw_joined_10 ?_
  obtain ⟨g7, h⟩ := nl_s h
  obtain ⟨dc0, ds0, h, hc0, hs0⟩ := ac_s h
  refine g_newa (κ := 52) hE rfl (by decide) (fun _ => rfl) (fun _ _ h => h) (by decide) m_23 g7 (cnt_room hmc hc hc0) (cnt_room hms hs hs0) d_Uw_joined_11 (fun S4 d5 a6 e1 e2 e3 => ?_)
  have k8 : sK S4 a6 = 52 := by rw [← e1, ← e3]; exact nS_new
  replace h := lt_i e1 h; replace h := lt_i e2 h; replace h := lt_i e3 h; clear e1 e2 e3
  refine gw.gen (fun c9 s10 ec es => ?_)
  replace hc := cnt_step hc hc0 ec; replace hs := cnt_step hs hs0 es; clear hc0 hs0 ec es
  refine g_astore_n (i := 1) (lv' := [some (va_rf (some o)), some (va_rf (some a6))]) hE d_Uw_joined_13 rfl (Nat.le_of_ble_eq_true rfl) ⟨rfl, Nat.le_of_ble_eq_true rfl⟩ (lvp_r rfl) ?_
  refine g_aload_n (i := 1) hE d_Uw_joined_14 rfl rfl ?_
  refine g_iconst hE d_Uw_joined_15 ki_0 ?_
  refine g_bipush hE d_Uw_joined_16 kb_70 ?_
  obtain ⟨g11, h⟩ := gi_s h
  refine g_bast hE k8 g11 d_Uw_joined_18 (fun d12 e => ?_)
  replace h := lt_i e h; clear e
  refine g_aload_n (i := 1) hE d_Uw_joined_19 rfl rfl ?_
  refine g_iconst hE d_Uw_joined_20 ki_1 ?_
  refine g_iconst hE d_Uw_joined_21 ki_1 ?_
  obtain ⟨g13, h⟩ := gi_s h
  refine g_bast hE k8 g13 d_Uw_joined_22 (fun d14 e => ?_)
  replace h := lt_i e h; clear e
  refine g_aload_n (i := 1) hE d_Uw_joined_23 rfl rfl ?_
  refine g_iconst hE d_Uw_joined_24 ki_2 ?_
  refine g_aload_n (i := 0) hE d_Uw_joined_25 rfl rfl ?_
  obtain ⟨k15, h⟩ := kd_s h
  refine g_getI 1 hE kc_Uw k15 (Nat.le_of_ble_eq_true rfl) rfl m_278 d_Uw_joined_26 (fun x16 e => ?_)
  replace h := lt_i e h; clear e
  refine g_i2b hE d_Uw_joined_29 ?_
  obtain ⟨g17, h⟩ := gi_s h
  refine g_bast hE k8 g17 d_Uw_joined_30 (fun d18 e => ?_)
  replace h := lt_i e h; clear e
  refine g_aload_n (i := 0) hE d_Uw_joined_31 rfl rfl ?_
  refine g_getR 2 hE kc_Uw k15 (Nat.le_of_ble_eq_true rfl) rfl m_24 d_Uw_joined_32 (fun x19 e => ?_)
  replace h := lt_i e h; clear e
  refine g_iconst hE d_Uw_joined_35 ki_0 ?_
  refine g_aload_n (i := 1) hE d_Uw_joined_36 rfl rfl ?_
  refine g_iconst hE d_Uw_joined_37 ki_3 ?_
  refine g_aload_n (i := 0) hE d_Uw_joined_38 rfl rfl ?_
  refine g_getI 3 hE kc_Uw k15 (Nat.le_of_ble_eq_true rfl) rfl m_274 d_Uw_joined_39 (fun x20 e => ?_)
  replace h := lt_i e h; clear e
  obtain ⟨a21, rfl, h⟩ := nn_s h
  obtain ⟨k22, h⟩ := kd_s h
  obtain ⟨g23, h⟩ := cp_s h
  refine g_copyb hE k22 k8 g23 m_310 m_311 m_312 m_313 ⟨Nat.le_of_ble_eq_true rfl, Nat.le_of_ble_eq_true rfl⟩ ct_0 d_Uw_joined_42 (fun d24 e => ?_)
  replace h := lt_i e h; clear e
  refine g_aload_n (i := 0) hE d_Uw_joined_45 rfl rfl ?_
  refine g_getR 4 hE kc_Uw k15 (Nat.le_of_ble_eq_true rfl) rfl m_25 d_Uw_joined_46 (fun x25 e => ?_)
  replace h := lt_i e h; clear e
  refine g_iconst hE d_Uw_joined_49 ki_0 ?_
  refine g_aload_n (i := 1) hE d_Uw_joined_50 rfl rfl ?_
  refine g_iconst hE d_Uw_joined_51 ki_3 ?_
  refine g_aload_n (i := 0) hE d_Uw_joined_52 rfl rfl ?_
  refine g_getI 3 hE kc_Uw k15 (Nat.le_of_ble_eq_true rfl) rfl m_274 d_Uw_joined_53 (fun x26 e => ?_)
  replace h := lt_i e h; clear e
  refine g_iadd hE d_Uw_joined_56 ?_
  refine g_aload_n (i := 0) hE d_Uw_joined_57 rfl rfl ?_
  refine g_getI 5 hE kc_Uw k15 (Nat.le_of_ble_eq_true rfl) rfl m_273 d_Uw_joined_58 (fun x27 e => ?_)
  replace h := lt_i e h; clear e
  obtain ⟨a28, rfl, h⟩ := nn_s h
  obtain ⟨k29, h⟩ := kd_s h
  obtain ⟨g30, h⟩ := cp_s h
  refine g_copyb hE k29 k8 g30 m_310 m_311 m_312 m_313 ⟨Nat.le_of_ble_eq_true rfl, Nat.le_of_ble_eq_true rfl⟩ ct_0 d_Uw_joined_61 (fun d31 e => ?_)
  replace h := lt_i e h; clear e
  refine g_aload_n (i := 1) hE d_Uw_joined_64 rfl rfl ?_
  cases h
  exact g_aret hE (Or.inr ⟨_, rfl⟩) d_Uw_joined_65 hc hs
theorem d_Uw_write_0 : dc b_Uw_write 0 (.aload_n 0) 1 1 := ⟨by decide +kernel, rfl⟩
theorem d_Uw_write_1 : dc b_Uw_write 1 (.getfield 11) 3 4 := ⟨by decide +kernel, rfl⟩
theorem d_Uw_write_4 : dc b_Uw_write 4 (.iconst (-1)) 1 5 := ⟨by decide +kernel, rfl⟩
theorem d_Uw_write_5 : dc b_Uw_write 5 (.invokestatic 22) 3 8 := ⟨by decide +kernel, rfl⟩
theorem d_Uw_write_8 : dc b_Uw_write 8 (.aload_n 0) 1 9 := ⟨by decide +kernel, rfl⟩
theorem d_Uw_write_9 : dc b_Uw_write 9 (.iconst 0) 1 10 := ⟨by decide +kernel, rfl⟩
theorem d_Uw_write_10 : dc b_Uw_write 10 (.putfield 28) 3 13 := ⟨by decide +kernel, rfl⟩
theorem d_Uw_write_13 : dc b_Uw_write 13 (.aload_n 0) 1 14 := ⟨by decide +kernel, rfl⟩
theorem d_Uw_write_14 : dc b_Uw_write 14 (.iconst 0) 1 15 := ⟨by decide +kernel, rfl⟩
theorem d_Uw_write_15 : dc b_Uw_write 15 (.putfield 32) 3 18 := ⟨by decide +kernel, rfl⟩
theorem d_Uw_write_18 : dc b_Uw_write 18 (.aload_n 0) 1 19 := ⟨by decide +kernel, rfl⟩
theorem d_Uw_write_19 : dc b_Uw_write 19 (.iconst 0) 1 20 := ⟨by decide +kernel, rfl⟩
theorem d_Uw_write_20 : dc b_Uw_write 20 (.putfield 35) 3 23 := ⟨by decide +kernel, rfl⟩
theorem d_Uw_write_23 : dc b_Uw_write 23 (.aload_n 0) 1 24 := ⟨by decide +kernel, rfl⟩
theorem d_Uw_write_24 : dc b_Uw_write 24 (.aload_n 1) 1 25 := ⟨by decide +kernel, rfl⟩
theorem d_Uw_write_25 : dc b_Uw_write 25 (.getfield 38) 3 28 := ⟨by decide +kernel, rfl⟩
theorem d_Uw_write_28 : dc b_Uw_write 28 (.invokevirtual 43) 3 31 := ⟨by decide +kernel, rfl⟩
theorem d_Uw_write_31 : dc b_Uw_write 31 (.aload_n 0) 1 32 := ⟨by decide +kernel, rfl⟩
theorem d_Uw_write_32 : dc b_Uw_write 32 (.aload_n 1) 1 33 := ⟨by decide +kernel, rfl⟩
theorem d_Uw_write_33 : dc b_Uw_write 33 (.getfield 47) 3 36 := ⟨by decide +kernel, rfl⟩
theorem d_Uw_write_36 : dc b_Uw_write 36 (.invokevirtual 43) 3 39 := ⟨by decide +kernel, rfl⟩
theorem d_Uw_write_39 : dc b_Uw_write 39 (.aload_n 0) 1 40 := ⟨by decide +kernel, rfl⟩
theorem d_Uw_write_40 : dc b_Uw_write 40 (.aload_n 1) 1 41 := ⟨by decide +kernel, rfl⟩
theorem d_Uw_write_41 : dc b_Uw_write 41 (.getfield 50) 3 44 := ⟨by decide +kernel, rfl⟩
theorem d_Uw_write_44 : dc b_Uw_write 44 (.invokevirtual 53) 3 47 := ⟨by decide +kernel, rfl⟩
theorem d_Uw_write_47 : dc b_Uw_write 47 (.aload_n 0) 1 48 := ⟨by decide +kernel, rfl⟩
theorem d_Uw_write_48 : dc b_Uw_write 48 (.aload_n 1) 1 49 := ⟨by decide +kernel, rfl⟩
theorem d_Uw_write_49 : dc b_Uw_write 49 (.getfield 56) 3 52 := ⟨by decide +kernel, rfl⟩
theorem d_Uw_write_52 : dc b_Uw_write 52 (.arraylength) 1 53 := ⟨by decide +kernel, rfl⟩
theorem d_Uw_write_53 : dc b_Uw_write 53 (.invokevirtual 43) 3 56 := ⟨by decide +kernel, rfl⟩
theorem d_Uw_write_56 : dc b_Uw_write 56 (.iconst 0) 1 57 := ⟨by decide +kernel, rfl⟩
theorem d_Uw_write_57 : dc b_Uw_write 57 (.istore_n 2) 1 58 := ⟨by decide +kernel, rfl⟩
theorem d_Uw_write_58 : dc b_Uw_write 58 (.iload_n 2) 1 59 := ⟨by decide +kernel, rfl⟩
theorem d_Uw_write_59 : dc b_Uw_write 59 (.aload_n 1) 1 60 := ⟨by decide +kernel, rfl⟩
theorem d_Uw_write_60 : dc b_Uw_write 60 (.getfield 56) 3 63 := ⟨by decide +kernel, rfl⟩
theorem d_Uw_write_63 : dc b_Uw_write 63 (.arraylength) 1 64 := ⟨by decide +kernel, rfl⟩
theorem d_Uw_write_64 : db b_Uw_write 64 (.if_icmp .ge 19) 19 83 67 := ⟨by decide +kernel, by decide, rfl⟩
theorem d_Uw_write_67 : dc b_Uw_write 67 (.aload_n 0) 1 68 := ⟨by decide +kernel, rfl⟩
theorem d_Uw_write_68 : dc b_Uw_write 68 (.aload_n 1) 1 69 := ⟨by decide +kernel, rfl⟩
theorem d_Uw_write_69 : dc b_Uw_write 69 (.getfield 56) 3 72 := ⟨by decide +kernel, rfl⟩
theorem d_Uw_write_72 : dc b_Uw_write 72 (.iload_n 2) 1 73 := ⟨by decide +kernel, rfl⟩
theorem d_Uw_write_73 : dc b_Uw_write 73 (.aaload) 1 74 := ⟨by decide +kernel, rfl⟩
theorem d_Uw_write_74 : dc b_Uw_write 74 (.invokevirtual 60) 3 77 := ⟨by decide +kernel, rfl⟩
theorem d_Uw_write_77 : dc b_Uw_write 77 (.iinc 2 1) 3 80 := ⟨by decide +kernel, rfl⟩
theorem d_Uw_write_80 : db b_Uw_write 80 (.goto (-22)) (-22) 58 83 := ⟨by decide +kernel, by decide, rfl⟩
theorem d_Uw_write_83 : dc b_Uw_write 83 (.aload_n 0) 1 84 := ⟨by decide +kernel, rfl⟩
theorem d_Uw_write_84 : dc b_Uw_write 84 (.invokevirtual 64) 3 87 := ⟨by decide +kernel, rfl⟩
theorem d_Uw_write_87 : dc b_Uw_write 87 (.areturn) 1 88 := ⟨by decide +kernel, rfl⟩
def f_Uw_write_B58 (o : Nat) (kx83 : gS → gD → Option ((Option Nat × gS × gD) × Nat × Nat)) (kb : gS → gD → Option Nat → Int32 → Option ((Option Nat × gS × gD) × Nat × Nat)) (S : gS) (d : gD) (v1 : Option Nat) (v2 : Int32) : Option ((Option Nat × gS × gD) × Nat × Nat) :=
  nn v1 fun a1 =>
  kd S a1 6 <|
  lt_ (sP S a1 4) fun x3 =>
  nn x3 fun a4 =>
  kd S a4 63 <|
  if (Int32.ofNat (sN S a4)) ≤ v2 then (
    kx83 S d)
  else (
    lt_ (sP S a1 4) fun x6 =>
    nn x6 fun a7 =>
    kd S a7 63 <|
    gi v2 (sN S a7) <|
    lt_ (sP S a7 v2.toNatClampNeg) fun x10 =>
    kd S o 9 <|
    bdD (f_Uw_putMethod S d o x10) fun _ d14 =>
    kb S d14 (some a1) (v2 + 1))
set_option maxRecDepth 100000 in
set_option maxHeartbeats 4000000 in
theorem w_Uw_write_B58 {X : GX} (hE : gE X b_Uw_write 3 "StandInMill$UnitWriter" (some (.array (.byte))) "write" 6 132) {o : Nat} {r : Option Nat} {S' : gS} {d' : gD} {mc ms : Nat} (hmc : (xR X).cells = mc) (hms : (xR X).slots = ms) {kb : gS → gD → Option Nat → Int32 → Option ((Option Nat × gS × gD) × Nat × Nat)} {kx83 : gS → gD → Option ((Option Nat × gS × gD) × Nat × Nat)} (hkb : ∀ (cells slots dc ds : Nat) (S : gS) (d : gD) (v1 : Option Nat) (v2 : Int32), kb S d v1 v2 = some ((r, S', d'), dc, ds) → cells + dc = mc → slots + ds = ms → gw X cells slots (gQ X (some (va_rf r)) S' d' mc ms) S d 58 [some (va_rf (some o)), some (va_rf v1), some (.int v2)] []) (hkx83 : ∀ (cells slots dc ds : Nat) (S : gS) (d : gD), kx83 S d = some ((r, S', d'), dc, ds) → cells + dc = mc → slots + ds = ms → gw X cells slots (gQ X (some (va_rf r)) S' d' mc ms) S d 83 [some (va_rf (some o)), none, none] []) :
    ∀ (cells slots dc ds : Nat) (S : gS) (d : gD) (v1 : Option Nat) (v2 : Int32), f_Uw_write_B58 o kx83 kb S d v1 v2 = some ((r, S', d'), dc, ds) → cells + dc = mc → slots + ds = ms → gw X cells slots (gQ X (some (va_rf r)) S' d' mc ms) S d 58 [some (va_rf (some o)), some (va_rf v1), some (.int v2)] [] := by
  intro cells slots dc ds S d v1 v2 h hc hs
  unfold f_Uw_write_B58 at h
  refine g_iload_n (i := 2) hE d_Uw_write_58 rfl rfl ?_
  refine g_aload_n (i := 1) hE d_Uw_write_59 rfl rfl ?_
  obtain ⟨a1, rfl, h⟩ := nn_s h
  obtain ⟨k2, h⟩ := kd_s h
  refine g_getRN 4 hE kc_Si k2 (Nat.le_of_ble_eq_true rfl) rfl nf_41 d_Uw_write_60 (fun x3 e => ?_)
  replace h := lt_i e h; clear e
  obtain ⟨a4, rfl, h⟩ := nn_s h
  obtain ⟨k5, h⟩ := kd_s h
  refine g_alen hE k5 (by decide) d_Uw_write_63 ?_
  refine g_icmp_ge hE d_Uw_write_64 (fun c15 => ?_) (fun c15 => ?_)
  · replace h := if_t c15 h
    exact gw.less (lv' := [some (va_rf (some o)), none, none]) (And.intro rfl trivial) (hkx83 _ _ _ _ S d h hc hs)
  · replace h := if_f c15 h
    refine g_aload_n (i := 0) hE d_Uw_write_67 rfl rfl ?_
    refine g_aload_n (i := 1) hE d_Uw_write_68 rfl rfl ?_
    refine g_getRN 4 hE kc_Si k2 (Nat.le_of_ble_eq_true rfl) rfl nf_41 d_Uw_write_69 (fun x6 e => ?_)
    replace h := lt_i e h; clear e
    refine g_iload_n (i := 2) hE d_Uw_write_72 rfl rfl ?_
    obtain ⟨a7, rfl, h⟩ := nn_s h
    obtain ⟨k8, h⟩ := kd_s h
    obtain ⟨g9, h⟩ := gi_s h
    refine g_aald hE k8 (by decide) rfl (fun _ => rfl) g9 d_Uw_write_73 (fun x10 e => ?_)
    replace h := lt_i e h; clear e
    obtain ⟨k11, h⟩ := kd_s h
    obtain ⟨x12, d14, e13, h⟩ := bdD_s h
    refine g_callV (av := [.inr (.inr (some o)), .inr (.inr x10)]) (as := [.inr (.inr x10)]) (stk := []) [] hE (c_Uw_putMethod (xl X) (xG X) e13) ky_Uw_putMethod ⟨Nat.le_of_ble_eq_true rfl, Nat.le_of_ble_eq_true rfl⟩ rfl kc_Uw k11 m_316 m_317 m_318 rfl d_Uw_write_74 rfl rfl ct_0 (cnt_room0 hmc hc) (cnt_room0 hms hs) ?_
    refine gw.cs (c2 := cells) (s2 := slots) rfl rfl ?_
    refine g_iinc (i := 2) (lv' := [some (va_rf (some o)), some (va_rf (some a1)), some (.int (v2 + 1))]) hE d_Uw_write_77 ki_1 rfl (Nat.le_of_ble_eq_true rfl) ⟨rfl, Nat.le_of_ble_eq_true rfl⟩ (lvp_r rfl) ?_
    refine g_goto hE d_Uw_write_80 ?_
    exact gw.less (lv' := [some (va_rf (some o)), some (va_rf (some a1)), some (.int (v2 + 1))]) (And.intro rfl (And.intro rfl (And.intro rfl trivial))) (hkb _ _ _ _ S d14 (some a1) (v2 + 1) h hc hs)
theorem w_Uw_write_L58 {X : GX} (hE : gE X b_Uw_write 3 "StandInMill$UnitWriter" (some (.array (.byte))) "write" 6 132) {o : Nat} {r : Option Nat} {S' : gS} {d' : gD} {mc ms : Nat} (hmc : (xR X).cells = mc) (hms : (xR X).slots = ms) {kx83 : gS → gD → Option ((Option Nat × gS × gD) × Nat × Nat)} (hkx83 : ∀ (cells slots dc ds : Nat) (S : gS) (d : gD), kx83 S d = some ((r, S', d'), dc, ds) → cells + dc = mc → slots + ds = ms → gw X cells slots (gQ X (some (va_rf r)) S' d' mc ms) S d 83 [some (va_rf (some o)), none, none] []) : ∀ (n : Nat) (cells slots dc ds : Nat) (S : gS) (d : gD) (v1 : Option Nat) (v2 : Int32), itr (f_Uw_write_B58 o kx83) (fun _ _ _ _ => none) n S d v1 v2 = some ((r, S', d'), dc, ds) → cells + dc = mc → slots + ds = ms → gw X cells slots (gQ X (some (va_rf r)) S' d' mc ms) S d 58 [some (va_rf (some o)), some (va_rf v1), some (.int v2)] [] := by
  intro n
  induction n with
  | zero => intro cells slots dc ds S d v1 v2 h hc hs; cases h
  | succ n ih => exact w_Uw_write_B58 hE hmc hms ih hkx83
def f_Uw_write_J83 (o : Nat) (S : gS) (d : gD) : Option ((Option Nat × gS × gD) × Nat × Nat) :=
  kd S o 9 <|
  bdA (f_Uw_joined S d o) fun x2 S4 d5 =>
  some ((x2, S4, d5), 0, 0)
set_option maxRecDepth 100000 in
set_option maxHeartbeats 4000000 in
theorem w_Uw_write_J83 {X : GX} (hE : gE X b_Uw_write 3 "StandInMill$UnitWriter" (some (.array (.byte))) "write" 6 132) {o : Nat} {r : Option Nat} {S' : gS} {d' : gD} {mc ms : Nat} (hmc : (xR X).cells = mc) (hms : (xR X).slots = ms) :
    ∀ (cells slots dc ds : Nat) (S : gS) (d : gD), f_Uw_write_J83 o S d = some ((r, S', d'), dc, ds) → cells + dc = mc → slots + ds = ms → gw X cells slots (gQ X (some (va_rf r)) S' d' mc ms) S d 83 [some (va_rf (some o)), none, none] [] := by
  intro cells slots dc ds S d h hc hs
  unfold f_Uw_write_J83 at h
  refine g_aload_n (i := 0) hE d_Uw_write_83 rfl rfl ?_
  obtain ⟨k1, h⟩ := kd_s h
  obtain ⟨x2, S4, d5, n6, n7, dc0, ds0, e3, h, hc0, hs0⟩ := bdA_s h
  refine g_callV (av := [.inr (.inr (some o))]) (as := []) (stk := [va_rf x2]) [] hE (c_Uw_joined (xl X) (xG X) e3) ky_Uw_joined ⟨Nat.le_of_ble_eq_true rfl, Nat.le_of_ble_eq_true rfl⟩ rfl kc_Uw k1 m_319 m_320 m_321 rfl d_Uw_write_84 rfl rfl ct_0 (cnt_room hmc hc hc0) (cnt_room hms hs hs0) ?_
  refine gw.gen (fun c8 s9 ec es => ?_)
  replace hc := cnt_step hc hc0 ec; replace hs := cnt_step hs hs0 es; clear hc0 hs0 ec es
  cases h
  exact g_aret hE (Or.inr ⟨_, rfl⟩) d_Uw_write_87 hc hs
set_option maxRecDepth 100000 in
def f_Uw_write (S : gS) (d : gD) (o : Nat) (v1 : Option Nat) : Option ((Option Nat × gS × gD) × Nat × Nat) :=
  kd S o 9 <|
  lt_ (sP S o 0) fun x2 =>
  bdD (f_Ar_fillI S d x2 (-1)) fun _ d5 =>
  lt_ (wI d5 o 1 0) fun d6 =>
  lt_ (wI d6 o 3 0) fun d7 =>
  lt_ (wI d7 o 5 0) fun d8 =>
  nn v1 fun a9 =>
  kd S a9 6 <|
  lt_ (dI d8 a9 2) fun x11 =>
  bdD (f_Uw_put S d8 o x11) fun _ d14 =>
  lt_ (dI d14 a9 3) fun x15 =>
  bdD (f_Uw_put S d14 o x15) fun _ d18 =>
  lt_ (dI d18 a9 1) fun x19 =>
  bdD (f_Uw_putTypes S d18 o x19) fun _ d22 =>
  lt_ (sP S a9 4) fun x23 =>
  nn x23 fun a24 =>
  kd S a24 63 <|
  bdD (f_Uw_put S d22 o (Int32.ofNat (sN S a24))) fun _ d28 =>
  itr (f_Uw_write_B58 o (f_Uw_write_J83 o)) (fun _ _ _ _ => none) fu S d28 (some a9) 0
set_option maxRecDepth 100000 in
set_option maxHeartbeats 4000000 in
theorem c_Uw_write (l : Launch) (G : gG) {S : gS} {d : gD} {o : Nat} {v1 : Option Nat} {r : Option Nat} {d' : gD} {S' : gS} {dc ds : Nat} (h : f_Uw_write S d o v1 = some ((r, S', d'), dc, ds)) : GM l G y_Uw_write b_Uw_write 3 (some (.array (.byte))) 6 132 dc ds [.inr (.inr (some o)), .inr (.inr v1)] S d (some (va_rf r)) S' d' := by
  refine GM.of (by decide) (Nat.le_of_ble_eq_true rfl) ?_
  intro X hl0 hG0 hR0 hE0
  have hE : gE X b_Uw_write 3 "StandInMill$UnitWriter" (some (.array (.byte))) "write" 6 132 := hE0
  have hmc : (xR X).cells = dc := by rw [hR0]
  have hms : (xR X).slots = ds := by rw [hR0]
  obtain ⟨mc, emc⟩ : ∃ z, z = dc := ⟨_, rfl⟩
  obtain ⟨ms, ems⟩ : ∃ z, z = ds := ⟨_, rfl⟩
  rw [← emc] at hmc
  rw [← ems] at hms
  have hc : 0 + dc = mc := by omega
  have hs : 0 + ds = ms := by omega
  show gw X 0 0 (gQ X _ _ _ dc ds) _ _ _ _ _
  rw [← emc, ← ems]
  clear hR0 emc ems
  unfold f_Uw_write at h
  refine gw.less (lv' := [some (va_rf (some o)), some (va_rf v1), none]) (And.intro rfl (And.intro rfl trivial)) ?_
  refine g_aload_n (i := 0) hE d_Uw_write_0 rfl rfl ?_
  obtain ⟨k1, h⟩ := kd_s h
  refine g_getR 0 hE kc_Uw k1 (Nat.le_of_ble_eq_true rfl) rfl m_22 d_Uw_write_1 (fun x2 e => ?_)
  replace h := lt_i e h; clear e
  refine g_iconst hE d_Uw_write_4 ki_m1 ?_
  obtain ⟨x3, d5, e4, h⟩ := bdD_s h
  refine g_callS (av := [.inr (.inr x2), .inl (-1)]) (stk := []) [] hE (c_Ar_fillI (xl X) (xG X) e4) ky_Ar_fillI ⟨Nat.le_of_ble_eq_true rfl, Nat.le_of_ble_eq_true rfl⟩ m_314 m_315 rfl d_Uw_write_5 rfl rfl ct_0 (cnt_room0 hmc hc) (cnt_room0 hms hs) ?_
  refine gw.cs (c2 := 0) (s2 := 0) rfl rfl ?_
  refine g_aload_n (i := 0) hE d_Uw_write_8 rfl rfl ?_
  refine g_iconst hE d_Uw_write_9 ki_0 ?_
  refine g_putI 1 hE kc_Uw k1 (Nat.le_of_ble_eq_true rfl) rfl m_278 rfl (by decide +kernel) d_Uw_write_10 (fun d6 e => ?_)
  replace h := lt_i e h; clear e
  refine g_aload_n (i := 0) hE d_Uw_write_13 rfl rfl ?_
  refine g_iconst hE d_Uw_write_14 ki_0 ?_
  refine g_putI 3 hE kc_Uw k1 (Nat.le_of_ble_eq_true rfl) rfl m_274 rfl (by decide +kernel) d_Uw_write_15 (fun d7 e => ?_)
  replace h := lt_i e h; clear e
  refine g_aload_n (i := 0) hE d_Uw_write_18 rfl rfl ?_
  refine g_iconst hE d_Uw_write_19 ki_0 ?_
  refine g_putI 5 hE kc_Uw k1 (Nat.le_of_ble_eq_true rfl) rfl m_273 rfl (by decide +kernel) d_Uw_write_20 (fun d8 e => ?_)
  replace h := lt_i e h; clear e
  refine g_aload_n (i := 0) hE d_Uw_write_23 rfl rfl ?_
  refine g_aload_n (i := 1) hE d_Uw_write_24 rfl rfl ?_
  obtain ⟨a9, rfl, h⟩ := nn_s h
  obtain ⟨k10, h⟩ := kd_s h
  refine g_getIN 2 hE kc_Si k10 (Nat.le_of_ble_eq_true rfl) rfl nf_38 d_Uw_write_25 (fun x11 e => ?_)
  replace h := lt_i e h; clear e
  obtain ⟨x12, d14, e13, h⟩ := bdD_s h
  refine g_callV (av := [.inr (.inr (some o)), .inl x11]) (as := [.inl x11]) (stk := []) [] hE (c_Uw_put (xl X) (xG X) e13) ky_Uw_put ⟨Nat.le_of_ble_eq_true rfl, Nat.le_of_ble_eq_true rfl⟩ rfl kc_Uw k1 m_275 m_276 m_277 rfl d_Uw_write_28 rfl rfl ct_0 (cnt_room0 hmc hc) (cnt_room0 hms hs) ?_
  refine gw.cs (c2 := 0) (s2 := 0) rfl rfl ?_
  refine g_aload_n (i := 0) hE d_Uw_write_31 rfl rfl ?_
  refine g_aload_n (i := 1) hE d_Uw_write_32 rfl rfl ?_
  refine g_getIN 3 hE kc_Si k10 (Nat.le_of_ble_eq_true rfl) rfl nf_39 d_Uw_write_33 (fun x15 e => ?_)
  replace h := lt_i e h; clear e
  obtain ⟨x16, d18, e17, h⟩ := bdD_s h
  refine g_callV (av := [.inr (.inr (some o)), .inl x15]) (as := [.inl x15]) (stk := []) [] hE (c_Uw_put (xl X) (xG X) e17) ky_Uw_put ⟨Nat.le_of_ble_eq_true rfl, Nat.le_of_ble_eq_true rfl⟩ rfl kc_Uw k1 m_275 m_276 m_277 rfl d_Uw_write_36 rfl rfl ct_0 (cnt_room0 hmc hc) (cnt_room0 hms hs) ?_
  refine gw.cs (c2 := 0) (s2 := 0) rfl rfl ?_
  refine g_aload_n (i := 0) hE d_Uw_write_39 rfl rfl ?_
  refine g_aload_n (i := 1) hE d_Uw_write_40 rfl rfl ?_
  refine g_getIN 1 hE kc_Si k10 (Nat.le_of_ble_eq_true rfl) rfl nf_40 d_Uw_write_41 (fun x19 e => ?_)
  replace h := lt_i e h; clear e
  obtain ⟨x20, d22, e21, h⟩ := bdD_s h
  refine g_callV (av := [.inr (.inr (some o)), .inl x19]) (as := [.inl x19]) (stk := []) [] hE (c_Uw_putTypes (xl X) (xG X) e21) ky_Uw_putTypes ⟨Nat.le_of_ble_eq_true rfl, Nat.le_of_ble_eq_true rfl⟩ rfl kc_Uw k1 m_301 m_302 m_303 rfl d_Uw_write_44 rfl rfl ct_0 (cnt_room0 hmc hc) (cnt_room0 hms hs) ?_
  refine gw.cs (c2 := 0) (s2 := 0) rfl rfl ?_
  refine g_aload_n (i := 0) hE d_Uw_write_47 rfl rfl ?_
  refine g_aload_n (i := 1) hE d_Uw_write_48 rfl rfl ?_
  refine g_getRN 4 hE kc_Si k10 (Nat.le_of_ble_eq_true rfl) rfl nf_41 d_Uw_write_49 (fun x23 e => ?_)
  replace h := lt_i e h; clear e
  obtain ⟨a24, rfl, h⟩ := nn_s h
  obtain ⟨k25, h⟩ := kd_s h
  refine g_alen hE k25 (by decide) d_Uw_write_52 ?_
  obtain ⟨x26, d28, e27, h⟩ := bdD_s h
  refine g_callV (av := [.inr (.inr (some o)), .inl (Int32.ofNat (sN S a24))]) (as := [.inl (Int32.ofNat (sN S a24))]) (stk := []) [] hE (c_Uw_put (xl X) (xG X) e27) ky_Uw_put ⟨Nat.le_of_ble_eq_true rfl, Nat.le_of_ble_eq_true rfl⟩ rfl kc_Uw k1 m_275 m_276 m_277 rfl d_Uw_write_53 rfl rfl ct_0 (cnt_room0 hmc hc) (cnt_room0 hms hs) ?_
  refine gw.cs (c2 := 0) (s2 := 0) rfl rfl ?_
  refine g_iconst hE d_Uw_write_56 ki_0 ?_
  refine g_istore_n (i := 2) (lv' := [some (va_rf (some o)), some (va_rf (some a9)), some (.int 0)]) hE d_Uw_write_57 rfl (Nat.le_of_ble_eq_true rfl) ⟨rfl, Nat.le_of_ble_eq_true rfl⟩ (lvp_r rfl) ?_
  exact gw.less (lv' := [some (va_rf (some o)), some (va_rf (some a9)), some (.int 0)]) (And.intro rfl (And.intro rfl (And.intro rfl trivial))) (w_Uw_write_L58 hE hmc hms (w_Uw_write_J83 hE hmc hms) fu _ _ _ _ S d28 (some a9) 0 h hc hs)
