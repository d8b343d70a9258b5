theorem d_M_isInTwoPackages_0 : dc b_M_isInTwoPackages 0 (.aload_n 0) 1 1 := ⟨by decide +kernel, rfl⟩
theorem d_M_isInTwoPackages_1 : dc b_M_isInTwoPackages 1 (.iload_n 1) 1 2 := ⟨by decide +kernel, rfl⟩
theorem d_M_isInTwoPackages_2 : dc b_M_isInTwoPackages 2 (.invokevirtual 333) 3 5 := ⟨by decide +kernel, rfl⟩
theorem d_M_isInTwoPackages_5 : dc b_M_isInTwoPackages 5 (.istore_n 2) 1 6 := ⟨by decide +kernel, rfl⟩
theorem d_M_isInTwoPackages_6 : dc b_M_isInTwoPackages 6 (.iconst 0) 1 7 := ⟨by decide +kernel, rfl⟩
theorem d_M_isInTwoPackages_7 : dc b_M_isInTwoPackages 7 (.istore_n 3) 1 8 := ⟨by decide +kernel, rfl⟩
theorem d_M_isInTwoPackages_8 : dc b_M_isInTwoPackages 8 (.iload_n 3) 1 9 := ⟨by decide +kernel, rfl⟩
theorem d_M_isInTwoPackages_9 : dc b_M_isInTwoPackages 9 (.iload_n 1) 1 10 := ⟨by decide +kernel, rfl⟩
theorem d_M_isInTwoPackages_10 : dc b_M_isInTwoPackages 10 (.invokestatic 308) 3 13 := ⟨by decide +kernel, rfl⟩
theorem d_M_isInTwoPackages_13 : db b_M_isInTwoPackages 13 (.if_icmp .ge 43) 43 56 16 := ⟨by decide +kernel, by decide, rfl⟩
theorem d_M_isInTwoPackages_16 : dc b_M_isInTwoPackages 16 (.aload_n 0) 1 17 := ⟨by decide +kernel, rfl⟩
theorem d_M_isInTwoPackages_17 : dc b_M_isInTwoPackages 17 (.getfield 22) 3 20 := ⟨by decide +kernel, rfl⟩
theorem d_M_isInTwoPackages_20 : dc b_M_isInTwoPackages 20 (.iload_n 1) 1 21 := ⟨by decide +kernel, rfl⟩
theorem d_M_isInTwoPackages_21 : dc b_M_isInTwoPackages 21 (.iload_n 3) 1 22 := ⟨by decide +kernel, rfl⟩
theorem d_M_isInTwoPackages_22 : dc b_M_isInTwoPackages 22 (.invokestatic 274) 3 25 := ⟨by decide +kernel, rfl⟩
theorem d_M_isInTwoPackages_25 : dc b_M_isInTwoPackages 25 (.bipush 24) 2 27 := ⟨by decide +kernel, rfl⟩
theorem d_M_isInTwoPackages_27 : dc b_M_isInTwoPackages 27 (.isub) 1 28 := ⟨by decide +kernel, rfl⟩
theorem d_M_isInTwoPackages_28 : dc b_M_isInTwoPackages 28 (.aaload) 1 29 := ⟨by decide +kernel, rfl⟩
theorem d_M_isInTwoPackages_29 : dc b_M_isInTwoPackages 29 (.astore 4) 2 31 := ⟨by decide +kernel, rfl⟩
theorem d_M_isInTwoPackages_31 : dc b_M_isInTwoPackages 31 (.aload 4) 2 33 := ⟨by decide +kernel, rfl⟩
theorem d_M_isInTwoPackages_33 : dc b_M_isInTwoPackages 33 (.getfield 336) 3 36 := ⟨by decide +kernel, rfl⟩
theorem d_M_isInTwoPackages_36 : db b_M_isInTwoPackages 36 (.ifCond .ne 14) 14 50 39 := ⟨by decide +kernel, by decide, rfl⟩
theorem d_M_isInTwoPackages_39 : dc b_M_isInTwoPackages 39 (.aload 4) 2 41 := ⟨by decide +kernel, rfl⟩
theorem d_M_isInTwoPackages_41 : dc b_M_isInTwoPackages 41 (.getfield 315) 3 44 := ⟨by decide +kernel, rfl⟩
theorem d_M_isInTwoPackages_44 : dc b_M_isInTwoPackages 44 (.iload_n 2) 1 45 := ⟨by decide +kernel, rfl⟩
theorem d_M_isInTwoPackages_45 : db b_M_isInTwoPackages 45 (.if_icmp .eq 5) 5 50 48 := ⟨by decide +kernel, by decide, rfl⟩
theorem d_M_isInTwoPackages_48 : dc b_M_isInTwoPackages 48 (.iconst 1) 1 49 := ⟨by decide +kernel, rfl⟩
theorem d_M_isInTwoPackages_49 : dc b_M_isInTwoPackages 49 (.ireturn) 1 50 := ⟨by decide +kernel, rfl⟩
theorem d_M_isInTwoPackages_50 : dc b_M_isInTwoPackages 50 (.iinc 3 1) 3 53 := ⟨by decide +kernel, rfl⟩
theorem d_M_isInTwoPackages_53 : db b_M_isInTwoPackages 53 (.goto (-45)) (-45) 8 56 := ⟨by decide +kernel, by decide, rfl⟩
theorem d_M_isInTwoPackages_56 : dc b_M_isInTwoPackages 56 (.iconst 0) 1 57 := ⟨by decide +kernel, rfl⟩
theorem d_M_isInTwoPackages_57 : dc b_M_isInTwoPackages 57 (.ireturn) 1 58 := ⟨by decide +kernel, rfl⟩
def f_M_isInTwoPackages_J50 (S : gS) (d : gD) (o : Nat) (kb : Int32 → Int32 → Int32 → Option (Int32)) (v1 : Int32) (v2 : Int32) (v3 : Int32) : Option (Int32) :=
  kb v1 v2 (v3 + 1)
set_option maxRecDepth 100000 in
set_option maxHeartbeats 4000000 in
theorem w_M_isInTwoPackages_J50 {X : GX} (hE : gE X b_M_isInTwoPackages 5 "StandInMill" (some (.boolean)) "isInTwoPackages" 3 65) {S : gS} {d : gD} {o : Nat} {r : Int32} {kb : Int32 → Int32 → Int32 → Option (Int32)} (hkb : ∀ (v1 : Int32) (v2 : Int32) (v3 : Int32), kb v1 v2 v3 = some r → gw X 0 0 (gQ X (some (.int r)) S d 0 0) S d 8 [some (va_rf (some o)), some (.int v1), some (.int v2), some (.int v3), none] []) :
    ∀ (v1 : Int32) (v2 : Int32) (v3 : Int32), f_M_isInTwoPackages_J50 S d o kb v1 v2 v3 = some r → gw X 0 0 (gQ X (some (.int r)) S d 0 0) S d 50 [some (va_rf (some o)), some (.int v1), some (.int v2), some (.int v3), none] [] := by
  intro v1 v2 v3 h
  unfold f_M_isInTwoPackages_J50 at h
  refine g_iinc (i := 3) (lv' := [some (va_rf (some o)), some (.int v1), some (.int v2), some (.int (v3 + 1)), none]) hE d_M_isInTwoPackages_50 ki_1 rfl (Nat.le_of_ble_eq_true rfl) ⟨rfl, Nat.le_of_ble_eq_true rfl⟩ (lvp_i rfl) ?_
  refine g_goto hE d_M_isInTwoPackages_53 ?_
  exact gw.less (lv' := [some (va_rf (some o)), some (.int v1), some (.int v2), some (.int (v3 + 1)), none]) (And.intro rfl (And.intro rfl (And.intro rfl (And.intro rfl trivial)))) (hkb v1 v2 (v3 + 1) h)
def f_M_isInTwoPackages_B8 (S : gS) (d : gD) (o : Nat) (kb : Int32 → Int32 → Int32 → Option (Int32)) (v1 : Int32) (v2 : Int32) (v3 : Int32) : Option (Int32) :=
  bd (f_M_lengthOf S d v1) fun x1 =>
  if x1 ≤ v3 then (
    some 0)
  else (
    kd S o 1 <|
    lt_ (sP S o 3) fun x4 =>
    bd (f_M_byteOf S d v1 v3) fun x5 =>
    nn x4 fun a7 =>
    kd S a7 60 <|
    gi (x5 - 24) (sN S a7) <|
    lt_ (sP S a7 (x5 - 24 : Int32).toNatClampNeg) fun x10 =>
    nn x10 fun a11 =>
    kd S a11 4 <|
    lt_ (dI d a11 3) fun x13 =>
    if x13 = 0 then (
      lt_ (dI d a11 2) fun x14 =>
      if x14 = v2 then (
        f_M_isInTwoPackages_J50 S d o kb v1 v2 v3)
      else (
        some 1))
    else (
      f_M_isInTwoPackages_J50 S d o kb v1 v2 v3))
set_option maxRecDepth 100000 in
set_option maxHeartbeats 4000000 in
theorem w_M_isInTwoPackages_B8 {X : GX} (hE : gE X b_M_isInTwoPackages 5 "StandInMill" (some (.boolean)) "isInTwoPackages" 3 65) {S : gS} {d : gD} {o : Nat} {r : Int32} {kb : Int32 → Int32 → Int32 → Option (Int32)} (hkb : ∀ (v1 : Int32) (v2 : Int32) (v3 : Int32), kb v1 v2 v3 = some r → gw X 0 0 (gQ X (some (.int r)) S d 0 0) S d 8 [some (va_rf (some o)), some (.int v1), some (.int v2), some (.int v3), none] []) :
    ∀ (v1 : Int32) (v2 : Int32) (v3 : Int32), f_M_isInTwoPackages_B8 S d o kb v1 v2 v3 = some r → gw X 0 0 (gQ X (some (.int r)) S d 0 0) S d 8 [some (va_rf (some o)), some (.int v1), some (.int v2), some (.int v3), none] [] := by
  intro v1 v2 v3 h
  unfold f_M_isInTwoPackages_B8 at h
  refine g_iload_n (i := 3) hE d_M_isInTwoPackages_8 rfl rfl ?_
  refine g_iload_n (i := 1) hE d_M_isInTwoPackages_9 rfl rfl ?_
  obtain ⟨x1, e2, h⟩ := bd_s h
  refine g_callS (av := [.inl v1]) (stk := [.int x1, .int v3]) [.int v3] hE (c_M_lengthOf (xl X) (xG X) e2) ky_M_lengthOf ⟨Nat.le_of_ble_eq_true rfl, Nat.le_of_ble_eq_true rfl⟩ m_134 m_135 rfl d_M_isInTwoPackages_10 rfl rfl (Nat.le_trans (ct_i ct_n) (Nat.le_of_ble_eq_true rfl)) (Nat.zero_le _) (Nat.zero_le _) ?_
  refine gw.cs (c2 := 0) (s2 := 0) rfl rfl ?_
  refine g_icmp_ge hE d_M_isInTwoPackages_13 (fun c17 => ?_) (fun c17 => ?_)
  · replace h := if_t c17 h
    refine g_iconst hE d_M_isInTwoPackages_56 ki_0 ?_
    cases h
    exact g_zret hE (Or.inl rfl) d_M_isInTwoPackages_57 rfl rfl
  · replace h := if_f c17 h
    refine g_aload_n (i := 0) hE d_M_isInTwoPackages_16 rfl rfl ?_
    obtain ⟨k3, h⟩ := kd_s h
    refine g_getR 3 hE kc_M k3 (Nat.le_of_ble_eq_true rfl) rfl m_44 d_M_isInTwoPackages_17 (fun x4 e => ?_)
    replace h := lt_i e h; clear e
    refine g_iload_n (i := 1) hE d_M_isInTwoPackages_20 rfl rfl ?_
    refine g_iload_n (i := 3) hE d_M_isInTwoPackages_21 rfl rfl ?_
    obtain ⟨x5, e6, h⟩ := bd_s h
    refine g_callS (av := [.inl v1, .inl v3]) (stk := [.int x5, va_rf x4]) [va_rf x4] hE (c_M_byteOf (xl X) (xG X) e6) ky_M_byteOf ⟨Nat.le_of_ble_eq_true rfl, Nat.le_of_ble_eq_true rfl⟩ m_128 m_129 rfl d_M_isInTwoPackages_22 rfl rfl (Nat.le_trans (ct_r ct_n) (Nat.le_of_ble_eq_true rfl)) (Nat.zero_le _) (Nat.zero_le _) ?_
    refine gw.cs (c2 := 0) (s2 := 0) rfl rfl ?_
    refine g_bipush hE d_M_isInTwoPackages_25 kb_24 ?_
    refine g_isub hE d_M_isInTwoPackages_27 ?_
    obtain ⟨a7, rfl, h⟩ := nn_s h
    obtain ⟨k8, h⟩ := kd_s h
    obtain ⟨g9, h⟩ := gi_s h
    refine g_aald hE k8 (by decide) rfl (fun _ => rfl) g9 d_M_isInTwoPackages_28 (fun x10 e => ?_)
    replace h := lt_i e h; clear e
    refine g_astore (i := 4) (lv' := [some (va_rf (some o)), some (.int v1), some (.int v2), some (.int v3), some (va_rf x10)]) hE d_M_isInTwoPackages_29 (Nat.le_of_ble_eq_true rfl) ⟨rfl, Nat.le_of_ble_eq_true rfl⟩ (lvp_i rfl) ?_
    refine g_aload (i := 4) hE d_M_isInTwoPackages_31 rfl ?_
    obtain ⟨a11, rfl, h⟩ := nn_s h
    obtain ⟨k12, h⟩ := kd_s h
    refine g_getIN 3 hE kc_Fc k12 (Nat.le_of_ble_eq_true rfl) rfl nf_12 d_M_isInTwoPackages_33 (fun x13 e => ?_)
    replace h := lt_i e h; clear e
    refine g_if_ne hE d_M_isInTwoPackages_36 (fun c16 => ?_) (fun c16 => ?_)
    · replace h := if_f c16 h
      exact gw.less (lv' := [some (va_rf (some o)), some (.int v1), some (.int v2), some (.int v3), none]) (And.intro rfl (And.intro rfl (And.intro rfl (And.intro rfl trivial)))) (w_M_isInTwoPackages_J50 hE hkb v1 v2 v3 h)
    · replace h := if_t c16 h
      refine g_aload (i := 4) hE d_M_isInTwoPackages_39 rfl ?_
      refine g_getIN 2 hE kc_Fc k12 (Nat.le_of_ble_eq_true rfl) rfl nf_2 d_M_isInTwoPackages_41 (fun x14 e => ?_)
      replace h := lt_i e h; clear e
      refine g_iload_n (i := 2) hE d_M_isInTwoPackages_44 rfl rfl ?_
      refine g_icmp_eq hE d_M_isInTwoPackages_45 (fun c15 => ?_) (fun c15 => ?_)
      · replace h := if_t c15 h
        exact gw.less (lv' := [some (va_rf (some o)), some (.int v1), some (.int v2), some (.int v3), none]) (And.intro rfl (And.intro rfl (And.intro rfl (And.intro rfl trivial)))) (w_M_isInTwoPackages_J50 hE hkb v1 v2 v3 h)
      · replace h := if_f c15 h
        refine g_iconst hE d_M_isInTwoPackages_48 ki_1 ?_
        cases h
        exact g_zret hE (Or.inr rfl) d_M_isInTwoPackages_49 rfl rfl
theorem w_M_isInTwoPackages_L8 {X : GX} (hE : gE X b_M_isInTwoPackages 5 "StandInMill" (some (.boolean)) "isInTwoPackages" 3 65) {S : gS} {d : gD} {o : Nat} {r : Int32} : ∀ (n : Nat) (v1 : Int32) (v2 : Int32) (v3 : Int32), itr (f_M_isInTwoPackages_B8 S d o) (fun _ _ _ => none) n v1 v2 v3 = some r → gw X 0 0 (gQ X (some (.int r)) S d 0 0) S d 8 [some (va_rf (some o)), some (.int v1), some (.int v2), some (.int v3), none] [] := by
  intro n
  induction n with
  | zero => intro v1 v2 v3 h; cases h
  | succ n ih => exact w_M_isInTwoPackages_B8 hE ih
set_option maxRecDepth 100000 in
def f_M_isInTwoPackages (S : gS) (d : gD) (o : Nat) (v1 : Int32) : Option (Int32) :=
  kd S o 1 <|
  bd (f_M_packageOf S d o v1) fun x2 =>
  itr (f_M_isInTwoPackages_B8 S d o) (fun _ _ _ => none) fu v1 x2 0
set_option maxRecDepth 100000 in
set_option maxHeartbeats 4000000 in
theorem c_M_isInTwoPackages (l : Launch) (G : gG) {S : gS} {d : gD} {o : Nat} {v1 : Int32} {r : Int32} (h : f_M_isInTwoPackages S d o v1 = some r) : GM l G y_M_isInTwoPackages b_M_isInTwoPackages 5 (some (.boolean)) 3 65 0 0 [.inr (.inr (some o)), .inl v1] S d (some (.int r)) S d := by
  refine GM.of (by decide) (Nat.le_of_ble_eq_true rfl) ?_
  intro X hl0 hG0 hR0 hE0
  have hE : gE X b_M_isInTwoPackages 5 "StandInMill" (some (.boolean)) "isInTwoPackages" 3 65 := hE0
  unfold f_M_isInTwoPackages at h
  refine gw.less (lv' := [some (va_rf (some o)), some (.int v1), none, none, none]) (And.intro rfl (And.intro rfl trivial)) ?_
  refine g_aload_n (i := 0) hE d_M_isInTwoPackages_0 rfl rfl ?_
  refine g_iload_n (i := 1) hE d_M_isInTwoPackages_1 rfl rfl ?_
  obtain ⟨k1, h⟩ := kd_s h
  obtain ⟨x2, e3, h⟩ := bd_s h
  refine g_callV (av := [.inr (.inr (some o)), .inl v1]) (as := [.inl v1]) (stk := [.int x2]) [] hE (c_M_packageOf (xl X) (xG X) e3) ky_M_packageOf ⟨Nat.le_of_ble_eq_true rfl, Nat.le_of_ble_eq_true rfl⟩ rfl kc_M k1 m_166 m_167 m_168 rfl d_M_isInTwoPackages_2 rfl rfl ct_0 (Nat.zero_le _) (Nat.zero_le _) ?_
  refine gw.cs (c2 := 0) (s2 := 0) rfl rfl ?_
  refine g_istore_n (i := 2) (lv' := [some (va_rf (some o)), some (.int v1), some (.int x2), none, none]) hE d_M_isInTwoPackages_5 rfl (Nat.le_of_ble_eq_true rfl) ⟨rfl, Nat.le_of_ble_eq_true rfl⟩ (lvp_i rfl) ?_
  refine g_iconst hE d_M_isInTwoPackages_6 ki_0 ?_
  refine g_istore_n (i := 3) (lv' := [some (va_rf (some o)), some (.int v1), some (.int x2), some (.int 0), none]) hE d_M_isInTwoPackages_7 rfl (Nat.le_of_ble_eq_true rfl) ⟨rfl, Nat.le_of_ble_eq_true rfl⟩ (lvp_i rfl) ?_
  exact gw.less (lv' := [some (va_rf (some o)), some (.int v1), some (.int x2), some (.int 0), none]) (And.intro rfl (And.intro rfl (And.intro rfl (And.intro rfl trivial)))) (w_M_isInTwoPackages_L8 hE fu v1 x2 0 h)
theorem d_M_faultOfList_0 : dc b_M_faultOfList 0 (.aload_n 0) 1 1 := ⟨by decide +kernel, rfl⟩
theorem d_M_faultOfList_1 : dc b_M_faultOfList 1 (.iload_n 2) 1 2 := ⟨by decide +kernel, rfl⟩
theorem d_M_faultOfList_2 : dc b_M_faultOfList 2 (.iload_n 1) 1 3 := ⟨by decide +kernel, rfl⟩
theorem d_M_faultOfList_3 : dc b_M_faultOfList 3 (.invokevirtual 319) 3 6 := ⟨by decide +kernel, rfl⟩
theorem d_M_faultOfList_6 : db b_M_faultOfList 6 (.ifCond .ne 5) 5 11 9 := ⟨by decide +kernel, by decide, rfl⟩
theorem d_M_faultOfList_9 : dc b_M_faultOfList 9 (.iconst 1) 1 10 := ⟨by decide +kernel, rfl⟩
theorem d_M_faultOfList_10 : dc b_M_faultOfList 10 (.ireturn) 1 11 := ⟨by decide +kernel, rfl⟩
theorem d_M_faultOfList_11 : dc b_M_faultOfList 11 (.iload_n 2) 1 12 := ⟨by decide +kernel, rfl⟩
theorem d_M_faultOfList_12 : dc b_M_faultOfList 12 (.invokestatic 322) 3 15 := ⟨by decide +kernel, rfl⟩
theorem d_M_faultOfList_15 : db b_M_faultOfList 15 (.ifCond .eq 5) 5 20 18 := ⟨by decide +kernel, by decide, rfl⟩
theorem d_M_faultOfList_18 : dc b_M_faultOfList 18 (.iconst 2) 1 19 := ⟨by decide +kernel, rfl⟩
theorem d_M_faultOfList_19 : dc b_M_faultOfList 19 (.ireturn) 1 20 := ⟨by decide +kernel, rfl⟩
theorem d_M_faultOfList_20 : dc b_M_faultOfList 20 (.aload_n 0) 1 21 := ⟨by decide +kernel, rfl⟩
theorem d_M_faultOfList_21 : dc b_M_faultOfList 21 (.iload_n 2) 1 22 := ⟨by decide +kernel, rfl⟩
theorem d_M_faultOfList_22 : dc b_M_faultOfList 22 (.invokevirtual 325) 3 25 := ⟨by decide +kernel, rfl⟩
theorem d_M_faultOfList_25 : db b_M_faultOfList 25 (.ifCond .eq 7) 7 32 28 := ⟨by decide +kernel, by decide, rfl⟩
theorem d_M_faultOfList_28 : dc b_M_faultOfList 28 (.iconst 3) 1 29 := ⟨by decide +kernel, rfl⟩
theorem d_M_faultOfList_29 : db b_M_faultOfList 29 (.goto 4) 4 33 32 := ⟨by decide +kernel, by decide, rfl⟩
theorem d_M_faultOfList_32 : dc b_M_faultOfList 32 (.iconst 0) 1 33 := ⟨by decide +kernel, rfl⟩
theorem d_M_faultOfList_33 : dc b_M_faultOfList 33 (.ireturn) 1 34 := ⟨by decide +kernel, rfl⟩
set_option maxRecDepth 100000 in
def f_M_faultOfList (S : gS) (d : gD) (o : Nat) (v1 : Int32) (v2 : Int32) : Option (Int32) :=
  kd S o 1 <|
  bd (f_M_areVisible S d o v2 v1) fun x2 =>
  if x2 = 0 then (
    some 1)
  else (
    bd (f_M_hasTwice S d v2) fun x4 =>
    if x4 = 0 then (
      bd (f_M_isInTwoPackages S d o v2) fun x6 =>
      if x6 = 0 then (
        some 0)
      else (
        some 3))
    else (
      some 2))
set_option maxRecDepth 100000 in
set_option maxHeartbeats 4000000 in
theorem c_M_faultOfList (l : Launch) (G : gG) {S : gS} {d : gD} {o : Nat} {v1 : Int32} {v2 : Int32} {r : Int32} (h : f_M_faultOfList S d o v1 v2 = some r) : GM l G y_M_faultOfList b_M_faultOfList 3 (some (.int)) 4 97 0 0 [.inr (.inr (some o)), .inl v1, .inl v2] S d (some (.int r)) S d := by
  refine GM.of (by decide) (Nat.le_of_ble_eq_true rfl) ?_
  intro X hl0 hG0 hR0 hE0
  have hE : gE X b_M_faultOfList 3 "StandInMill" (some (.int)) "faultOfList" 4 97 := hE0
  unfold f_M_faultOfList at h
  refine gw.less (lv' := [some (va_rf (some o)), some (.int v1), some (.int v2)]) (And.intro rfl (And.intro rfl (And.intro rfl trivial))) ?_
  refine g_aload_n (i := 0) hE d_M_faultOfList_0 rfl rfl ?_
  refine g_iload_n (i := 2) hE d_M_faultOfList_1 rfl rfl ?_
  refine g_iload_n (i := 1) hE d_M_faultOfList_2 rfl rfl ?_
  obtain ⟨k1, h⟩ := kd_s h
  obtain ⟨x2, e3, h⟩ := bd_s h
  refine g_callV (av := [.inr (.inr (some o)), .inl v2, .inl v1]) (as := [.inl v2, .inl v1]) (stk := [.int x2]) [] hE (c_M_areVisible (xl X) (xG X) e3) ky_M_areVisible ⟨Nat.le_of_ble_eq_true rfl, Nat.le_of_ble_eq_true rfl⟩ rfl kc_M k1 m_169 m_170 m_171 rfl d_M_faultOfList_3 rfl rfl ct_0 (Nat.zero_le _) (Nat.zero_le _) ?_
  refine gw.cs (c2 := 0) (s2 := 0) rfl rfl ?_
  refine g_if_ne hE d_M_faultOfList_6 (fun c10 => ?_) (fun c10 => ?_)
  · replace h := if_f c10 h
    refine g_iload_n (i := 2) hE d_M_faultOfList_11 rfl rfl ?_
    obtain ⟨x4, e5, h⟩ := bd_s h
    refine g_callS (av := [.inl v2]) (stk := [.int x4]) [] hE (c_M_hasTwice (xl X) (xG X) e5) ky_M_hasTwice ⟨Nat.le_of_ble_eq_true rfl, Nat.le_of_ble_eq_true rfl⟩ m_172 m_173 rfl d_M_faultOfList_12 rfl rfl ct_0 (Nat.zero_le _) (Nat.zero_le _) ?_
    refine gw.cs (c2 := 0) (s2 := 0) rfl rfl ?_
    refine g_if_eq hE d_M_faultOfList_15 (fun c9 => ?_) (fun c9 => ?_)
    · replace h := if_t c9 h
      refine g_aload_n (i := 0) hE d_M_faultOfList_20 rfl rfl ?_
      refine g_iload_n (i := 2) hE d_M_faultOfList_21 rfl rfl ?_
      obtain ⟨x6, e7, h⟩ := bd_s h
      refine g_callV (av := [.inr (.inr (some o)), .inl v2]) (as := [.inl v2]) (stk := [.int x6]) [] hE (c_M_isInTwoPackages (xl X) (xG X) e7) ky_M_isInTwoPackages ⟨Nat.le_of_ble_eq_true rfl, Nat.le_of_ble_eq_true rfl⟩ rfl kc_M k1 m_174 m_175 m_176 rfl d_M_faultOfList_22 rfl rfl ct_0 (Nat.zero_le _) (Nat.zero_le _) ?_
      refine gw.cs (c2 := 0) (s2 := 0) rfl rfl ?_
      refine g_if_eq hE d_M_faultOfList_25 (fun c8 => ?_) (fun c8 => ?_)
      · replace h := if_t c8 h
        refine g_iconst hE d_M_faultOfList_32 ki_0 ?_
        cases h
        exact g_iret hE d_M_faultOfList_33 rfl rfl
      · replace h := if_f c8 h
        refine g_iconst hE d_M_faultOfList_28 ki_3 ?_
        refine g_goto hE d_M_faultOfList_29 ?_
        cases h
        exact g_iret hE d_M_faultOfList_33 rfl rfl
    · replace h := if_f c9 h
      refine g_iconst hE d_M_faultOfList_18 ki_2 ?_
      cases h
      exact g_iret hE d_M_faultOfList_19 rfl rfl
  · replace h := if_t c10 h
    refine g_iconst hE d_M_faultOfList_9 ki_1 ?_
    cases h
    exact g_iret hE d_M_faultOfList_10 rfl rfl
theorem d_Fc_gather_0 : dc b_Fc_gather 0 (.iconst 0) 1 1 := ⟨by decide +kernel, rfl⟩
theorem d_Fc_gather_1 : dc b_Fc_gather 1 (.istore_n 2) 1 2 := ⟨by decide +kernel, rfl⟩
theorem d_Fc_gather_2 : dc b_Fc_gather 2 (.iload_n 2) 1 3 := ⟨by decide +kernel, rfl⟩
theorem d_Fc_gather_3 : dc b_Fc_gather 3 (.aload_n 0) 1 4 := ⟨by decide +kernel, rfl⟩
theorem d_Fc_gather_4 : dc b_Fc_gather 4 (.getfield 48) 3 7 := ⟨by decide +kernel, rfl⟩
theorem d_Fc_gather_7 : db b_Fc_gather 7 (.if_icmp .ge 42) 42 49 10 := ⟨by decide +kernel, by decide, rfl⟩
theorem d_Fc_gather_10 : dc b_Fc_gather 10 (.aload_n 0) 1 11 := ⟨by decide +kernel, rfl⟩
theorem d_Fc_gather_11 : dc b_Fc_gather 11 (.getfield 21) 3 14 := ⟨by decide +kernel, rfl⟩
theorem d_Fc_gather_14 : dc b_Fc_gather 14 (.iload_n 2) 1 15 := ⟨by decide +kernel, rfl⟩
theorem d_Fc_gather_15 : dc b_Fc_gather 15 (.aaload) 1 16 := ⟨by decide +kernel, rfl⟩
theorem d_Fc_gather_16 : dc b_Fc_gather 16 (.getfield 59) 3 19 := ⟨by decide +kernel, rfl⟩
theorem d_Fc_gather_19 : dc b_Fc_gather 19 (.aload_n 1) 1 20 := ⟨by decide +kernel, rfl⟩
theorem d_Fc_gather_20 : dc b_Fc_gather 20 (.getfield 59) 3 23 := ⟨by decide +kernel, rfl⟩
theorem d_Fc_gather_23 : db b_Fc_gather 23 (.if_icmp .ne 20) 20 43 26 := ⟨by decide +kernel, by decide, rfl⟩
theorem d_Fc_gather_26 : dc b_Fc_gather 26 (.aload_n 0) 1 27 := ⟨by decide +kernel, rfl⟩
theorem d_Fc_gather_27 : dc b_Fc_gather 27 (.getfield 21) 3 30 := ⟨by decide +kernel, rfl⟩
theorem d_Fc_gather_30 : dc b_Fc_gather 30 (.iload_n 2) 1 31 := ⟨by decide +kernel, rfl⟩
theorem d_Fc_gather_31 : dc b_Fc_gather 31 (.aaload) 1 32 := ⟨by decide +kernel, rfl⟩
theorem d_Fc_gather_32 : dc b_Fc_gather 32 (.getfield 62) 3 35 := ⟨by decide +kernel, rfl⟩
theorem d_Fc_gather_35 : dc b_Fc_gather 35 (.aload_n 1) 1 36 := ⟨by decide +kernel, rfl⟩
theorem d_Fc_gather_36 : dc b_Fc_gather 36 (.getfield 62) 3 39 := ⟨by decide +kernel, rfl⟩
theorem d_Fc_gather_39 : db b_Fc_gather 39 (.if_icmp .ne 4) 4 43 42 := ⟨by decide +kernel, by decide, rfl⟩
theorem d_Fc_gather_42 : dc b_Fc_gather 42 (.return_) 1 43 := ⟨by decide +kernel, rfl⟩
theorem d_Fc_gather_43 : dc b_Fc_gather 43 (.iinc 2 1) 3 46 := ⟨by decide +kernel, rfl⟩
theorem d_Fc_gather_46 : db b_Fc_gather 46 (.goto (-44)) (-44) 2 49 := ⟨by decide +kernel, by decide, rfl⟩
theorem d_Fc_gather_49 : dc b_Fc_gather 49 (.aload_n 0) 1 50 := ⟨by decide +kernel, rfl⟩
theorem d_Fc_gather_50 : dc b_Fc_gather 50 (.getfield 48) 3 53 := ⟨by decide +kernel, rfl⟩
theorem d_Fc_gather_53 : dc b_Fc_gather 53 (.aload_n 0) 1 54 := ⟨by decide +kernel, rfl⟩
theorem d_Fc_gather_54 : dc b_Fc_gather 54 (.getfield 21) 3 57 := ⟨by decide +kernel, rfl⟩
theorem d_Fc_gather_57 : dc b_Fc_gather 57 (.arraylength) 1 58 := ⟨by decide +kernel, rfl⟩
theorem d_Fc_gather_58 : db b_Fc_gather 58 (.if_icmp .ge 23) 23 81 61 := ⟨by decide +kernel, by decide, rfl⟩
theorem d_Fc_gather_61 : dc b_Fc_gather 61 (.aload_n 0) 1 62 := ⟨by decide +kernel, rfl⟩
theorem d_Fc_gather_62 : dc b_Fc_gather 62 (.getfield 21) 3 65 := ⟨by decide +kernel, rfl⟩
theorem d_Fc_gather_65 : dc b_Fc_gather 65 (.aload_n 0) 1 66 := ⟨by decide +kernel, rfl⟩
theorem d_Fc_gather_66 : dc b_Fc_gather 66 (.getfield 48) 3 69 := ⟨by decide +kernel, rfl⟩
theorem d_Fc_gather_69 : dc b_Fc_gather 69 (.aload_n 1) 1 70 := ⟨by decide +kernel, rfl⟩
theorem d_Fc_gather_70 : dc b_Fc_gather 70 (.aastore) 1 71 := ⟨by decide +kernel, rfl⟩
theorem d_Fc_gather_71 : dc b_Fc_gather 71 (.aload_n 0) 1 72 := ⟨by decide +kernel, rfl⟩
theorem d_Fc_gather_72 : dc b_Fc_gather 72 (.dup) 1 73 := ⟨by decide +kernel, rfl⟩
theorem d_Fc_gather_73 : dc b_Fc_gather 73 (.getfield 48) 3 76 := ⟨by decide +kernel, rfl⟩
theorem d_Fc_gather_76 : dc b_Fc_gather 76 (.iconst 1) 1 77 := ⟨by decide +kernel, rfl⟩
theorem d_Fc_gather_77 : dc b_Fc_gather 77 (.iadd) 1 78 := ⟨by decide +kernel, rfl⟩
theorem d_Fc_gather_78 : dc b_Fc_gather 78 (.putfield 48) 3 81 := ⟨by decide +kernel, rfl⟩
theorem d_Fc_gather_81 : dc b_Fc_gather 81 (.return_) 1 82 := ⟨by decide +kernel, rfl⟩
def f_Fc_gather_J43 (o : Nat) (kx49 : gS → gD → Option Nat → Option (Unit × gS × gD)) (kb : gS → gD → Option Nat → Int32 → Option (Unit × gS × gD)) (S : gS) (d : gD) (v1 : Option Nat) (v2 : Int32) : Option (Unit × gS × gD) :=
  kb S d v1 (v2 + 1)
set_option maxRecDepth 100000 in
set_option maxHeartbeats 4000000 in
theorem w_Fc_gather_J43 {X : GX} (hE : gE X b_Fc_gather 3 "StandInMill$Face" none "gather" 0 0) {o : Nat} {r : Unit} {S' : gS} {d' : gD} {kb : gS → gD → Option Nat → Int32 → Option (Unit × gS × gD)} {kx49 : gS → gD → Option Nat → Option (Unit × gS × gD)} (hkb : ∀ (S : gS) (d : gD) (v1 : Option Nat) (v2 : Int32), kb S d v1 v2 = some (r, S', d') → gw X 0 0 (gQ X (none) S' d' 0 0) S d 2 [some (va_rf (some o)), some (va_rf v1), some (.int v2)] []) (hkx49 : ∀ (S : gS) (d : gD) (v1 : Option Nat), kx49 S d v1 = some (r, S', d') → gw X 0 0 (gQ X (none) S' d' 0 0) S d 49 [some (va_rf (some o)), some (va_rf v1), none] []) :
    ∀ (S : gS) (d : gD) (v1 : Option Nat) (v2 : Int32), f_Fc_gather_J43 o kx49 kb S d v1 v2 = some (r, S', d') → gw X 0 0 (gQ X (none) S' d' 0 0) S d 43 [some (va_rf (some o)), some (va_rf v1), some (.int v2)] [] := by
  intro S d v1 v2 h
  unfold f_Fc_gather_J43 at h
  refine g_iinc (i := 2) (lv' := [some (va_rf (some o)), some (va_rf v1), some (.int (v2 + 1))]) hE d_Fc_gather_43 ki_1 rfl (Nat.le_of_ble_eq_true rfl) ⟨rfl, Nat.le_of_ble_eq_true rfl⟩ (lvp_r rfl) ?_
  refine g_goto hE d_Fc_gather_46 ?_
  exact gw.less (lv' := [some (va_rf (some o)), some (va_rf v1), some (.int (v2 + 1))]) (And.intro rfl (And.intro rfl (And.intro rfl trivial))) (hkb S d v1 (v2 + 1) h)
def f_Fc_gather_B2 (o : Nat) (kx49 : gS → gD → Option Nat → Option (Unit × gS × gD)) (kb : gS → gD → Option Nat → Int32 → Option (Unit × gS × gD)) (S : gS) (d : gD) (v1 : Option Nat) (v2 : Int32) : Option (Unit × gS × gD) :=
  kd S o 4 <|
  lt_ (dI d o 9) fun x2 =>
  if x2 ≤ v2 then (
    kx49 S d v1)
  else (
    lt_ (sP S o 8) fun x3 =>
    nn x3 fun a4 =>
    kd S a4 61 <|
    gi v2 (sN S a4) <|
    lt_ (sP S a4 v2.toNatClampNeg) fun x7 =>
    nn x7 fun a8 =>
    kd S a8 5 <|
    lt_ (dI d a8 0) fun x10 =>
    nn v1 fun a11 =>
    kd S a11 5 <|
    lt_ (dI d a11 0) fun x13 =>
    if x10 = x13 then (
      lt_ (sP S o 8) fun x14 =>
      nn x14 fun a15 =>
      kd S a15 61 <|
      gi v2 (sN S a15) <|
      lt_ (sP S a15 v2.toNatClampNeg) fun x18 =>
      nn x18 fun a19 =>
      kd S a19 5 <|
      lt_ (dI d a19 1) fun x21 =>
      lt_ (dI d a11 1) fun x22 =>
      if x21 = x22 then (
        some ((), S, d))
      else (
        f_Fc_gather_J43 o kx49 kb S d (some a11) v2))
    else (
      f_Fc_gather_J43 o kx49 kb S d (some a11) v2))
set_option maxRecDepth 100000 in
set_option maxHeartbeats 4000000 in
theorem w_Fc_gather_B2 {X : GX} (hE : gE X b_Fc_gather 3 "StandInMill$Face" none "gather" 0 0) {o : Nat} {r : Unit} {S' : gS} {d' : gD} {kb : gS → gD → Option Nat → Int32 → Option (Unit × gS × gD)} {kx49 : gS → gD → Option Nat → Option (Unit × gS × gD)} (hkb : ∀ (S : gS) (d : gD) (v1 : Option Nat) (v2 : Int32), kb S d v1 v2 = some (r, S', d') → gw X 0 0 (gQ X (none) S' d' 0 0) S d 2 [some (va_rf (some o)), some (va_rf v1), some (.int v2)] []) (hkx49 : ∀ (S : gS) (d : gD) (v1 : Option Nat), kx49 S d v1 = some (r, S', d') → gw X 0 0 (gQ X (none) S' d' 0 0) S d 49 [some (va_rf (some o)), some (va_rf v1), none] []) :
    ∀ (S : gS) (d : gD) (v1 : Option Nat) (v2 : Int32), f_Fc_gather_B2 o kx49 kb S d v1 v2 = some (r, S', d') → gw X 0 0 (gQ X (none) S' d' 0 0) S d 2 [some (va_rf (some o)), some (va_rf v1), some (.int v2)] [] := by
  intro S d v1 v2 h
  unfold f_Fc_gather_B2 at h
  refine g_iload_n (i := 2) hE d_Fc_gather_2 rfl rfl ?_
  refine g_aload_n (i := 0) hE d_Fc_gather_3 rfl rfl ?_
  obtain ⟨k1, h⟩ := kd_s h
  refine g_getI 9 hE kc_Fc k1 (Nat.le_of_ble_eq_true rfl) rfl m_177 d_Fc_gather_4 (fun x2 e => ?_)
  replace h := lt_i e h; clear e
  refine g_icmp_ge hE d_Fc_gather_7 (fun c25 => ?_) (fun c25 => ?_)
  · replace h := if_t c25 h
    exact gw.less (lv' := [some (va_rf (some o)), some (va_rf v1), none]) (And.intro rfl (And.intro rfl trivial)) (hkx49 S d v1 h)
  · replace h := if_f c25 h
    refine g_aload_n (i := 0) hE d_Fc_gather_10 rfl rfl ?_
    refine g_getR 8 hE kc_Fc k1 (Nat.le_of_ble_eq_true rfl) rfl m_92 d_Fc_gather_11 (fun x3 e => ?_)
    replace h := lt_i e h; clear e
    refine g_iload_n (i := 2) hE d_Fc_gather_14 rfl rfl ?_
    obtain ⟨a4, rfl, h⟩ := nn_s h
    obtain ⟨k5, h⟩ := kd_s h
    obtain ⟨g6, h⟩ := gi_s h
    refine g_aald hE k5 (by decide) rfl (fun _ => rfl) g6 d_Fc_gather_15 (fun x7 e => ?_)
    replace h := lt_i e h; clear e
    obtain ⟨a8, rfl, h⟩ := nn_s h
    obtain ⟨k9, h⟩ := kd_s h
    refine g_getIN 0 hE kc_Om k9 (Nat.le_of_ble_eq_true rfl) rfl nf_13 d_Fc_gather_16 (fun x10 e => ?_)
    replace h := lt_i e h; clear e
    refine g_aload_n (i := 1) hE d_Fc_gather_19 rfl rfl ?_
    obtain ⟨a11, rfl, h⟩ := nn_s h
    obtain ⟨k12, h⟩ := kd_s h
    refine g_getIN 0 hE kc_Om k12 (Nat.le_of_ble_eq_true rfl) rfl nf_13 d_Fc_gather_20 (fun x13 e => ?_)
    replace h := lt_i e h; clear e
    refine g_icmp_ne hE d_Fc_gather_23 (fun c24 => ?_) (fun c24 => ?_)
    · replace h := if_f c24 h
      exact gw.less (lv' := [some (va_rf (some o)), some (va_rf (some a11)), some (.int v2)]) (And.intro rfl (And.intro rfl (And.intro rfl trivial))) (w_Fc_gather_J43 hE hkb hkx49 S d (some a11) v2 h)
    · replace h := if_t c24 h
      refine g_aload_n (i := 0) hE d_Fc_gather_26 rfl rfl ?_
      refine g_getR 8 hE kc_Fc k1 (Nat.le_of_ble_eq_true rfl) rfl m_92 d_Fc_gather_27 (fun x14 e => ?_)
      replace h := lt_i e h; clear e
      refine g_iload_n (i := 2) hE d_Fc_gather_30 rfl rfl ?_
      obtain ⟨a15, rfl, h⟩ := nn_s h
      obtain ⟨k16, h⟩ := kd_s h
      obtain ⟨g17, h⟩ := gi_s h
      refine g_aald hE k16 (by decide) rfl (fun _ => rfl) g17 d_Fc_gather_31 (fun x18 e => ?_)
      replace h := lt_i e h; clear e
      obtain ⟨a19, rfl, h⟩ := nn_s h
      obtain ⟨k20, h⟩ := kd_s h
      refine g_getIN 1 hE kc_Om k20 (Nat.le_of_ble_eq_true rfl) rfl nf_14 d_Fc_gather_32 (fun x21 e => ?_)
      replace h := lt_i e h; clear e
      refine g_aload_n (i := 1) hE d_Fc_gather_35 rfl rfl ?_
      refine g_getIN 1 hE kc_Om k12 (Nat.le_of_ble_eq_true rfl) rfl nf_14 d_Fc_gather_36 (fun x22 e => ?_)
      replace h := lt_i e h; clear e
      refine g_icmp_ne hE d_Fc_gather_39 (fun c23 => ?_) (fun c23 => ?_)
      · replace h := if_f c23 h
        exact gw.less (lv' := [some (va_rf (some o)), some (va_rf (some a11)), some (.int v2)]) (And.intro rfl (And.intro rfl (And.intro rfl trivial))) (w_Fc_gather_J43 hE hkb hkx49 S d (some a11) v2 h)
      · replace h := if_t c23 h
        cases h
        exact g_vret hE d_Fc_gather_42 rfl rfl
theorem w_Fc_gather_L2 {X : GX} (hE : gE X b_Fc_gather 3 "StandInMill$Face" none "gather" 0 0) {o : Nat} {r : Unit} {S' : gS} {d' : gD} {kx49 : gS → gD → Option Nat → Option (Unit × gS × gD)} (hkx49 : ∀ (S : gS) (d : gD) (v1 : Option Nat), kx49 S d v1 = some (r, S', d') → gw X 0 0 (gQ X (none) S' d' 0 0) S d 49 [some (va_rf (some o)), some (va_rf v1), none] []) : ∀ (n : Nat) (S : gS) (d : gD) (v1 : Option Nat) (v2 : Int32), itr (f_Fc_gather_B2 o kx49) (fun _ _ _ _ => none) n S d v1 v2 = some (r, S', d') → gw X 0 0 (gQ X (none) S' d' 0 0) S d 2 [some (va_rf (some o)), some (va_rf v1), some (.int v2)] [] := by
  intro n
  induction n with
  | zero => intro S d v1 v2 h; cases h
  | succ n ih => exact w_Fc_gather_B2 hE ih hkx49
def f_Fc_gather_J49 (o : Nat) (S : gS) (d : gD) (v1 : Option Nat) : Option (Unit × gS × gD) :=
  kd S o 4 <|
  lt_ (dI d o 9) fun x2 =>
  lt_ (sP S o 8) fun x3 =>
  nn x3 fun a4 =>
  kd S a4 61 <|
  if (Int32.ofNat (sN S a4)) ≤ x2 then (
    some ((), S, d))
  else (
    lt_ (sP S o 8) fun x6 =>
    lt_ (dI d o 9) fun x7 =>
    nn x6 fun a8 =>
    kd S a8 61 <|
    gi x7 (sN S a8) <|
    nn v1 fun a12 =>
    kd S a12 5 <|
    lt_ (wP S a8 x7.toNatClampNeg (some a12)) fun S11 =>
    lt_ (dI d o 9) fun x14 =>
    lt_ (wI d o 9 (x14 + 1)) fun d15 =>
    some ((), S11, d15))
set_option maxRecDepth 100000 in
set_option maxHeartbeats 4000000 in
theorem w_Fc_gather_J49 {X : GX} (hE : gE X b_Fc_gather 3 "StandInMill$Face" none "gather" 0 0) {o : Nat} {r : Unit} {S' : gS} {d' : gD} :
    ∀ (S : gS) (d : gD) (v1 : Option Nat), f_Fc_gather_J49 o S d v1 = some (r, S', d') → gw X 0 0 (gQ X (none) S' d' 0 0) S d 49 [some (va_rf (some o)), some (va_rf v1), none] [] := by
  intro S d v1 h
  unfold f_Fc_gather_J49 at h
  refine g_aload_n (i := 0) hE d_Fc_gather_49 rfl rfl ?_
  obtain ⟨k1, h⟩ := kd_s h
  refine g_getI 9 hE kc_Fc k1 (Nat.le_of_ble_eq_true rfl) rfl m_177 d_Fc_gather_50 (fun x2 e => ?_)
  replace h := lt_i e h; clear e
  refine g_aload_n (i := 0) hE d_Fc_gather_53 rfl rfl ?_
  refine g_getR 8 hE kc_Fc k1 (Nat.le_of_ble_eq_true rfl) rfl m_92 d_Fc_gather_54 (fun x3 e => ?_)
  replace h := lt_i e h; clear e
  obtain ⟨a4, rfl, h⟩ := nn_s h
  obtain ⟨k5, h⟩ := kd_s h
  refine g_alen hE k5 (by decide) d_Fc_gather_57 ?_
  refine g_icmp_ge hE d_Fc_gather_58 (fun c16 => ?_) (fun c16 => ?_)
  · replace h := if_t c16 h
    cases h
    exact g_vret hE d_Fc_gather_81 rfl rfl
  · replace h := if_f c16 h
    refine g_aload_n (i := 0) hE d_Fc_gather_61 rfl rfl ?_
    refine g_getR 8 hE kc_Fc k1 (Nat.le_of_ble_eq_true rfl) rfl m_92 d_Fc_gather_62 (fun x6 e => ?_)
    replace h := lt_i e h; clear e
    refine g_aload_n (i := 0) hE d_Fc_gather_65 rfl rfl ?_
    refine g_getI 9 hE kc_Fc k1 (Nat.le_of_ble_eq_true rfl) rfl m_177 d_Fc_gather_66 (fun x7 e => ?_)
    replace h := lt_i e h; clear e
    refine g_aload_n (i := 1) hE d_Fc_gather_69 rfl rfl ?_
    obtain ⟨a8, rfl, h⟩ := nn_s h
    obtain ⟨k9, h⟩ := kd_s h
    obtain ⟨g10, h⟩ := gi_s h
    obtain ⟨a12, rfl, h⟩ := nn_s h
    obtain ⟨k13, h⟩ := kd_s h
    refine g_aast hE k9 (by decide) (fun _ => rfl) rfl kc_Om k13 g10 d_Fc_gather_70 (fun S11 e => ?_)
    replace k1 : sK S11 o = 4 := by rw [← e]; exact k1
    replace k5 : sK S11 a4 = 61 := by rw [← e]; exact k5
    replace k9 : sK S11 a8 = 61 := by rw [← e]; exact k9
    replace k13 : sK S11 a12 = 5 := by rw [← e]; exact k13
    replace h := lt_i e h; clear e
    refine g_aload_n (i := 0) hE d_Fc_gather_71 rfl rfl ?_
    refine g_dupr hE d_Fc_gather_72 ?_
    refine g_getI 9 hE kc_Fc k1 (Nat.le_of_ble_eq_true rfl) rfl m_177 d_Fc_gather_73 (fun x14 e => ?_)
    replace h := lt_i e h; clear e
    refine g_iconst hE d_Fc_gather_76 ki_1 ?_
    refine g_iadd hE d_Fc_gather_77 ?_
    refine g_putI 9 hE kc_Fc k1 (Nat.le_of_ble_eq_true rfl) rfl m_177 rfl (by decide +kernel) d_Fc_gather_78 (fun d15 e => ?_)
    replace h := lt_i e h; clear e
    cases h
    exact g_vret hE d_Fc_gather_81 rfl rfl
set_option maxRecDepth 100000 in
def f_Fc_gather (S : gS) (d : gD) (o : Nat) (v1 : Option Nat) : Option (Unit × gS × gD) :=
  itr (f_Fc_gather_B2 o (f_Fc_gather_J49 o)) (fun _ _ _ _ => none) fu S d v1 0
set_option maxRecDepth 100000 in
set_option maxHeartbeats 4000000 in
theorem c_Fc_gather (l : Launch) (G : gG) {S : gS} {d : gD} {o : Nat} {v1 : Option Nat} {r : Unit} {d' : gD} {S' : gS} (h : f_Fc_gather S d o v1 = some (r, S', d')) : GM l G y_Fc_gather b_Fc_gather 3 none 0 0 0 0 [.inr (.inr (some o)), .inr (.inr v1)] S d (none) S' d' := by
  refine GM.of (by decide) (Nat.le_of_ble_eq_true rfl) ?_
  intro X hl0 hG0 hR0 hE0
  have hE : gE X b_Fc_gather 3 "StandInMill$Face" none "gather" 0 0 := hE0
  unfold f_Fc_gather at h
  refine gw.less (lv' := [some (va_rf (some o)), some (va_rf v1), none]) (And.intro rfl (And.intro rfl trivial)) ?_
  refine g_iconst hE d_Fc_gather_0 ki_0 ?_
  refine g_istore_n (i := 2) (lv' := [some (va_rf (some o)), some (va_rf v1), some (.int 0)]) hE d_Fc_gather_1 rfl (Nat.le_of_ble_eq_true rfl) ⟨rfl, Nat.le_of_ble_eq_true rfl⟩ (lvp_r rfl) ?_
  exact gw.less (lv' := [some (va_rf (some o)), some (va_rf v1), some (.int 0)]) (And.intro rfl (And.intro rfl (And.intro rfl trivial))) (w_Fc_gather_L2 hE (w_Fc_gather_J49 hE) fu S d v1 0 h)
theorem d_Fc_gatherOwn_0 : dc b_Fc_gatherOwn 0 (.aload_n 0) 1 1 := ⟨by decide +kernel, rfl⟩
theorem d_Fc_gatherOwn_1 : dc b_Fc_gatherOwn 1 (.iconst 0) 1 2 := ⟨by decide +kernel, rfl⟩
theorem d_Fc_gatherOwn_2 : dc b_Fc_gatherOwn 2 (.putfield 48) 3 5 := ⟨by decide +kernel, rfl⟩
theorem d_Fc_gatherOwn_5 : dc b_Fc_gatherOwn 5 (.iconst 0) 1 6 := ⟨by decide +kernel, rfl⟩
theorem d_Fc_gatherOwn_6 : dc b_Fc_gatherOwn 6 (.istore_n 1) 1 7 := ⟨by decide +kernel, rfl⟩
theorem d_Fc_gatherOwn_7 : dc b_Fc_gatherOwn 7 (.iload_n 1) 1 8 := ⟨by decide +kernel, rfl⟩
theorem d_Fc_gatherOwn_8 : dc b_Fc_gatherOwn 8 (.aload_n 0) 1 9 := ⟨by decide +kernel, rfl⟩
theorem d_Fc_gatherOwn_9 : dc b_Fc_gatherOwn 9 (.getfield 41) 3 12 := ⟨by decide +kernel, rfl⟩
theorem d_Fc_gatherOwn_12 : db b_Fc_gatherOwn 12 (.if_icmp .ge 19) 19 31 15 := ⟨by decide +kernel, by decide, rfl⟩
theorem d_Fc_gatherOwn_15 : dc b_Fc_gatherOwn 15 (.aload_n 0) 1 16 := ⟨by decide +kernel, rfl⟩
theorem d_Fc_gatherOwn_16 : dc b_Fc_gatherOwn 16 (.aload_n 0) 1 17 := ⟨by decide +kernel, rfl⟩
theorem d_Fc_gatherOwn_17 : dc b_Fc_gatherOwn 17 (.getfield 17) 3 20 := ⟨by decide +kernel, rfl⟩
theorem d_Fc_gatherOwn_20 : dc b_Fc_gatherOwn 20 (.iload_n 1) 1 21 := ⟨by decide +kernel, rfl⟩
theorem d_Fc_gatherOwn_21 : dc b_Fc_gatherOwn 21 (.aaload) 1 22 := ⟨by decide +kernel, rfl⟩
theorem d_Fc_gatherOwn_22 : dc b_Fc_gatherOwn 22 (.invokevirtual 51) 3 25 := ⟨by decide +kernel, rfl⟩
theorem d_Fc_gatherOwn_25 : dc b_Fc_gatherOwn 25 (.iinc 1 1) 3 28 := ⟨by decide +kernel, rfl⟩
theorem d_Fc_gatherOwn_28 : db b_Fc_gatherOwn 28 (.goto (-21)) (-21) 7 31 := ⟨by decide +kernel, by decide, rfl⟩
theorem d_Fc_gatherOwn_31 : dc b_Fc_gatherOwn 31 (.return_) 1 32 := ⟨by decide +kernel, rfl⟩
def f_Fc_gatherOwn_B7 (o : Nat) (kb : gS → gD → Int32 → Option (Unit × gS × gD)) (S : gS) (d : gD) (v1 : Int32) : Option (Unit × gS × gD) :=
  kd S o 4 <|
  lt_ (dI d o 7) fun x2 =>
  if x2 ≤ v1 then (
    some ((), S, d))
  else (
    lt_ (sP S o 6) fun x3 =>
    nn x3 fun a4 =>
    kd S a4 61 <|
    gi v1 (sN S a4) <|
    lt_ (sP S a4 v1.toNatClampNeg) fun x7 =>
    bdP (f_Fc_gather S d o x7) fun _ S10 d11 =>
    kb S10 d11 (v1 + 1))
set_option maxRecDepth 100000 in
set_option maxHeartbeats 4000000 in
theorem w_Fc_gatherOwn_B7 {X : GX} (hE : gE X b_Fc_gatherOwn 2 "StandInMill$Face" none "gatherOwn" 1 22) {o : Nat} {r : Unit} {S' : gS} {d' : gD} {kb : gS → gD → Int32 → Option (Unit × gS × gD)} (hkb : ∀ (S : gS) (d : gD) (v1 : Int32), kb S d v1 = some (r, S', d') → gw X 0 0 (gQ X (none) S' d' 0 0) S d 7 [some (va_rf (some o)), some (.int v1)] []) :
    ∀ (S : gS) (d : gD) (v1 : Int32), f_Fc_gatherOwn_B7 o kb S d v1 = some (r, S', d') → gw X 0 0 (gQ X (none) S' d' 0 0) S d 7 [some (va_rf (some o)), some (.int v1)] [] := by
  intro S d v1 h
  unfold f_Fc_gatherOwn_B7 at h
  refine g_iload_n (i := 1) hE d_Fc_gatherOwn_7 rfl rfl ?_
  refine g_aload_n (i := 0) hE d_Fc_gatherOwn_8 rfl rfl ?_
  obtain ⟨k1, h⟩ := kd_s h
  refine g_getI 7 hE kc_Fc k1 (Nat.le_of_ble_eq_true rfl) rfl m_136 d_Fc_gatherOwn_9 (fun x2 e => ?_)
  replace h := lt_i e h; clear e
  refine g_icmp_ge hE d_Fc_gatherOwn_12 (fun c12 => ?_) (fun c12 => ?_)
  · replace h := if_t c12 h
    cases h
    exact g_vret hE d_Fc_gatherOwn_31 rfl rfl
  · replace h := if_f c12 h
    refine g_aload_n (i := 0) hE d_Fc_gatherOwn_15 rfl rfl ?_
    refine g_aload_n (i := 0) hE d_Fc_gatherOwn_16 rfl rfl ?_
    refine g_getR 6 hE kc_Fc k1 (Nat.le_of_ble_eq_true rfl) rfl m_91 d_Fc_gatherOwn_17 (fun x3 e => ?_)
    replace h := lt_i e h; clear e
    refine g_iload_n (i := 1) hE d_Fc_gatherOwn_20 rfl rfl ?_
    obtain ⟨a4, rfl, h⟩ := nn_s h
    obtain ⟨k5, h⟩ := kd_s h
    obtain ⟨g6, h⟩ := gi_s h
    refine g_aald hE k5 (by decide) rfl (fun _ => rfl) g6 d_Fc_gatherOwn_21 (fun x7 e => ?_)
    replace h := lt_i e h; clear e
    obtain ⟨x8, S10, d11, e9, h⟩ := bdP_s h
    refine g_callV (av := [.inr (.inr (some o)), .inr (.inr x7)]) (as := [.inr (.inr x7)]) (stk := []) [] hE (c_Fc_gather (xl X) (xG X) e9) ky_Fc_gather ⟨Nat.le_of_ble_eq_true rfl, Nat.le_of_ble_eq_true rfl⟩ rfl kc_Fc k1 m_178 m_179 m_180 rfl d_Fc_gatherOwn_22 rfl rfl ct_0 (Nat.zero_le _) (Nat.zero_le _) ?_
    refine gw.cs (c2 := 0) (s2 := 0) rfl rfl ?_
    refine g_iinc (i := 1) (lv' := [some (va_rf (some o)), some (.int (v1 + 1))]) hE d_Fc_gatherOwn_25 ki_1 rfl (Nat.le_of_ble_eq_true rfl) ⟨rfl, Nat.le_of_ble_eq_true rfl⟩ (lvp_r rfl) ?_
    refine g_goto hE d_Fc_gatherOwn_28 ?_
    exact gw.less (lv' := [some (va_rf (some o)), some (.int (v1 + 1))]) (And.intro rfl (And.intro rfl trivial)) (hkb S10 d11 (v1 + 1) h)
theorem w_Fc_gatherOwn_L7 {X : GX} (hE : gE X b_Fc_gatherOwn 2 "StandInMill$Face" none "gatherOwn" 1 22) {o : Nat} {r : Unit} {S' : gS} {d' : gD} : ∀ (n : Nat) (S : gS) (d : gD) (v1 : Int32), itr (f_Fc_gatherOwn_B7 o) (fun _ _ _ => none) n S d v1 = some (r, S', d') → gw X 0 0 (gQ X (none) S' d' 0 0) S d 7 [some (va_rf (some o)), some (.int v1)] [] := by
  intro n
  induction n with
  | zero => intro S d v1 h; cases h
  | succ n ih => exact w_Fc_gatherOwn_B7 hE ih
set_option maxRecDepth 100000 in
def f_Fc_gatherOwn (S : gS) (d : gD) (o : Nat) : Option (Unit × gS × gD) :=
  kd S o 4 <|
  lt_ (wI d o 9 0) fun d2 =>
  itr (f_Fc_gatherOwn_B7 o) (fun _ _ _ => none) fu S d2 0
set_option maxRecDepth 100000 in
set_option maxHeartbeats 4000000 in
theorem c_Fc_gatherOwn (l : Launch) (G : gG) {S : gS} {d : gD} {o : Nat} {r : Unit} {d' : gD} {S' : gS} (h : f_Fc_gatherOwn S d o = some (r, S', d')) : GM l G y_Fc_gatherOwn b_Fc_gatherOwn 2 none 1 22 0 0 [.inr (.inr (some o))] S d (none) S' d' := by
  refine GM.of (by decide) (Nat.le_of_ble_eq_true rfl) ?_
  intro X hl0 hG0 hR0 hE0
  have hE : gE X b_Fc_gatherOwn 2 "StandInMill$Face" none "gatherOwn" 1 22 := hE0
  unfold f_Fc_gatherOwn at h
  refine gw.less (lv' := [some (va_rf (some o)), none]) (And.intro rfl trivial) ?_
  refine g_aload_n (i := 0) hE d_Fc_gatherOwn_0 rfl rfl ?_
  refine g_iconst hE d_Fc_gatherOwn_1 ki_0 ?_
  obtain ⟨k1, h⟩ := kd_s h
  refine g_putI 9 hE kc_Fc k1 (Nat.le_of_ble_eq_true rfl) rfl m_177 rfl (by decide +kernel) d_Fc_gatherOwn_2 (fun d2 e => ?_)
  replace h := lt_i e h; clear e
  refine g_iconst hE d_Fc_gatherOwn_5 ki_0 ?_
  refine g_istore_n (i := 1) (lv' := [some (va_rf (some o)), some (.int 0)]) hE d_Fc_gatherOwn_6 rfl (Nat.le_of_ble_eq_true rfl) ⟨rfl, Nat.le_of_ble_eq_true rfl⟩ (lvp_r rfl) ?_
  exact gw.less (lv' := [some (va_rf (some o)), some (.int 0)]) (And.intro rfl (And.intro rfl trivial)) (w_Fc_gatherOwn_L7 hE fu S d2 0 h)
theorem d_Fc_gatherFrom_0 : dc b_Fc_gatherFrom 0 (.iconst 0) 1 1 := ⟨by decide +kernel, rfl⟩
theorem d_Fc_gatherFrom_1 : dc b_Fc_gatherFrom 1 (.istore_n 2) 1 2 := ⟨by decide +kernel, rfl⟩
theorem d_Fc_gatherFrom_2 : dc b_Fc_gatherFrom 2 (.iload_n 2) 1 3 := ⟨by decide +kernel, rfl⟩
theorem d_Fc_gatherFrom_3 : dc b_Fc_gatherFrom 3 (.aload_n 1) 1 4 := ⟨by decide +kernel, rfl⟩
theorem d_Fc_gatherFrom_4 : dc b_Fc_gatherFrom 4 (.getfield 48) 3 7 := ⟨by decide +kernel, rfl⟩
theorem d_Fc_gatherFrom_7 : db b_Fc_gatherFrom 7 (.if_icmp .ge 36) 36 43 10 := ⟨by decide +kernel, by decide, rfl⟩
theorem d_Fc_gatherFrom_10 : dc b_Fc_gatherFrom 10 (.aload_n 1) 1 11 := ⟨by decide +kernel, rfl⟩
theorem d_Fc_gatherFrom_11 : dc b_Fc_gatherFrom 11 (.getfield 21) 3 14 := ⟨by decide +kernel, rfl⟩
theorem d_Fc_gatherFrom_14 : dc b_Fc_gatherFrom 14 (.iload_n 2) 1 15 := ⟨by decide +kernel, rfl⟩
theorem d_Fc_gatherFrom_15 : dc b_Fc_gatherFrom 15 (.aaload) 1 16 := ⟨by decide +kernel, rfl⟩
theorem d_Fc_gatherFrom_16 : dc b_Fc_gatherFrom 16 (.astore_n 3) 1 17 := ⟨by decide +kernel, rfl⟩
theorem d_Fc_gatherFrom_17 : dc b_Fc_gatherFrom 17 (.aload_n 0) 1 18 := ⟨by decide +kernel, rfl⟩
theorem d_Fc_gatherFrom_18 : dc b_Fc_gatherFrom 18 (.aload_n 3) 1 19 := ⟨by decide +kernel, rfl⟩
theorem d_Fc_gatherFrom_19 : dc b_Fc_gatherFrom 19 (.getfield 44) 3 22 := ⟨by decide +kernel, rfl⟩
theorem d_Fc_gatherFrom_22 : dc b_Fc_gatherFrom 22 (.aload_n 3) 1 23 := ⟨by decide +kernel, rfl⟩
theorem d_Fc_gatherFrom_23 : dc b_Fc_gatherFrom 23 (.getfield 45) 3 26 := ⟨by decide +kernel, rfl⟩
theorem d_Fc_gatherFrom_26 : dc b_Fc_gatherFrom 26 (.invokevirtual 55) 3 29 := ⟨by decide +kernel, rfl⟩
theorem d_Fc_gatherFrom_29 : db b_Fc_gatherFrom 29 (.ifCond .ne 8) 8 37 32 := ⟨by decide +kernel, by decide, rfl⟩
theorem d_Fc_gatherFrom_32 : dc b_Fc_gatherFrom 32 (.aload_n 0) 1 33 := ⟨by decide +kernel, rfl⟩
theorem d_Fc_gatherFrom_33 : dc b_Fc_gatherFrom 33 (.aload_n 3) 1 34 := ⟨by decide +kernel, rfl⟩
theorem d_Fc_gatherFrom_34 : dc b_Fc_gatherFrom 34 (.invokevirtual 51) 3 37 := ⟨by decide +kernel, rfl⟩
theorem d_Fc_gatherFrom_37 : dc b_Fc_gatherFrom 37 (.iinc 2 1) 3 40 := ⟨by decide +kernel, rfl⟩
theorem d_Fc_gatherFrom_40 : db b_Fc_gatherFrom 40 (.goto (-38)) (-38) 2 43 := ⟨by decide +kernel, by decide, rfl⟩
theorem d_Fc_gatherFrom_43 : dc b_Fc_gatherFrom 43 (.return_) 1 44 := ⟨by decide +kernel, rfl⟩
def f_Fc_gatherFrom_J37 (o : Nat) (kb : gS → gD → Option Nat → Int32 → Option (Unit × gS × gD)) (S : gS) (d : gD) (v1 : Option Nat) (v2 : Int32) : Option (Unit × gS × gD) :=
  kb S d v1 (v2 + 1)
set_option maxRecDepth 100000 in
set_option maxHeartbeats 4000000 in
theorem w_Fc_gatherFrom_J37 {X : GX} (hE : gE X b_Fc_gatherFrom 4 "StandInMill$Face" none "gatherFrom" 1 23) {o : Nat} {r : Unit} {S' : gS} {d' : gD} {kb : gS → gD → Option Nat → Int32 → Option (Unit × gS × gD)} (hkb : ∀ (S : gS) (d : gD) (v1 : Option Nat) (v2 : Int32), kb S d v1 v2 = some (r, S', d') → gw X 0 0 (gQ X (none) S' d' 0 0) S d 2 [some (va_rf (some o)), some (va_rf v1), some (.int v2), none] []) :
    ∀ (S : gS) (d : gD) (v1 : Option Nat) (v2 : Int32), f_Fc_gatherFrom_J37 o kb S d v1 v2 = some (r, S', d') → gw X 0 0 (gQ X (none) S' d' 0 0) S d 37 [some (va_rf (some o)), some (va_rf v1), some (.int v2), none] [] := by
  intro S d v1 v2 h
  unfold f_Fc_gatherFrom_J37 at h
  refine g_iinc (i := 2) (lv' := [some (va_rf (some o)), some (va_rf v1), some (.int (v2 + 1)), none]) hE d_Fc_gatherFrom_37 ki_1 rfl (Nat.le_of_ble_eq_true rfl) ⟨rfl, Nat.le_of_ble_eq_true rfl⟩ (lvp_r rfl) ?_
  refine g_goto hE d_Fc_gatherFrom_40 ?_
  exact gw.less (lv' := [some (va_rf (some o)), some (va_rf v1), some (.int (v2 + 1)), none]) (And.intro rfl (And.intro rfl (And.intro rfl trivial))) (hkb S d v1 (v2 + 1) h)
def f_Fc_gatherFrom_B2 (o : Nat) (kb : gS → gD → Option Nat → Int32 → Option (Unit × gS × gD)) (S : gS) (d : gD) (v1 : Option Nat) (v2 : Int32) : Option (Unit × gS × gD) :=
  nn v1 fun a1 =>
  kd S a1 4 <|
  lt_ (dI d a1 9) fun x3 =>
  if x3 ≤ v2 then (
    some ((), S, d))
  else (
    lt_ (sP S a1 8) fun x4 =>
    nn x4 fun a5 =>
    kd S a5 61 <|
    gi v2 (sN S a5) <|
    lt_ (sP S a5 v2.toNatClampNeg) fun x8 =>
    nn x8 fun a9 =>
    kd S a9 5 <|
    lt_ (dI d a9 2) fun x11 =>
    lt_ (dI d a9 3) fun x12 =>
    kd S o 4 <|
    bd (f_Fc_hasOwn S d o x11 x12) fun x14 =>
    if x14 = 0 then (
      bdP (f_Fc_gather S d o (some a9)) fun _ S18 d19 =>
      f_Fc_gatherFrom_J37 o kb S18 d19 (some a1) v2)
    else (
      f_Fc_gatherFrom_J37 o kb S d (some a1) v2))
set_option maxRecDepth 100000 in
set_option maxHeartbeats 4000000 in
theorem w_Fc_gatherFrom_B2 {X : GX} (hE : gE X b_Fc_gatherFrom 4 "StandInMill$Face" none "gatherFrom" 1 23) {o : Nat} {r : Unit} {S' : gS} {d' : gD} {kb : gS → gD → Option Nat → Int32 → Option (Unit × gS × gD)} (hkb : ∀ (S : gS) (d : gD) (v1 : Option Nat) (v2 : Int32), kb S d v1 v2 = some (r, S', d') → gw X 0 0 (gQ X (none) S' d' 0 0) S d 2 [some (va_rf (some o)), some (va_rf v1), some (.int v2), none] []) :
    ∀ (S : gS) (d : gD) (v1 : Option Nat) (v2 : Int32), f_Fc_gatherFrom_B2 o kb S d v1 v2 = some (r, S', d') → gw X 0 0 (gQ X (none) S' d' 0 0) S d 2 [some (va_rf (some o)), some (va_rf v1), some (.int v2), none] [] := by
  intro S d v1 v2 h
  unfold f_Fc_gatherFrom_B2 at h
  refine g_iload_n (i := 2) hE d_Fc_gatherFrom_2 rfl rfl ?_
  refine g_aload_n (i := 1) hE d_Fc_gatherFrom_3 rfl rfl ?_
  obtain ⟨a1, rfl, h⟩ := nn_s h
  obtain ⟨k2, h⟩ := kd_s h
  refine g_getI 9 hE kc_Fc k2 (Nat.le_of_ble_eq_true rfl) rfl m_177 d_Fc_gatherFrom_4 (fun x3 e => ?_)
  replace h := lt_i e h; clear e
  refine g_icmp_ge hE d_Fc_gatherFrom_7 (fun c21 => ?_) (fun c21 => ?_)
  · replace h := if_t c21 h
    cases h
    exact g_vret hE d_Fc_gatherFrom_43 rfl rfl
  · replace h := if_f c21 h
    refine g_aload_n (i := 1) hE d_Fc_gatherFrom_10 rfl rfl ?_
    refine g_getR 8 hE kc_Fc k2 (Nat.le_of_ble_eq_true rfl) rfl m_92 d_Fc_gatherFrom_11 (fun x4 e => ?_)
    replace h := lt_i e h; clear e
    refine g_iload_n (i := 2) hE d_Fc_gatherFrom_14 rfl rfl ?_
    obtain ⟨a5, rfl, h⟩ := nn_s h
    obtain ⟨k6, h⟩ := kd_s h
    obtain ⟨g7, h⟩ := gi_s h
    refine g_aald hE k6 (by decide) rfl (fun _ => rfl) g7 d_Fc_gatherFrom_15 (fun x8 e => ?_)
    replace h := lt_i e h; clear e
    refine g_astore_n (i := 3) (lv' := [some (va_rf (some o)), some (va_rf (some a1)), some (.int v2), some (va_rf x8)]) hE d_Fc_gatherFrom_16 rfl (Nat.le_of_ble_eq_true rfl) ⟨rfl, Nat.le_of_ble_eq_true rfl⟩ (lvp_i rfl) ?_
    refine g_aload_n (i := 0) hE d_Fc_gatherFrom_17 rfl rfl ?_
    refine g_aload_n (i := 3) hE d_Fc_gatherFrom_18 rfl rfl ?_
    obtain ⟨a9, rfl, h⟩ := nn_s h
    obtain ⟨k10, h⟩ := kd_s h
    refine g_getIN 2 hE kc_Om k10 (Nat.le_of_ble_eq_true rfl) rfl nf_4 d_Fc_gatherFrom_19 (fun x11 e => ?_)
    replace h := lt_i e h; clear e
    refine g_aload_n (i := 3) hE d_Fc_gatherFrom_22 rfl rfl ?_
    refine g_getIN 3 hE kc_Om k10 (Nat.le_of_ble_eq_true rfl) rfl nf_5 d_Fc_gatherFrom_23 (fun x12 e => ?_)
    replace h := lt_i e h; clear e
    obtain ⟨k13, h⟩ := kd_s h
    obtain ⟨x14, e15, h⟩ := bd_s h
    refine g_callV (av := [.inr (.inr (some o)), .inl x11, .inl x12]) (as := [.inl x11, .inl x12]) (stk := [.int x14]) [] hE (c_Fc_hasOwn (xl X) (xG X) e15) ky_Fc_hasOwn ⟨Nat.le_of_ble_eq_true rfl, Nat.le_of_ble_eq_true rfl⟩ rfl kc_Fc k13 m_181 m_146 m_147 rfl d_Fc_gatherFrom_26 rfl rfl ct_0 (Nat.zero_le _) (Nat.zero_le _) ?_
    refine gw.cs (c2 := 0) (s2 := 0) rfl rfl ?_
    refine g_if_ne hE d_Fc_gatherFrom_29 (fun c20 => ?_) (fun c20 => ?_)
    · replace h := if_f c20 h
      exact gw.less (lv' := [some (va_rf (some o)), some (va_rf (some a1)), some (.int v2), none]) (And.intro rfl (And.intro rfl (And.intro rfl trivial))) (w_Fc_gatherFrom_J37 hE hkb S d (some a1) v2 h)
    · replace h := if_t c20 h
      refine g_aload_n (i := 0) hE d_Fc_gatherFrom_32 rfl rfl ?_
      refine g_aload_n (i := 3) hE d_Fc_gatherFrom_33 rfl rfl ?_
      obtain ⟨x16, S18, d19, e17, h⟩ := bdP_s h
      refine g_callV (av := [.inr (.inr (some o)), .inr (.inr (some a9))]) (as := [.inr (.inr (some a9))]) (stk := []) [] hE (c_Fc_gather (xl X) (xG X) e17) ky_Fc_gather ⟨Nat.le_of_ble_eq_true rfl, Nat.le_of_ble_eq_true rfl⟩ rfl kc_Fc k13 m_178 m_179 m_180 rfl d_Fc_gatherFrom_34 rfl rfl ct_0 (Nat.zero_le _) (Nat.zero_le _) ?_
      refine gw.cs (c2 := 0) (s2 := 0) rfl rfl ?_
      exact gw.less (lv' := [some (va_rf (some o)), some (va_rf (some a1)), some (.int v2), none]) (And.intro rfl (And.intro rfl (And.intro rfl trivial))) (w_Fc_gatherFrom_J37 hE hkb S18 d19 (some a1) v2 h)
theorem w_Fc_gatherFrom_L2 {X : GX} (hE : gE X b_Fc_gatherFrom 4 "StandInMill$Face" none "gatherFrom" 1 23) {o : Nat} {r : Unit} {S' : gS} {d' : gD} : ∀ (n : Nat) (S : gS) (d : gD) (v1 : Option Nat) (v2 : Int32), itr (f_Fc_gatherFrom_B2 o) (fun _ _ _ _ => none) n S d v1 v2 = some (r, S', d') → gw X 0 0 (gQ X (none) S' d' 0 0) S d 2 [some (va_rf (some o)), some (va_rf v1), some (.int v2), none] [] := by
  intro n
  induction n with
  | zero => intro S d v1 v2 h; cases h
  | succ n ih => exact w_Fc_gatherFrom_B2 hE ih
set_option maxRecDepth 100000 in
def f_Fc_gatherFrom (S : gS) (d : gD) (o : Nat) (v1 : Option Nat) : Option (Unit × gS × gD) :=
  itr (f_Fc_gatherFrom_B2 o) (fun _ _ _ _ => none) fu S d v1 0
set_option maxRecDepth 100000 in
set_option maxHeartbeats 4000000 in
theorem c_Fc_gatherFrom (l : Launch) (G : gG) {S : gS} {d : gD} {o : Nat} {v1 : Option Nat} {r : Unit} {d' : gD} {S' : gS} (h : f_Fc_gatherFrom S d o v1 = some (r, S', d')) : GM l G y_Fc_gatherFrom b_Fc_gatherFrom 4 none 1 23 0 0 [.inr (.inr (some o)), .inr (.inr v1)] S d (none) S' d' := by
  refine GM.of (by decide) (Nat.le_of_ble_eq_true rfl) ?_
  intro X hl0 hG0 hR0 hE0
  have hE : gE X b_Fc_gatherFrom 4 "StandInMill$Face" none "gatherFrom" 1 23 := hE0
  unfold f_Fc_gatherFrom at h
  refine gw.less (lv' := [some (va_rf (some o)), some (va_rf v1), none, none]) (And.intro rfl (And.intro rfl trivial)) ?_
  refine g_iconst hE d_Fc_gatherFrom_0 ki_0 ?_
  refine g_istore_n (i := 2) (lv' := [some (va_rf (some o)), some (va_rf v1), some (.int 0), none]) hE d_Fc_gatherFrom_1 rfl (Nat.le_of_ble_eq_true rfl) ⟨rfl, Nat.le_of_ble_eq_true rfl⟩ (lvp_r rfl) ?_
  exact gw.less (lv' := [some (va_rf (some o)), some (va_rf v1), some (.int 0), none]) (And.intro rfl (And.intro rfl (And.intro rfl trivial))) (w_Fc_gatherFrom_L2 hE fu S d v1 0 h)
