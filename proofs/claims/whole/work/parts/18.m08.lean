theorem d_M_gatherMethods_0 : dc b_M_gatherMethods 0 (.iconst 0) 1 1 := ⟨by decide +kernel, rfl⟩
theorem d_M_gatherMethods_1 : dc b_M_gatherMethods 1 (.istore_n 1) 1 2 := ⟨by decide +kernel, rfl⟩
theorem d_M_gatherMethods_2 : dc b_M_gatherMethods 2 (.iload_n 1) 1 3 := ⟨by decide +kernel, rfl⟩
theorem d_M_gatherMethods_3 : dc b_M_gatherMethods 3 (.aload_n 0) 1 4 := ⟨by decide +kernel, rfl⟩
theorem d_M_gatherMethods_4 : dc b_M_gatherMethods 4 (.getfield 102) 3 7 := ⟨by decide +kernel, rfl⟩
theorem d_M_gatherMethods_7 : db b_M_gatherMethods 7 (.if_icmp .ge 54) 54 61 10 := ⟨by decide +kernel, by decide, rfl⟩
theorem d_M_gatherMethods_10 : dc b_M_gatherMethods 10 (.aload_n 0) 1 11 := ⟨by decide +kernel, rfl⟩
theorem d_M_gatherMethods_11 : dc b_M_gatherMethods 11 (.getfield 22) 3 14 := ⟨by decide +kernel, rfl⟩
theorem d_M_gatherMethods_14 : dc b_M_gatherMethods 14 (.iload_n 1) 1 15 := ⟨by decide +kernel, rfl⟩
theorem d_M_gatherMethods_15 : dc b_M_gatherMethods 15 (.aaload) 1 16 := ⟨by decide +kernel, rfl⟩
theorem d_M_gatherMethods_16 : dc b_M_gatherMethods 16 (.astore_n 2) 1 17 := ⟨by decide +kernel, rfl⟩
theorem d_M_gatherMethods_17 : dc b_M_gatherMethods 17 (.aload_n 2) 1 18 := ⟨by decide +kernel, rfl⟩
theorem d_M_gatherMethods_18 : dc b_M_gatherMethods 18 (.invokevirtual 354) 3 21 := ⟨by decide +kernel, rfl⟩
theorem d_M_gatherMethods_21 : dc b_M_gatherMethods 21 (.iconst 0) 1 22 := ⟨by decide +kernel, rfl⟩
theorem d_M_gatherMethods_22 : dc b_M_gatherMethods 22 (.istore_n 3) 1 23 := ⟨by decide +kernel, rfl⟩
theorem d_M_gatherMethods_23 : dc b_M_gatherMethods 23 (.iload_n 3) 1 24 := ⟨by decide +kernel, rfl⟩
theorem d_M_gatherMethods_24 : dc b_M_gatherMethods 24 (.aload_n 2) 1 25 := ⟨by decide +kernel, rfl⟩
theorem d_M_gatherMethods_25 : dc b_M_gatherMethods 25 (.getfield 121) 3 28 := ⟨by decide +kernel, rfl⟩
theorem d_M_gatherMethods_28 : db b_M_gatherMethods 28 (.if_icmp .ge 27) 27 55 31 := ⟨by decide +kernel, by decide, rfl⟩
theorem d_M_gatherMethods_31 : dc b_M_gatherMethods 31 (.aload_n 2) 1 32 := ⟨by decide +kernel, rfl⟩
theorem d_M_gatherMethods_32 : dc b_M_gatherMethods 32 (.aload_n 0) 1 33 := ⟨by decide +kernel, rfl⟩
theorem d_M_gatherMethods_33 : dc b_M_gatherMethods 33 (.getfield 22) 3 36 := ⟨by decide +kernel, rfl⟩
theorem d_M_gatherMethods_36 : dc b_M_gatherMethods 36 (.aload_n 2) 1 37 := ⟨by decide +kernel, rfl⟩
theorem d_M_gatherMethods_37 : dc b_M_gatherMethods 37 (.getfield 357) 3 40 := ⟨by decide +kernel, rfl⟩
theorem d_M_gatherMethods_40 : dc b_M_gatherMethods 40 (.iload_n 3) 1 41 := ⟨by decide +kernel, rfl⟩
theorem d_M_gatherMethods_41 : dc b_M_gatherMethods 41 (.iaload) 1 42 := ⟨by decide +kernel, rfl⟩
theorem d_M_gatherMethods_42 : dc b_M_gatherMethods 42 (.bipush 24) 2 44 := ⟨by decide +kernel, rfl⟩
theorem d_M_gatherMethods_44 : dc b_M_gatherMethods 44 (.isub) 1 45 := ⟨by decide +kernel, rfl⟩
theorem d_M_gatherMethods_45 : dc b_M_gatherMethods 45 (.aaload) 1 46 := ⟨by decide +kernel, rfl⟩
theorem d_M_gatherMethods_46 : dc b_M_gatherMethods 46 (.invokevirtual 360) 3 49 := ⟨by decide +kernel, rfl⟩
theorem d_M_gatherMethods_49 : dc b_M_gatherMethods 49 (.iinc 3 1) 3 52 := ⟨by decide +kernel, rfl⟩
theorem d_M_gatherMethods_52 : db b_M_gatherMethods 52 (.goto (-29)) (-29) 23 55 := ⟨by decide +kernel, by decide, rfl⟩
theorem d_M_gatherMethods_55 : dc b_M_gatherMethods 55 (.iinc 1 1) 3 58 := ⟨by decide +kernel, rfl⟩
theorem d_M_gatherMethods_58 : db b_M_gatherMethods 58 (.goto (-56)) (-56) 2 61 := ⟨by decide +kernel, by decide, rfl⟩
theorem d_M_gatherMethods_61 : dc b_M_gatherMethods 61 (.aload_n 0) 1 62 := ⟨by decide +kernel, rfl⟩
theorem d_M_gatherMethods_62 : dc b_M_gatherMethods 62 (.iconst 1) 1 63 := ⟨by decide +kernel, rfl⟩
theorem d_M_gatherMethods_63 : dc b_M_gatherMethods 63 (.putfield 137) 3 66 := ⟨by decide +kernel, rfl⟩
theorem d_M_gatherMethods_66 : dc b_M_gatherMethods 66 (.return_) 1 67 := ⟨by decide +kernel, rfl⟩
def f_M_gatherMethods_B23 (o : Nat) (kx55 : gS → gD → Int32 → Option (Unit × gS × gD)) (kb : gS → gD → Int32 → Option Nat → Int32 → Option (Unit × gS × gD)) (S : gS) (d : gD) (v1 : Int32) (v2 : Option Nat) (v3 : Int32) : Option (Unit × gS × gD) :=
  nn v2 fun a1 =>
  kd S a1 4 <|
  lt_ (dI d a1 5) fun x3 =>
  if x3 ≤ v3 then (
    kx55 S d v1)
  else (
    kd S o 1 <|
    lt_ (sP S o 3) fun x5 =>
    lt_ (sP S a1 4) fun x6 =>
    nn x6 fun a7 =>
    kd S a7 50 <|
    gi v3 (sN S a7) <|
    lt_ (dI d a7 v3.toNatClampNeg) fun x10 =>
    nn x5 fun a11 =>
    kd S a11 60 <|
    gi (x10 - 24) (sN S a11) <|
    lt_ (sP S a11 (x10 - 24 : Int32).toNatClampNeg) fun x14 =>
    bdP (f_Fc_gatherFrom S d a1 x14) fun _ S17 d18 =>
    kb S17 d18 v1 (some a1) (v3 + 1))
set_option maxRecDepth 100000 in
set_option maxHeartbeats 4000000 in
theorem w_M_gatherMethods_B23 {X : GX} (hE : gE X b_M_gatherMethods 4 "StandInMill" none "gatherMethods" 2 46) {o : Nat} {r : Unit} {S' : gS} {d' : gD} {kb : gS → gD → Int32 → Option Nat → Int32 → Option (Unit × gS × gD)} {kx55 : gS → gD → Int32 → Option (Unit × gS × gD)} (hkb : ∀ (S : gS) (d : gD) (v1 : Int32) (v2 : Option Nat) (v3 : Int32), kb S d v1 v2 v3 = some (r, S', d') → gw X 0 0 (gQ X (none) S' d' 0 0) S d 23 [some (va_rf (some o)), some (.int v1), some (va_rf v2), some (.int v3)] []) (hkx55 : ∀ (S : gS) (d : gD) (v1 : Int32), kx55 S d v1 = some (r, S', d') → gw X 0 0 (gQ X (none) S' d' 0 0) S d 55 [some (va_rf (some o)), some (.int v1), none, none] []) :
    ∀ (S : gS) (d : gD) (v1 : Int32) (v2 : Option Nat) (v3 : Int32), f_M_gatherMethods_B23 o kx55 kb S d v1 v2 v3 = some (r, S', d') → gw X 0 0 (gQ X (none) S' d' 0 0) S d 23 [some (va_rf (some o)), some (.int v1), some (va_rf v2), some (.int v3)] [] := by
  intro S d v1 v2 v3 h
  unfold f_M_gatherMethods_B23 at h
  refine g_iload_n (i := 3) hE d_M_gatherMethods_23 rfl rfl ?_
  refine g_aload_n (i := 2) hE d_M_gatherMethods_24 rfl rfl ?_
  obtain ⟨a1, rfl, h⟩ := nn_s h
  obtain ⟨k2, h⟩ := kd_s h
  refine g_getIN 5 hE kc_Fc k2 (Nat.le_of_ble_eq_true rfl) rfl nf_3 d_M_gatherMethods_25 (fun x3 e => ?_)
  replace h := lt_i e h; clear e
  refine g_icmp_ge hE d_M_gatherMethods_28 (fun c19 => ?_) (fun c19 => ?_)
  · replace h := if_t c19 h
    exact gw.less (lv' := [some (va_rf (some o)), some (.int v1), none, none]) (And.intro rfl (And.intro rfl trivial)) (hkx55 S d v1 h)
  · replace h := if_f c19 h
    refine g_aload_n (i := 2) hE d_M_gatherMethods_31 rfl rfl ?_
    refine g_aload_n (i := 0) hE d_M_gatherMethods_32 rfl rfl ?_
    obtain ⟨k4, h⟩ := kd_s h
    refine g_getR 3 hE kc_M k4 (Nat.le_of_ble_eq_true rfl) rfl m_44 d_M_gatherMethods_33 (fun x5 e => ?_)
    replace h := lt_i e h; clear e
    refine g_aload_n (i := 2) hE d_M_gatherMethods_36 rfl rfl ?_
    refine g_getRN 4 hE kc_Fc k2 (Nat.le_of_ble_eq_true rfl) rfl nf_15 d_M_gatherMethods_37 (fun x6 e => ?_)
    replace h := lt_i e h; clear e
    refine g_iload_n (i := 3) hE d_M_gatherMethods_40 rfl rfl ?_
    obtain ⟨a7, rfl, h⟩ := nn_s h
    obtain ⟨k8, h⟩ := kd_s h
    obtain ⟨g9, h⟩ := gi_s h
    refine g_iald hE k8 g9 d_M_gatherMethods_41 (fun x10 e => ?_)
    replace h := lt_i e h; clear e
    refine g_bipush hE d_M_gatherMethods_42 kb_24 ?_
    refine g_isub hE d_M_gatherMethods_44 ?_
    obtain ⟨a11, rfl, h⟩ := nn_s h
    obtain ⟨k12, h⟩ := kd_s h
    obtain ⟨g13, h⟩ := gi_s h
    refine g_aald hE k12 (by decide) rfl (fun _ => rfl) g13 d_M_gatherMethods_45 (fun x14 e => ?_)
    replace h := lt_i e h; clear e
    obtain ⟨x15, S17, d18, e16, h⟩ := bdP_s h
    refine g_callV (av := [.inr (.inr (some a1)), .inr (.inr x14)]) (as := [.inr (.inr x14)]) (stk := []) [] hE (c_Fc_gatherFrom (xl X) (xG X) e16) ky_Fc_gatherFrom ⟨Nat.le_of_ble_eq_true rfl, Nat.le_of_ble_eq_true rfl⟩ rfl kc_Fc k2 m_185 m_186 m_187 rfl d_M_gatherMethods_46 rfl rfl ct_0 (Nat.zero_le _) (Nat.zero_le _) ?_
    refine gw.cs (c2 := 0) (s2 := 0) rfl rfl ?_
    refine g_iinc (i := 3) (lv' := [some (va_rf (some o)), some (.int v1), some (va_rf (some a1)), some (.int (v3 + 1))]) hE d_M_gatherMethods_49 ki_1 rfl (Nat.le_of_ble_eq_true rfl) ⟨rfl, Nat.le_of_ble_eq_true rfl⟩ (lvp_r rfl) ?_
    refine g_goto hE d_M_gatherMethods_52 ?_
    exact gw.less (lv' := [some (va_rf (some o)), some (.int v1), some (va_rf (some a1)), some (.int (v3 + 1))]) (And.intro rfl (And.intro rfl (And.intro rfl (And.intro rfl trivial)))) (hkb S17 d18 v1 (some a1) (v3 + 1) h)
theorem w_M_gatherMethods_L23 {X : GX} (hE : gE X b_M_gatherMethods 4 "StandInMill" none "gatherMethods" 2 46) {o : Nat} {r : Unit} {S' : gS} {d' : gD} {kx55 : gS → gD → Int32 → Option (Unit × gS × gD)} (hkx55 : ∀ (S : gS) (d : gD) (v1 : Int32), kx55 S d v1 = some (r, S', d') → gw X 0 0 (gQ X (none) S' d' 0 0) S d 55 [some (va_rf (some o)), some (.int v1), none, none] []) : ∀ (n : Nat) (S : gS) (d : gD) (v1 : Int32) (v2 : Option Nat) (v3 : Int32), itr (f_M_gatherMethods_B23 o kx55) (fun _ _ _ _ _ => none) n S d v1 v2 v3 = some (r, S', d') → gw X 0 0 (gQ X (none) S' d' 0 0) S d 23 [some (va_rf (some o)), some (.int v1), some (va_rf v2), some (.int v3)] [] := by
  intro n
  induction n with
  | zero => intro S d v1 v2 v3 h; cases h
  | succ n ih => exact w_M_gatherMethods_B23 hE ih hkx55
def f_M_gatherMethods_J55 (o : Nat) (kx61 : gS → gD → Option (Unit × gS × gD)) (kb : gS → gD → Int32 → Option (Unit × gS × gD)) (S : gS) (d : gD) (v1 : Int32) : Option (Unit × gS × gD) :=
  kb S d (v1 + 1)
set_option maxRecDepth 100000 in
set_option maxHeartbeats 4000000 in
theorem w_M_gatherMethods_J55 {X : GX} (hE : gE X b_M_gatherMethods 4 "StandInMill" none "gatherMethods" 2 46) {o : Nat} {r : Unit} {S' : gS} {d' : gD} {kb : gS → gD → Int32 → Option (Unit × gS × gD)} {kx61 : gS → gD → Option (Unit × gS × gD)} (hkb : ∀ (S : gS) (d : gD) (v1 : Int32), kb S d v1 = some (r, S', d') → gw X 0 0 (gQ X (none) S' d' 0 0) S d 2 [some (va_rf (some o)), some (.int v1), none, none] []) (hkx61 : ∀ (S : gS) (d : gD), kx61 S d = some (r, S', d') → gw X 0 0 (gQ X (none) S' d' 0 0) S d 61 [some (va_rf (some o)), none, none, none] []) :
    ∀ (S : gS) (d : gD) (v1 : Int32), f_M_gatherMethods_J55 o kx61 kb S d v1 = some (r, S', d') → gw X 0 0 (gQ X (none) S' d' 0 0) S d 55 [some (va_rf (some o)), some (.int v1), none, none] [] := by
  intro S d v1 h
  unfold f_M_gatherMethods_J55 at h
  refine g_iinc (i := 1) (lv' := [some (va_rf (some o)), some (.int (v1 + 1)), none, none]) hE d_M_gatherMethods_55 ki_1 rfl (Nat.le_of_ble_eq_true rfl) ⟨rfl, Nat.le_of_ble_eq_true rfl⟩ (lvp_r rfl) ?_
  refine g_goto hE d_M_gatherMethods_58 ?_
  exact gw.less (lv' := [some (va_rf (some o)), some (.int (v1 + 1)), none, none]) (And.intro rfl (And.intro rfl trivial)) (hkb S d (v1 + 1) h)
def f_M_gatherMethods_B2 (o : Nat) (kx61 : gS → gD → Option (Unit × gS × gD)) (kb : gS → gD → Int32 → Option (Unit × gS × gD)) (S : gS) (d : gD) (v1 : Int32) : Option (Unit × gS × gD) :=
  kd S o 1 <|
  lt_ (dI d o 4) fun x2 =>
  if x2 ≤ v1 then (
    kx61 S d)
  else (
    lt_ (sP S o 3) fun x3 =>
    nn x3 fun a4 =>
    kd S a4 60 <|
    gi v1 (sN S a4) <|
    lt_ (sP S a4 v1.toNatClampNeg) fun x7 =>
    nn x7 fun a8 =>
    kd S a8 4 <|
    bdP (f_Fc_gatherOwn S d a8) fun _ S12 d13 =>
    itr (f_M_gatherMethods_B23 o (f_M_gatherMethods_J55 o kx61 kb)) (fun _ _ _ _ _ => none) fu S12 d13 v1 (some a8) 0)
set_option maxRecDepth 100000 in
set_option maxHeartbeats 4000000 in
theorem w_M_gatherMethods_B2 {X : GX} (hE : gE X b_M_gatherMethods 4 "StandInMill" none "gatherMethods" 2 46) {o : Nat} {r : Unit} {S' : gS} {d' : gD} {kb : gS → gD → Int32 → Option (Unit × gS × gD)} {kx61 : gS → gD → Option (Unit × gS × gD)} (hkb : ∀ (S : gS) (d : gD) (v1 : Int32), kb S d v1 = some (r, S', d') → gw X 0 0 (gQ X (none) S' d' 0 0) S d 2 [some (va_rf (some o)), some (.int v1), none, none] []) (hkx61 : ∀ (S : gS) (d : gD), kx61 S d = some (r, S', d') → gw X 0 0 (gQ X (none) S' d' 0 0) S d 61 [some (va_rf (some o)), none, none, none] []) :
    ∀ (S : gS) (d : gD) (v1 : Int32), f_M_gatherMethods_B2 o kx61 kb S d v1 = some (r, S', d') → gw X 0 0 (gQ X (none) S' d' 0 0) S d 2 [some (va_rf (some o)), some (.int v1), none, none] [] := by
  intro S d v1 h
  unfold f_M_gatherMethods_B2 at h
  refine g_iload_n (i := 1) hE d_M_gatherMethods_2 rfl rfl ?_
  refine g_aload_n (i := 0) hE d_M_gatherMethods_3 rfl rfl ?_
  obtain ⟨k1, h⟩ := kd_s h
  refine g_getI 4 hE kc_M k1 (Nat.le_of_ble_eq_true rfl) rfl m_84 d_M_gatherMethods_4 (fun x2 e => ?_)
  replace h := lt_i e h; clear e
  refine g_icmp_ge hE d_M_gatherMethods_7 (fun c14 => ?_) (fun c14 => ?_)
  · replace h := if_t c14 h
    exact gw.less (lv' := [some (va_rf (some o)), none, none, none]) (And.intro rfl trivial) (hkx61 S d h)
  · replace h := if_f c14 h
    refine g_aload_n (i := 0) hE d_M_gatherMethods_10 rfl rfl ?_
    refine g_getR 3 hE kc_M k1 (Nat.le_of_ble_eq_true rfl) rfl m_44 d_M_gatherMethods_11 (fun x3 e => ?_)
    replace h := lt_i e h; clear e
    refine g_iload_n (i := 1) hE d_M_gatherMethods_14 rfl rfl ?_
    obtain ⟨a4, rfl, h⟩ := nn_s h
    obtain ⟨k5, h⟩ := kd_s h
    obtain ⟨g6, h⟩ := gi_s h
    refine g_aald hE k5 (by decide) rfl (fun _ => rfl) g6 d_M_gatherMethods_15 (fun x7 e => ?_)
    replace h := lt_i e h; clear e
    refine g_astore_n (i := 2) (lv' := [some (va_rf (some o)), some (.int v1), some (va_rf x7), none]) hE d_M_gatherMethods_16 rfl (Nat.le_of_ble_eq_true rfl) ⟨rfl, Nat.le_of_ble_eq_true rfl⟩ (lvp_i rfl) ?_
    refine g_aload_n (i := 2) hE d_M_gatherMethods_17 rfl rfl ?_
    obtain ⟨a8, rfl, h⟩ := nn_s h
    obtain ⟨k9, h⟩ := kd_s h
    obtain ⟨x10, S12, d13, e11, h⟩ := bdP_s h
    refine g_callV (av := [.inr (.inr (some a8))]) (as := []) (stk := []) [] hE (c_Fc_gatherOwn (xl X) (xG X) e11) ky_Fc_gatherOwn ⟨Nat.le_of_ble_eq_true rfl, Nat.le_of_ble_eq_true rfl⟩ rfl kc_Fc k9 m_182 m_183 m_184 rfl d_M_gatherMethods_18 rfl rfl ct_0 (Nat.zero_le _) (Nat.zero_le _) ?_
    refine gw.cs (c2 := 0) (s2 := 0) rfl rfl ?_
    refine g_iconst hE d_M_gatherMethods_21 ki_0 ?_
    refine g_istore_n (i := 3) (lv' := [some (va_rf (some o)), some (.int v1), some (va_rf (some a8)), some (.int 0)]) hE d_M_gatherMethods_22 rfl (Nat.le_of_ble_eq_true rfl) ⟨rfl, Nat.le_of_ble_eq_true rfl⟩ (lvp_r rfl) ?_
    exact gw.less (lv' := [some (va_rf (some o)), some (.int v1), some (va_rf (some a8)), some (.int 0)]) (And.intro rfl (And.intro rfl (And.intro rfl (And.intro rfl trivial)))) (w_M_gatherMethods_L23 hE (w_M_gatherMethods_J55 hE hkb hkx61) fu S12 d13 v1 (some a8) 0 h)
theorem w_M_gatherMethods_L2 {X : GX} (hE : gE X b_M_gatherMethods 4 "StandInMill" none "gatherMethods" 2 46) {o : Nat} {r : Unit} {S' : gS} {d' : gD} {kx61 : gS → gD → Option (Unit × gS × gD)} (hkx61 : ∀ (S : gS) (d : gD), kx61 S d = some (r, S', d') → gw X 0 0 (gQ X (none) S' d' 0 0) S d 61 [some (va_rf (some o)), none, none, none] []) : ∀ (n : Nat) (S : gS) (d : gD) (v1 : Int32), itr (f_M_gatherMethods_B2 o kx61) (fun _ _ _ => none) n S d v1 = some (r, S', d') → gw X 0 0 (gQ X (none) S' d' 0 0) S d 2 [some (va_rf (some o)), some (.int v1), none, none] [] := by
  intro n
  induction n with
  | zero => intro S d v1 h; cases h
  | succ n ih => exact w_M_gatherMethods_B2 hE ih hkx61
def f_M_gatherMethods_J61 (o : Nat) (S : gS) (d : gD) : Option (Unit × gS × gD) :=
  kd S o 1 <|
  lt_ (wI d o 13 1) fun d3 =>
  some ((), S, d3)
set_option maxRecDepth 100000 in
set_option maxHeartbeats 4000000 in
theorem w_M_gatherMethods_J61 {X : GX} (hE : gE X b_M_gatherMethods 4 "StandInMill" none "gatherMethods" 2 46) {o : Nat} {r : Unit} {S' : gS} {d' : gD} :
    ∀ (S : gS) (d : gD), f_M_gatherMethods_J61 o S d = some (r, S', d') → gw X 0 0 (gQ X (none) S' d' 0 0) S d 61 [some (va_rf (some o)), none, none, none] [] := by
  intro S d h
  unfold f_M_gatherMethods_J61 at h
  refine g_aload_n (i := 0) hE d_M_gatherMethods_61 rfl rfl ?_
  refine g_iconst hE d_M_gatherMethods_62 ki_1 ?_
  obtain ⟨k1, h⟩ := kd_s h
  refine g_putZ 13 hE kc_M k1 (Nat.le_of_ble_eq_true rfl) rfl m_127 rfl (by decide +kernel) (Or.inr rfl) d_M_gatherMethods_63 (fun d3 e => ?_)
  replace h := lt_i e h; clear e
  cases h
  exact g_vret hE d_M_gatherMethods_66 rfl rfl
set_option maxRecDepth 100000 in
def f_M_gatherMethods (S : gS) (d : gD) (o : Nat) : Option (Unit × gS × gD) :=
  itr (f_M_gatherMethods_B2 o (f_M_gatherMethods_J61 o)) (fun _ _ _ => none) fu S d 0
set_option maxRecDepth 100000 in
set_option maxHeartbeats 4000000 in
theorem c_M_gatherMethods (l : Launch) (G : gG) {S : gS} {d : gD} {o : Nat} {r : Unit} {d' : gD} {S' : gS} (h : f_M_gatherMethods S d o = some (r, S', d')) : GM l G y_M_gatherMethods b_M_gatherMethods 4 none 2 46 0 0 [.inr (.inr (some o))] S d (none) S' d' := by
  refine GM.of (by decide) (Nat.le_of_ble_eq_true rfl) ?_
  intro X hl0 hG0 hR0 hE0
  have hE : gE X b_M_gatherMethods 4 "StandInMill" none "gatherMethods" 2 46 := hE0
  unfold f_M_gatherMethods at h
  refine gw.less (lv' := [some (va_rf (some o)), none, none, none]) (And.intro rfl trivial) ?_
  refine g_iconst hE d_M_gatherMethods_0 ki_0 ?_
  refine g_istore_n (i := 1) (lv' := [some (va_rf (some o)), some (.int 0), none, none]) hE d_M_gatherMethods_1 rfl (Nat.le_of_ble_eq_true rfl) ⟨rfl, Nat.le_of_ble_eq_true rfl⟩ (lvp_r rfl) ?_
  exact gw.less (lv' := [some (va_rf (some o)), some (.int 0), none, none]) (And.intro rfl (And.intro rfl trivial)) (w_M_gatherMethods_L2 hE (w_M_gatherMethods_J61 hE) fu S d 0 h)
theorem d_Dr_clear_0 : dc b_Dr_clear 0 (.aload_n 0) 1 1 := ⟨by decide +kernel, rfl⟩
theorem d_Dr_clear_1 : dc b_Dr_clear 1 (.iconst 0) 1 2 := ⟨by decide +kernel, rfl⟩
theorem d_Dr_clear_2 : dc b_Dr_clear 2 (.putfield 30) 3 5 := ⟨by decide +kernel, rfl⟩
theorem d_Dr_clear_5 : dc b_Dr_clear 5 (.return_) 1 6 := ⟨by decide +kernel, rfl⟩
set_option maxRecDepth 100000 in
def f_Dr_clear (S : gS) (d : gD) (o : Nat) : Option (Unit × gD) :=
  kd S o 3 <|
  lt_ (wI d o 2 0) fun d2 =>
  some ((), d2)
set_option maxRecDepth 100000 in
set_option maxHeartbeats 4000000 in
theorem c_Dr_clear (l : Launch) (G : gG) {S : gS} {d : gD} {o : Nat} {r : Unit} {d' : gD} (h : f_Dr_clear S d o = some (r, d')) : GM l G y_Dr_clear b_Dr_clear 1 none 0 0 0 0 [.inr (.inr (some o))] S d (none) S d' := by
  refine GM.of (by decide) (Nat.le_of_ble_eq_true rfl) ?_
  intro X hl0 hG0 hR0 hE0
  have hE : gE X b_Dr_clear 1 "StandInMill$Draft" none "clear" 0 0 := hE0
  unfold f_Dr_clear at h
  refine gw.less (lv' := [some (va_rf (some o))]) (And.intro rfl trivial) ?_
  refine g_aload_n (i := 0) hE d_Dr_clear_0 rfl rfl ?_
  refine g_iconst hE d_Dr_clear_1 ki_0 ?_
  obtain ⟨k1, h⟩ := kd_s h
  refine g_putI 2 hE kc_Dr k1 (Nat.le_of_ble_eq_true rfl) rfl m_188 rfl (by decide +kernel) d_Dr_clear_2 (fun d2 e => ?_)
  replace h := lt_i e h; clear e
  cases h
  exact g_vret hE d_Dr_clear_5 rfl rfl
theorem d_Om_hasSignatureOf_0 : dc b_Om_hasSignatureOf 0 (.aload_n 0) 1 1 := ⟨by decide +kernel, rfl⟩
theorem d_Om_hasSignatureOf_1 : dc b_Om_hasSignatureOf 1 (.getfield 27) 3 4 := ⟨by decide +kernel, rfl⟩
theorem d_Om_hasSignatureOf_4 : dc b_Om_hasSignatureOf 4 (.aload_n 1) 1 5 := ⟨by decide +kernel, rfl⟩
theorem d_Om_hasSignatureOf_5 : dc b_Om_hasSignatureOf 5 (.getfield 27) 3 8 := ⟨by decide +kernel, rfl⟩
theorem d_Om_hasSignatureOf_8 : db b_Om_hasSignatureOf 8 (.if_icmp .ne 18) 18 26 11 := ⟨by decide +kernel, by decide, rfl⟩
theorem d_Om_hasSignatureOf_11 : dc b_Om_hasSignatureOf 11 (.aload_n 0) 1 12 := ⟨by decide +kernel, rfl⟩
theorem d_Om_hasSignatureOf_12 : dc b_Om_hasSignatureOf 12 (.getfield 30) 3 15 := ⟨by decide +kernel, rfl⟩
theorem d_Om_hasSignatureOf_15 : dc b_Om_hasSignatureOf 15 (.aload_n 1) 1 16 := ⟨by decide +kernel, rfl⟩
theorem d_Om_hasSignatureOf_16 : dc b_Om_hasSignatureOf 16 (.getfield 30) 3 19 := ⟨by decide +kernel, rfl⟩
theorem d_Om_hasSignatureOf_19 : db b_Om_hasSignatureOf 19 (.if_icmp .ne 7) 7 26 22 := ⟨by decide +kernel, by decide, rfl⟩
theorem d_Om_hasSignatureOf_22 : dc b_Om_hasSignatureOf 22 (.iconst 1) 1 23 := ⟨by decide +kernel, rfl⟩
theorem d_Om_hasSignatureOf_23 : db b_Om_hasSignatureOf 23 (.goto 4) 4 27 26 := ⟨by decide +kernel, by decide, rfl⟩
theorem d_Om_hasSignatureOf_26 : dc b_Om_hasSignatureOf 26 (.iconst 0) 1 27 := ⟨by decide +kernel, rfl⟩
theorem d_Om_hasSignatureOf_27 : dc b_Om_hasSignatureOf 27 (.ireturn) 1 28 := ⟨by decide +kernel, rfl⟩
set_option maxRecDepth 100000 in
def f_Om_hasSignatureOf (S : gS) (d : gD) (o : Nat) (v1 : Option Nat) : Option (Int32) :=
  kd S o 5 <|
  lt_ (dI d o 2) fun x2 =>
  nn v1 fun a3 =>
  kd S a3 5 <|
  lt_ (dI d a3 2) fun x5 =>
  if x2 = x5 then (
    lt_ (dI d o 3) fun x6 =>
    lt_ (dI d a3 3) fun x7 =>
    if x6 = x7 then (
      some 1)
    else (
      some 0))
  else (
    some 0)
set_option maxRecDepth 100000 in
set_option maxHeartbeats 4000000 in
theorem c_Om_hasSignatureOf (l : Launch) (G : gG) {S : gS} {d : gD} {o : Nat} {v1 : Option Nat} {r : Int32} (h : f_Om_hasSignatureOf S d o v1 = some r) : GM l G y_Om_hasSignatureOf b_Om_hasSignatureOf 2 (some (.boolean)) 0 0 0 0 [.inr (.inr (some o)), .inr (.inr v1)] S d (some (.int r)) S d := by
  refine GM.of (by decide) (Nat.le_of_ble_eq_true rfl) ?_
  intro X hl0 hG0 hR0 hE0
  have hE : gE X b_Om_hasSignatureOf 2 "StandInMill$OwnMethod" (some (.boolean)) "hasSignatureOf" 0 0 := hE0
  unfold f_Om_hasSignatureOf at h
  refine gw.less (lv' := [some (va_rf (some o)), some (va_rf v1)]) (And.intro rfl (And.intro rfl trivial)) ?_
  refine g_aload_n (i := 0) hE d_Om_hasSignatureOf_0 rfl rfl ?_
  obtain ⟨k1, h⟩ := kd_s h
  refine g_getI 2 hE kc_Om k1 (Nat.le_of_ble_eq_true rfl) rfl m_32 d_Om_hasSignatureOf_1 (fun x2 e => ?_)
  replace h := lt_i e h; clear e
  refine g_aload_n (i := 1) hE d_Om_hasSignatureOf_4 rfl rfl ?_
  obtain ⟨a3, rfl, h⟩ := nn_s h
  obtain ⟨k4, h⟩ := kd_s h
  refine g_getI 2 hE kc_Om k4 (Nat.le_of_ble_eq_true rfl) rfl m_32 d_Om_hasSignatureOf_5 (fun x5 e => ?_)
  replace h := lt_i e h; clear e
  refine g_icmp_ne hE d_Om_hasSignatureOf_8 (fun c9 => ?_) (fun c9 => ?_)
  · replace h := if_f c9 h
    refine g_iconst hE d_Om_hasSignatureOf_26 ki_0 ?_
    cases h
    exact g_zret hE (Or.inl rfl) d_Om_hasSignatureOf_27 rfl rfl
  · replace h := if_t c9 h
    refine g_aload_n (i := 0) hE d_Om_hasSignatureOf_11 rfl rfl ?_
    refine g_getI 3 hE kc_Om k1 (Nat.le_of_ble_eq_true rfl) rfl m_33 d_Om_hasSignatureOf_12 (fun x6 e => ?_)
    replace h := lt_i e h; clear e
    refine g_aload_n (i := 1) hE d_Om_hasSignatureOf_15 rfl rfl ?_
    refine g_getI 3 hE kc_Om k4 (Nat.le_of_ble_eq_true rfl) rfl m_33 d_Om_hasSignatureOf_16 (fun x7 e => ?_)
    replace h := lt_i e h; clear e
    refine g_icmp_ne hE d_Om_hasSignatureOf_19 (fun c8 => ?_) (fun c8 => ?_)
    · replace h := if_f c8 h
      refine g_iconst hE d_Om_hasSignatureOf_26 ki_0 ?_
      cases h
      exact g_zret hE (Or.inl rfl) d_Om_hasSignatureOf_27 rfl rfl
    · replace h := if_t c8 h
      refine g_iconst hE d_Om_hasSignatureOf_22 ki_1 ?_
      refine g_goto hE d_Om_hasSignatureOf_23 ?_
      cases h
      exact g_zret hE (Or.inr rfl) d_Om_hasSignatureOf_27 rfl rfl
theorem d_Rw_clear_0 : dc b_Rw_clear 0 (.aload_n 0) 1 1 := ⟨by decide +kernel, rfl⟩
theorem d_Rw_clear_1 : dc b_Rw_clear 1 (.iconst 0) 1 2 := ⟨by decide +kernel, rfl⟩
theorem d_Rw_clear_2 : dc b_Rw_clear 2 (.putfield 15) 3 5 := ⟨by decide +kernel, rfl⟩
theorem d_Rw_clear_5 : dc b_Rw_clear 5 (.return_) 1 6 := ⟨by decide +kernel, rfl⟩
set_option maxRecDepth 100000 in
def f_Rw_clear (S : gS) (d : gD) (o : Nat) : Option (Unit × gD) :=
  kd S o 2 <|
  lt_ (wI d o 1 0) fun d2 =>
  some ((), d2)
set_option maxRecDepth 100000 in
set_option maxHeartbeats 4000000 in
theorem c_Rw_clear (l : Launch) (G : gG) {S : gS} {d : gD} {o : Nat} {r : Unit} {d' : gD} (h : f_Rw_clear S d o = some (r, d')) : GM l G y_Rw_clear b_Rw_clear 1 none 0 0 0 0 [.inr (.inr (some o))] S d (none) S d' := by
  refine GM.of (by decide) (Nat.le_of_ble_eq_true rfl) ?_
  intro X hl0 hG0 hR0 hE0
  have hE : gE X b_Rw_clear 1 "StandInMill$ClassRow" none "clear" 0 0 := hE0
  unfold f_Rw_clear at h
  refine gw.less (lv' := [some (va_rf (some o))]) (And.intro rfl trivial) ?_
  refine g_aload_n (i := 0) hE d_Rw_clear_0 rfl rfl ?_
  refine g_iconst hE d_Rw_clear_1 ki_0 ?_
  obtain ⟨k1, h⟩ := kd_s h
  refine g_putI 1 hE kc_Rw k1 (Nat.le_of_ble_eq_true rfl) rfl m_151 rfl (by decide +kernel) d_Rw_clear_2 (fun d2 e => ?_)
  replace h := lt_i e h; clear e
  cases h
  exact g_vret hE d_Rw_clear_5 rfl rfl
theorem d_Rw_copyFrom_0 : dc b_Rw_copyFrom 0 (.aload_n 0) 1 1 := ⟨by decide +kernel, rfl⟩
theorem d_Rw_copyFrom_1 : dc b_Rw_copyFrom 1 (.invokevirtual 27) 3 4 := ⟨by decide +kernel, rfl⟩
theorem d_Rw_copyFrom_4 : dc b_Rw_copyFrom 4 (.iconst 0) 1 5 := ⟨by decide +kernel, rfl⟩
theorem d_Rw_copyFrom_5 : dc b_Rw_copyFrom 5 (.istore_n 2) 1 6 := ⟨by decide +kernel, rfl⟩
theorem d_Rw_copyFrom_6 : dc b_Rw_copyFrom 6 (.iload_n 2) 1 7 := ⟨by decide +kernel, rfl⟩
theorem d_Rw_copyFrom_7 : dc b_Rw_copyFrom 7 (.aload_n 1) 1 8 := ⟨by decide +kernel, rfl⟩
theorem d_Rw_copyFrom_8 : dc b_Rw_copyFrom 8 (.getfield 15) 3 11 := ⟨by decide +kernel, rfl⟩
theorem d_Rw_copyFrom_11 : db b_Rw_copyFrom 11 (.if_icmp .ge 19) 19 30 14 := ⟨by decide +kernel, by decide, rfl⟩
theorem d_Rw_copyFrom_14 : dc b_Rw_copyFrom 14 (.aload_n 0) 1 15 := ⟨by decide +kernel, rfl⟩
theorem d_Rw_copyFrom_15 : dc b_Rw_copyFrom 15 (.aload_n 1) 1 16 := ⟨by decide +kernel, rfl⟩
theorem d_Rw_copyFrom_16 : dc b_Rw_copyFrom 16 (.getfield 9) 3 19 := ⟨by decide +kernel, rfl⟩
theorem d_Rw_copyFrom_19 : dc b_Rw_copyFrom 19 (.iload_n 2) 1 20 := ⟨by decide +kernel, rfl⟩
theorem d_Rw_copyFrom_20 : dc b_Rw_copyFrom 20 (.iaload) 1 21 := ⟨by decide +kernel, rfl⟩
theorem d_Rw_copyFrom_21 : dc b_Rw_copyFrom 21 (.invokevirtual 30) 3 24 := ⟨by decide +kernel, rfl⟩
theorem d_Rw_copyFrom_24 : dc b_Rw_copyFrom 24 (.iinc 2 1) 3 27 := ⟨by decide +kernel, rfl⟩
theorem d_Rw_copyFrom_27 : db b_Rw_copyFrom 27 (.goto (-21)) (-21) 6 30 := ⟨by decide +kernel, by decide, rfl⟩
theorem d_Rw_copyFrom_30 : dc b_Rw_copyFrom 30 (.return_) 1 31 := ⟨by decide +kernel, rfl⟩
def f_Rw_copyFrom_B6 (S : gS) (o : Nat) (kb : gD → Option Nat → Int32 → Option (Unit × gD)) (d : gD) (v1 : Option Nat) (v2 : Int32) : Option (Unit × gD) :=
  nn v1 fun a1 =>
  kd S a1 2 <|
  lt_ (dI d a1 1) fun x3 =>
  if x3 ≤ v2 then (
    some ((), d))
  else (
    lt_ (sP S a1 0) fun x4 =>
    nn x4 fun a5 =>
    kd S a5 50 <|
    gi v2 (sN S a5) <|
    lt_ (dI d a5 v2.toNatClampNeg) fun x8 =>
    kd S o 2 <|
    bdD (f_Rw_add S d o x8) fun _ d12 =>
    kb d12 (some a1) (v2 + 1))
set_option maxRecDepth 100000 in
set_option maxHeartbeats 4000000 in
theorem w_Rw_copyFrom_B6 {X : GX} (hE : gE X b_Rw_copyFrom 3 "StandInMill$ClassRow" none "copyFrom" 2 43) {S : gS} {o : Nat} {r : Unit} {d' : gD} {kb : gD → Option Nat → Int32 → Option (Unit × gD)} (hkb : ∀ (d : gD) (v1 : Option Nat) (v2 : Int32), kb d v1 v2 = some (r, d') → gw X 0 0 (gQ X (none) S d' 0 0) S d 6 [some (va_rf (some o)), some (va_rf v1), some (.int v2)] []) :
    ∀ (d : gD) (v1 : Option Nat) (v2 : Int32), f_Rw_copyFrom_B6 S o kb d v1 v2 = some (r, d') → gw X 0 0 (gQ X (none) S d' 0 0) S d 6 [some (va_rf (some o)), some (va_rf v1), some (.int v2)] [] := by
  intro d v1 v2 h
  unfold f_Rw_copyFrom_B6 at h
  refine g_iload_n (i := 2) hE d_Rw_copyFrom_6 rfl rfl ?_
  refine g_aload_n (i := 1) hE d_Rw_copyFrom_7 rfl rfl ?_
  obtain ⟨a1, rfl, h⟩ := nn_s h
  obtain ⟨k2, h⟩ := kd_s h
  refine g_getI 1 hE kc_Rw k2 (Nat.le_of_ble_eq_true rfl) rfl m_151 d_Rw_copyFrom_8 (fun x3 e => ?_)
  replace h := lt_i e h; clear e
  refine g_icmp_ge hE d_Rw_copyFrom_11 (fun c13 => ?_) (fun c13 => ?_)
  · replace h := if_t c13 h
    cases h
    exact g_vret hE d_Rw_copyFrom_30 rfl rfl
  · replace h := if_f c13 h
    refine g_aload_n (i := 0) hE d_Rw_copyFrom_14 rfl rfl ?_
    refine g_aload_n (i := 1) hE d_Rw_copyFrom_15 rfl rfl ?_
    refine g_getR 0 hE kc_Rw k2 (Nat.le_of_ble_eq_true rfl) rfl m_10 d_Rw_copyFrom_16 (fun x4 e => ?_)
    replace h := lt_i e h; clear e
    refine g_iload_n (i := 2) hE d_Rw_copyFrom_19 rfl rfl ?_
    obtain ⟨a5, rfl, h⟩ := nn_s h
    obtain ⟨k6, h⟩ := kd_s h
    obtain ⟨g7, h⟩ := gi_s h
    refine g_iald hE k6 g7 d_Rw_copyFrom_20 (fun x8 e => ?_)
    replace h := lt_i e h; clear e
    obtain ⟨k9, h⟩ := kd_s h
    obtain ⟨x10, d12, e11, h⟩ := bdD_s h
    refine g_callV (av := [.inr (.inr (some o)), .inl x8]) (as := [.inl x8]) (stk := []) [] hE (c_Rw_add (xl X) (xG X) e11) ky_Rw_add ⟨Nat.le_of_ble_eq_true rfl, Nat.le_of_ble_eq_true rfl⟩ rfl kc_Rw k9 m_192 m_158 m_159 rfl d_Rw_copyFrom_21 rfl rfl ct_0 (Nat.zero_le _) (Nat.zero_le _) ?_
    refine gw.cs (c2 := 0) (s2 := 0) rfl rfl ?_
    refine g_iinc (i := 2) (lv' := [some (va_rf (some o)), some (va_rf (some a1)), some (.int (v2 + 1))]) hE d_Rw_copyFrom_24 ki_1 rfl (Nat.le_of_ble_eq_true rfl) ⟨rfl, Nat.le_of_ble_eq_true rfl⟩ (lvp_r rfl) ?_
    refine g_goto hE d_Rw_copyFrom_27 ?_
    exact gw.less (lv' := [some (va_rf (some o)), some (va_rf (some a1)), some (.int (v2 + 1))]) (And.intro rfl (And.intro rfl (And.intro rfl trivial))) (hkb d12 (some a1) (v2 + 1) h)
theorem w_Rw_copyFrom_L6 {X : GX} (hE : gE X b_Rw_copyFrom 3 "StandInMill$ClassRow" none "copyFrom" 2 43) {S : gS} {o : Nat} {r : Unit} {d' : gD} : ∀ (n : Nat) (d : gD) (v1 : Option Nat) (v2 : Int32), itr (f_Rw_copyFrom_B6 S o) (fun _ _ _ => none) n d v1 v2 = some (r, d') → gw X 0 0 (gQ X (none) S d' 0 0) S d 6 [some (va_rf (some o)), some (va_rf v1), some (.int v2)] [] := by
  intro n
  induction n with
  | zero => intro d v1 v2 h; cases h
  | succ n ih => exact w_Rw_copyFrom_B6 hE ih
set_option maxRecDepth 100000 in
def f_Rw_copyFrom (S : gS) (d : gD) (o : Nat) (v1 : Option Nat) : Option (Unit × gD) :=
  kd S o 2 <|
  bdD (f_Rw_clear S d o) fun _ d4 =>
  itr (f_Rw_copyFrom_B6 S o) (fun _ _ _ => none) fu d4 v1 0
set_option maxRecDepth 100000 in
set_option maxHeartbeats 4000000 in
theorem c_Rw_copyFrom (l : Launch) (G : gG) {S : gS} {d : gD} {o : Nat} {v1 : Option Nat} {r : Unit} {d' : gD} (h : f_Rw_copyFrom S d o v1 = some (r, d')) : GM l G y_Rw_copyFrom b_Rw_copyFrom 3 none 2 43 0 0 [.inr (.inr (some o)), .inr (.inr v1)] S d (none) S d' := by
  refine GM.of (by decide) (Nat.le_of_ble_eq_true rfl) ?_
  intro X hl0 hG0 hR0 hE0
  have hE : gE X b_Rw_copyFrom 3 "StandInMill$ClassRow" none "copyFrom" 2 43 := hE0
  unfold f_Rw_copyFrom at h
  refine gw.less (lv' := [some (va_rf (some o)), some (va_rf v1), none]) (And.intro rfl (And.intro rfl trivial)) ?_
  refine g_aload_n (i := 0) hE d_Rw_copyFrom_0 rfl rfl ?_
  obtain ⟨k1, h⟩ := kd_s h
  obtain ⟨x2, d4, e3, h⟩ := bdD_s h
  refine g_callV (av := [.inr (.inr (some o))]) (as := []) (stk := []) [] hE (c_Rw_clear (xl X) (xG X) e3) ky_Rw_clear ⟨Nat.le_of_ble_eq_true rfl, Nat.le_of_ble_eq_true rfl⟩ rfl kc_Rw k1 m_189 m_190 m_191 rfl d_Rw_copyFrom_1 rfl rfl ct_0 (Nat.zero_le _) (Nat.zero_le _) ?_
  refine gw.cs (c2 := 0) (s2 := 0) rfl rfl ?_
  refine g_iconst hE d_Rw_copyFrom_4 ki_0 ?_
  refine g_istore_n (i := 2) (lv' := [some (va_rf (some o)), some (va_rf v1), some (.int 0)]) hE d_Rw_copyFrom_5 rfl (Nat.le_of_ble_eq_true rfl) ⟨rfl, Nat.le_of_ble_eq_true rfl⟩ (lvp_r rfl) ?_
  exact gw.less (lv' := [some (va_rf (some o)), some (va_rf v1), some (.int 0)]) (And.intro rfl (And.intro rfl (And.intro rfl trivial))) (w_Rw_copyFrom_L6 hE fu d4 v1 0 h)
theorem d_Ty_isBelowOneOf_0 : dc b_Ty_isBelowOneOf 0 (.iconst 0) 1 1 := ⟨by decide +kernel, rfl⟩
theorem d_Ty_isBelowOneOf_1 : dc b_Ty_isBelowOneOf 1 (.istore_n 3) 1 2 := ⟨by decide +kernel, rfl⟩
theorem d_Ty_isBelowOneOf_2 : dc b_Ty_isBelowOneOf 2 (.iload_n 3) 1 3 := ⟨by decide +kernel, rfl⟩
theorem d_Ty_isBelowOneOf_3 : dc b_Ty_isBelowOneOf 3 (.aload_n 2) 1 4 := ⟨by decide +kernel, rfl⟩
theorem d_Ty_isBelowOneOf_4 : dc b_Ty_isBelowOneOf 4 (.getfield 37) 3 7 := ⟨by decide +kernel, rfl⟩
theorem d_Ty_isBelowOneOf_7 : db b_Ty_isBelowOneOf 7 (.if_icmp .ge 25) 25 32 10 := ⟨by decide +kernel, by decide, rfl⟩
theorem d_Ty_isBelowOneOf_10 : dc b_Ty_isBelowOneOf 10 (.aload_n 0) 1 11 := ⟨by decide +kernel, rfl⟩
theorem d_Ty_isBelowOneOf_11 : dc b_Ty_isBelowOneOf 11 (.iload_n 1) 1 12 := ⟨by decide +kernel, rfl⟩
theorem d_Ty_isBelowOneOf_12 : dc b_Ty_isBelowOneOf 12 (.aload_n 2) 1 13 := ⟨by decide +kernel, rfl⟩
theorem d_Ty_isBelowOneOf_13 : dc b_Ty_isBelowOneOf 13 (.getfield 42) 3 16 := ⟨by decide +kernel, rfl⟩
theorem d_Ty_isBelowOneOf_16 : dc b_Ty_isBelowOneOf 16 (.iload_n 3) 1 17 := ⟨by decide +kernel, rfl⟩
theorem d_Ty_isBelowOneOf_17 : dc b_Ty_isBelowOneOf 17 (.iaload) 1 18 := ⟨by decide +kernel, rfl⟩
theorem d_Ty_isBelowOneOf_18 : dc b_Ty_isBelowOneOf 18 (.invokevirtual 27) 3 21 := ⟨by decide +kernel, rfl⟩
theorem d_Ty_isBelowOneOf_21 : db b_Ty_isBelowOneOf 21 (.ifCond .eq 5) 5 26 24 := ⟨by decide +kernel, by decide, rfl⟩
theorem d_Ty_isBelowOneOf_24 : dc b_Ty_isBelowOneOf 24 (.iconst 1) 1 25 := ⟨by decide +kernel, rfl⟩
theorem d_Ty_isBelowOneOf_25 : dc b_Ty_isBelowOneOf 25 (.ireturn) 1 26 := ⟨by decide +kernel, rfl⟩
theorem d_Ty_isBelowOneOf_26 : dc b_Ty_isBelowOneOf 26 (.iinc 3 1) 3 29 := ⟨by decide +kernel, rfl⟩
theorem d_Ty_isBelowOneOf_29 : db b_Ty_isBelowOneOf 29 (.goto (-27)) (-27) 2 32 := ⟨by decide +kernel, by decide, rfl⟩
theorem d_Ty_isBelowOneOf_32 : dc b_Ty_isBelowOneOf 32 (.iconst 0) 1 33 := ⟨by decide +kernel, rfl⟩
theorem d_Ty_isBelowOneOf_33 : dc b_Ty_isBelowOneOf 33 (.ireturn) 1 34 := ⟨by decide +kernel, rfl⟩
def f_Ty_isBelowOneOf_B2 (S : gS) (d : gD) (o : Nat) (kb : Int32 → Option Nat → Int32 → Option (Int32)) (v1 : Int32) (v2 : Option Nat) (v3 : Int32) : Option (Int32) :=
  nn v2 fun a1 =>
  kd S a1 2 <|
  lt_ (dI d a1 1) fun x3 =>
  if x3 ≤ v3 then (
    some 0)
  else (
    lt_ (sP S a1 0) fun x4 =>
    nn x4 fun a5 =>
    kd S a5 50 <|
    gi v3 (sN S a5) <|
    lt_ (dI d a5 v3.toNatClampNeg) fun x8 =>
    kd S o 8 <|
    bd (f_Ty_isBelow S d o v1 x8) fun x10 =>
    if x10 = 0 then (
      kb v1 (some a1) (v3 + 1))
    else (
      some 1))
set_option maxRecDepth 100000 in
set_option maxHeartbeats 4000000 in
theorem w_Ty_isBelowOneOf_B2 {X : GX} (hE : gE X b_Ty_isBelowOneOf 4 "StandInMill$Types" (some (.boolean)) "isBelowOneOf" 2 43) {S : gS} {d : gD} {o : Nat} {r : Int32} {kb : Int32 → Option Nat → Int32 → Option (Int32)} (hkb : ∀ (v1 : Int32) (v2 : Option Nat) (v3 : Int32), kb v1 v2 v3 = some r → gw X 0 0 (gQ X (some (.int r)) S d 0 0) S d 2 [some (va_rf (some o)), some (.int v1), some (va_rf v2), some (.int v3)] []) :
    ∀ (v1 : Int32) (v2 : Option Nat) (v3 : Int32), f_Ty_isBelowOneOf_B2 S d o kb v1 v2 v3 = some r → gw X 0 0 (gQ X (some (.int r)) S d 0 0) S d 2 [some (va_rf (some o)), some (.int v1), some (va_rf v2), some (.int v3)] [] := by
  intro v1 v2 v3 h
  unfold f_Ty_isBelowOneOf_B2 at h
  refine g_iload_n (i := 3) hE d_Ty_isBelowOneOf_2 rfl rfl ?_
  refine g_aload_n (i := 2) hE d_Ty_isBelowOneOf_3 rfl rfl ?_
  obtain ⟨a1, rfl, h⟩ := nn_s h
  obtain ⟨k2, h⟩ := kd_s h
  refine g_getIN 1 hE kc_Rw k2 (Nat.le_of_ble_eq_true rfl) rfl nf_16 d_Ty_isBelowOneOf_4 (fun x3 e => ?_)
  replace h := lt_i e h; clear e
  refine g_icmp_ge hE d_Ty_isBelowOneOf_7 (fun c13 => ?_) (fun c13 => ?_)
  · replace h := if_t c13 h
    refine g_iconst hE d_Ty_isBelowOneOf_32 ki_0 ?_
    cases h
    exact g_zret hE (Or.inl rfl) d_Ty_isBelowOneOf_33 rfl rfl
  · replace h := if_f c13 h
    refine g_aload_n (i := 0) hE d_Ty_isBelowOneOf_10 rfl rfl ?_
    refine g_iload_n (i := 1) hE d_Ty_isBelowOneOf_11 rfl rfl ?_
    refine g_aload_n (i := 2) hE d_Ty_isBelowOneOf_12 rfl rfl ?_
    refine g_getRN 0 hE kc_Rw k2 (Nat.le_of_ble_eq_true rfl) rfl nf_17 d_Ty_isBelowOneOf_13 (fun x4 e => ?_)
    replace h := lt_i e h; clear e
    refine g_iload_n (i := 3) hE d_Ty_isBelowOneOf_16 rfl rfl ?_
    obtain ⟨a5, rfl, h⟩ := nn_s h
    obtain ⟨k6, h⟩ := kd_s h
    obtain ⟨g7, h⟩ := gi_s h
    refine g_iald hE k6 g7 d_Ty_isBelowOneOf_17 (fun x8 e => ?_)
    replace h := lt_i e h; clear e
    obtain ⟨k9, h⟩ := kd_s h
    obtain ⟨x10, e11, h⟩ := bd_s h
    refine g_callV (av := [.inr (.inr (some o)), .inl v1, .inl x8]) (as := [.inl v1, .inl x8]) (stk := [.int x10]) [] hE (c_Ty_isBelow (xl X) (xG X) e11) ky_Ty_isBelow ⟨Nat.le_of_ble_eq_true rfl, Nat.le_of_ble_eq_true rfl⟩ rfl kc_Ty k9 m_108 m_109 m_110 rfl d_Ty_isBelowOneOf_18 rfl rfl ct_0 (Nat.zero_le _) (Nat.zero_le _) ?_
    refine gw.cs (c2 := 0) (s2 := 0) rfl rfl ?_
    refine g_if_eq hE d_Ty_isBelowOneOf_21 (fun c12 => ?_) (fun c12 => ?_)
    · replace h := if_t c12 h
      refine g_iinc (i := 3) (lv' := [some (va_rf (some o)), some (.int v1), some (va_rf (some a1)), some (.int (v3 + 1))]) hE d_Ty_isBelowOneOf_26 ki_1 rfl (Nat.le_of_ble_eq_true rfl) ⟨rfl, Nat.le_of_ble_eq_true rfl⟩ (lvp_r rfl) ?_
      refine g_goto hE d_Ty_isBelowOneOf_29 ?_
      exact gw.less (lv' := [some (va_rf (some o)), some (.int v1), some (va_rf (some a1)), some (.int (v3 + 1))]) (And.intro rfl (And.intro rfl (And.intro rfl (And.intro rfl trivial)))) (hkb v1 (some a1) (v3 + 1) h)
    · replace h := if_f c12 h
      refine g_iconst hE d_Ty_isBelowOneOf_24 ki_1 ?_
      cases h
      exact g_zret hE (Or.inr rfl) d_Ty_isBelowOneOf_25 rfl rfl
theorem w_Ty_isBelowOneOf_L2 {X : GX} (hE : gE X b_Ty_isBelowOneOf 4 "StandInMill$Types" (some (.boolean)) "isBelowOneOf" 2 43) {S : gS} {d : gD} {o : Nat} {r : Int32} : ∀ (n : Nat) (v1 : Int32) (v2 : Option Nat) (v3 : Int32), itr (f_Ty_isBelowOneOf_B2 S d o) (fun _ _ _ => none) n v1 v2 v3 = some r → gw X 0 0 (gQ X (some (.int r)) S d 0 0) S d 2 [some (va_rf (some o)), some (.int v1), some (va_rf v2), some (.int v3)] [] := by
  intro n
  induction n with
  | zero => intro v1 v2 v3 h; cases h
  | succ n ih => exact w_Ty_isBelowOneOf_B2 hE ih
set_option maxRecDepth 100000 in
def f_Ty_isBelowOneOf (S : gS) (d : gD) (o : Nat) (v1 : Int32) (v2 : Option Nat) : Option (Int32) :=
  itr (f_Ty_isBelowOneOf_B2 S d o) (fun _ _ _ => none) fu v1 v2 0
set_option maxRecDepth 100000 in
set_option maxHeartbeats 4000000 in
theorem c_Ty_isBelowOneOf (l : Launch) (G : gG) {S : gS} {d : gD} {o : Nat} {v1 : Int32} {v2 : Option Nat} {r : Int32} (h : f_Ty_isBelowOneOf S d o v1 v2 = some r) : GM l G y_Ty_isBelowOneOf b_Ty_isBelowOneOf 4 (some (.boolean)) 2 43 0 0 [.inr (.inr (some o)), .inl v1, .inr (.inr v2)] S d (some (.int r)) S d := by
  refine GM.of (by decide) (Nat.le_of_ble_eq_true rfl) ?_
  intro X hl0 hG0 hR0 hE0
  have hE : gE X b_Ty_isBelowOneOf 4 "StandInMill$Types" (some (.boolean)) "isBelowOneOf" 2 43 := hE0
  unfold f_Ty_isBelowOneOf at h
  refine gw.less (lv' := [some (va_rf (some o)), some (.int v1), some (va_rf v2), none]) (And.intro rfl (And.intro rfl (And.intro rfl trivial))) ?_
  refine g_iconst hE d_Ty_isBelowOneOf_0 ki_0 ?_
  refine g_istore_n (i := 3) (lv' := [some (va_rf (some o)), some (.int v1), some (va_rf v2), some (.int 0)]) hE d_Ty_isBelowOneOf_1 rfl (Nat.le_of_ble_eq_true rfl) ⟨rfl, Nat.le_of_ble_eq_true rfl⟩ (lvp_r rfl) ?_
  exact gw.less (lv' := [some (va_rf (some o)), some (.int v1), some (va_rf v2), some (.int 0)]) (And.intro rfl (And.intro rfl (And.intro rfl (And.intro rfl trivial)))) (w_Ty_isBelowOneOf_L2 hE fu v1 v2 0 h)
theorem d_Ty_addBelow_0 : dc b_Ty_addBelow 0 (.iconst 0) 1 1 := ⟨by decide +kernel, rfl⟩
theorem d_Ty_addBelow_1 : dc b_Ty_addBelow 1 (.istore 4) 2 3 := ⟨by decide +kernel, rfl⟩
theorem d_Ty_addBelow_3 : dc b_Ty_addBelow 3 (.iload 4) 2 5 := ⟨by decide +kernel, rfl⟩
theorem d_Ty_addBelow_5 : dc b_Ty_addBelow 5 (.aload_n 1) 1 6 := ⟨by decide +kernel, rfl⟩
theorem d_Ty_addBelow_6 : dc b_Ty_addBelow 6 (.getfield 37) 3 9 := ⟨by decide +kernel, rfl⟩
theorem d_Ty_addBelow_9 : db b_Ty_addBelow 9 (.if_icmp .ge 35) 35 44 12 := ⟨by decide +kernel, by decide, rfl⟩
theorem d_Ty_addBelow_12 : dc b_Ty_addBelow 12 (.aload_n 0) 1 13 := ⟨by decide +kernel, rfl⟩
theorem d_Ty_addBelow_13 : dc b_Ty_addBelow 13 (.aload_n 1) 1 14 := ⟨by decide +kernel, rfl⟩
theorem d_Ty_addBelow_14 : dc b_Ty_addBelow 14 (.getfield 42) 3 17 := ⟨by decide +kernel, rfl⟩
theorem d_Ty_addBelow_17 : dc b_Ty_addBelow 17 (.iload 4) 2 19 := ⟨by decide +kernel, rfl⟩
theorem d_Ty_addBelow_19 : dc b_Ty_addBelow 19 (.iaload) 1 20 := ⟨by decide +kernel, rfl⟩
theorem d_Ty_addBelow_20 : dc b_Ty_addBelow 20 (.aload_n 2) 1 21 := ⟨by decide +kernel, rfl⟩
theorem d_Ty_addBelow_21 : dc b_Ty_addBelow 21 (.invokevirtual 46) 3 24 := ⟨by decide +kernel, rfl⟩
theorem d_Ty_addBelow_24 : db b_Ty_addBelow 24 (.ifCond .eq 14) 14 38 27 := ⟨by decide +kernel, by decide, rfl⟩
theorem d_Ty_addBelow_27 : dc b_Ty_addBelow 27 (.aload_n 3) 1 28 := ⟨by decide +kernel, rfl⟩
theorem d_Ty_addBelow_28 : dc b_Ty_addBelow 28 (.aload_n 1) 1 29 := ⟨by decide +kernel, rfl⟩
theorem d_Ty_addBelow_29 : dc b_Ty_addBelow 29 (.getfield 42) 3 32 := ⟨by decide +kernel, rfl⟩
theorem d_Ty_addBelow_32 : dc b_Ty_addBelow 32 (.iload 4) 2 34 := ⟨by decide +kernel, rfl⟩
theorem d_Ty_addBelow_34 : dc b_Ty_addBelow 34 (.iaload) 1 35 := ⟨by decide +kernel, rfl⟩
theorem d_Ty_addBelow_35 : dc b_Ty_addBelow 35 (.invokevirtual 50) 3 38 := ⟨by decide +kernel, rfl⟩
theorem d_Ty_addBelow_38 : dc b_Ty_addBelow 38 (.iinc 4 1) 3 41 := ⟨by decide +kernel, rfl⟩
theorem d_Ty_addBelow_41 : db b_Ty_addBelow 41 (.goto (-38)) (-38) 3 44 := ⟨by decide +kernel, by decide, rfl⟩
theorem d_Ty_addBelow_44 : dc b_Ty_addBelow 44 (.return_) 1 45 := ⟨by decide +kernel, rfl⟩
def f_Ty_addBelow_J38 (S : gS) (o : Nat) (kb : gD → Option Nat → Option Nat → Option Nat → Int32 → Option (Unit × gD)) (d : gD) (v1 : Option Nat) (v2 : Option Nat) (v3 : Option Nat) (v4 : Int32) : Option (Unit × gD) :=
  kb d v1 v2 v3 (v4 + 1)
set_option maxRecDepth 100000 in
set_option maxHeartbeats 4000000 in
theorem w_Ty_addBelow_J38 {X : GX} (hE : gE X b_Ty_addBelow 5 "StandInMill$Types" none "addBelow" 3 66) {S : gS} {o : Nat} {r : Unit} {d' : gD} {kb : gD → Option Nat → Option Nat → Option Nat → Int32 → Option (Unit × gD)} (hkb : ∀ (d : gD) (v1 : Option Nat) (v2 : Option Nat) (v3 : Option Nat) (v4 : Int32), kb d v1 v2 v3 v4 = some (r, d') → gw X 0 0 (gQ X (none) S d' 0 0) S d 3 [some (va_rf (some o)), some (va_rf v1), some (va_rf v2), some (va_rf v3), some (.int v4)] []) :
    ∀ (d : gD) (v1 : Option Nat) (v2 : Option Nat) (v3 : Option Nat) (v4 : Int32), f_Ty_addBelow_J38 S o kb d v1 v2 v3 v4 = some (r, d') → gw X 0 0 (gQ X (none) S d' 0 0) S d 38 [some (va_rf (some o)), some (va_rf v1), some (va_rf v2), some (va_rf v3), some (.int v4)] [] := by
  intro d v1 v2 v3 v4 h
  unfold f_Ty_addBelow_J38 at h
  refine g_iinc (i := 4) (lv' := [some (va_rf (some o)), some (va_rf v1), some (va_rf v2), some (va_rf v3), some (.int (v4 + 1))]) hE d_Ty_addBelow_38 ki_1 rfl (Nat.le_of_ble_eq_true rfl) ⟨rfl, Nat.le_of_ble_eq_true rfl⟩ (lvp_r rfl) ?_
  refine g_goto hE d_Ty_addBelow_41 ?_
  exact gw.less (lv' := [some (va_rf (some o)), some (va_rf v1), some (va_rf v2), some (va_rf v3), some (.int (v4 + 1))]) (And.intro rfl (And.intro rfl (And.intro rfl (And.intro rfl (And.intro rfl trivial))))) (hkb d v1 v2 v3 (v4 + 1) h)
def f_Ty_addBelow_B3 (S : gS) (o : Nat) (kb : gD → Option Nat → Option Nat → Option Nat → Int32 → Option (Unit × gD)) (d : gD) (v1 : Option Nat) (v2 : Option Nat) (v3 : Option Nat) (v4 : Int32) : Option (Unit × gD) :=
  nn v1 fun a1 =>
  kd S a1 2 <|
  lt_ (dI d a1 1) fun x3 =>
  if x3 ≤ v4 then (
    some ((), d))
  else (
    lt_ (sP S a1 0) fun x4 =>
    nn x4 fun a5 =>
    kd S a5 50 <|
    gi v4 (sN S a5) <|
    lt_ (dI d a5 v4.toNatClampNeg) fun x8 =>
    kd S o 8 <|
    bd (f_Ty_isBelowOneOf S d o x8 v2) fun x10 =>
    if x10 = 0 then (
      f_Ty_addBelow_J38 S o kb d (some a1) v2 v3 v4)
    else (
      lt_ (sP S a1 0) fun x12 =>
      nn x12 fun a13 =>
      kd S a13 50 <|
      gi v4 (sN S a13) <|
      lt_ (dI d a13 v4.toNatClampNeg) fun x16 =>
      nn v3 fun a17 =>
      kd S a17 2 <|
      bdD (f_Rw_add S d a17 x16) fun _ d21 =>
      f_Ty_addBelow_J38 S o kb d21 (some a1) v2 (some a17) v4))
set_option maxRecDepth 100000 in
set_option maxHeartbeats 4000000 in
theorem w_Ty_addBelow_B3 {X : GX} (hE : gE X b_Ty_addBelow 5 "StandInMill$Types" none "addBelow" 3 66) {S : gS} {o : Nat} {r : Unit} {d' : gD} {kb : gD → Option Nat → Option Nat → Option Nat → Int32 → Option (Unit × gD)} (hkb : ∀ (d : gD) (v1 : Option Nat) (v2 : Option Nat) (v3 : Option Nat) (v4 : Int32), kb d v1 v2 v3 v4 = some (r, d') → gw X 0 0 (gQ X (none) S d' 0 0) S d 3 [some (va_rf (some o)), some (va_rf v1), some (va_rf v2), some (va_rf v3), some (.int v4)] []) :
    ∀ (d : gD) (v1 : Option Nat) (v2 : Option Nat) (v3 : Option Nat) (v4 : Int32), f_Ty_addBelow_B3 S o kb d v1 v2 v3 v4 = some (r, d') → gw X 0 0 (gQ X (none) S d' 0 0) S d 3 [some (va_rf (some o)), some (va_rf v1), some (va_rf v2), some (va_rf v3), some (.int v4)] [] := by
  intro d v1 v2 v3 v4 h
  unfold f_Ty_addBelow_B3 at h
  refine g_iload (i := 4) hE d_Ty_addBelow_3 rfl ?_
  refine g_aload_n (i := 1) hE d_Ty_addBelow_5 rfl rfl ?_
  obtain ⟨a1, rfl, h⟩ := nn_s h
  obtain ⟨k2, h⟩ := kd_s h
  refine g_getIN 1 hE kc_Rw k2 (Nat.le_of_ble_eq_true rfl) rfl nf_16 d_Ty_addBelow_6 (fun x3 e => ?_)
  replace h := lt_i e h; clear e
  refine g_icmp_ge hE d_Ty_addBelow_9 (fun c23 => ?_) (fun c23 => ?_)
  · replace h := if_t c23 h
    cases h
    exact g_vret hE d_Ty_addBelow_44 rfl rfl
  · replace h := if_f c23 h
    refine g_aload_n (i := 0) hE d_Ty_addBelow_12 rfl rfl ?_
    refine g_aload_n (i := 1) hE d_Ty_addBelow_13 rfl rfl ?_
    refine g_getRN 0 hE kc_Rw k2 (Nat.le_of_ble_eq_true rfl) rfl nf_17 d_Ty_addBelow_14 (fun x4 e => ?_)
    replace h := lt_i e h; clear e
    refine g_iload (i := 4) hE d_Ty_addBelow_17 rfl ?_
    obtain ⟨a5, rfl, h⟩ := nn_s h
    obtain ⟨k6, h⟩ := kd_s h
    obtain ⟨g7, h⟩ := gi_s h
    refine g_iald hE k6 g7 d_Ty_addBelow_19 (fun x8 e => ?_)
    replace h := lt_i e h; clear e
    refine g_aload_n (i := 2) hE d_Ty_addBelow_20 rfl rfl ?_
    obtain ⟨k9, h⟩ := kd_s h
    obtain ⟨x10, e11, h⟩ := bd_s h
    refine g_callV (av := [.inr (.inr (some o)), .inl x8, .inr (.inr v2)]) (as := [.inl x8, .inr (.inr v2)]) (stk := [.int x10]) [] hE (c_Ty_isBelowOneOf (xl X) (xG X) e11) ky_Ty_isBelowOneOf ⟨Nat.le_of_ble_eq_true rfl, Nat.le_of_ble_eq_true rfl⟩ rfl kc_Ty k9 m_193 m_194 m_195 rfl d_Ty_addBelow_21 rfl rfl ct_0 (Nat.zero_le _) (Nat.zero_le _) ?_
    refine gw.cs (c2 := 0) (s2 := 0) rfl rfl ?_
    refine g_if_eq hE d_Ty_addBelow_24 (fun c22 => ?_) (fun c22 => ?_)
    · replace h := if_t c22 h
      exact gw.less (lv' := [some (va_rf (some o)), some (va_rf (some a1)), some (va_rf v2), some (va_rf v3), some (.int v4)]) (And.intro rfl (And.intro rfl (And.intro rfl (And.intro rfl (And.intro rfl trivial))))) (w_Ty_addBelow_J38 hE hkb d (some a1) v2 v3 v4 h)
    · replace h := if_f c22 h
      refine g_aload_n (i := 3) hE d_Ty_addBelow_27 rfl rfl ?_
      refine g_aload_n (i := 1) hE d_Ty_addBelow_28 rfl rfl ?_
      refine g_getRN 0 hE kc_Rw k2 (Nat.le_of_ble_eq_true rfl) rfl nf_17 d_Ty_addBelow_29 (fun x12 e => ?_)
      replace h := lt_i e h; clear e
      refine g_iload (i := 4) hE d_Ty_addBelow_32 rfl ?_
      obtain ⟨a13, rfl, h⟩ := nn_s h
      obtain ⟨k14, h⟩ := kd_s h
      obtain ⟨g15, h⟩ := gi_s h
      refine g_iald hE k14 g15 d_Ty_addBelow_34 (fun x16 e => ?_)
      replace h := lt_i e h; clear e
      obtain ⟨a17, rfl, h⟩ := nn_s h
      obtain ⟨k18, h⟩ := kd_s h
      obtain ⟨x19, d21, e20, h⟩ := bdD_s h
      refine g_callV (av := [.inr (.inr (some a17)), .inl x16]) (as := [.inl x16]) (stk := []) [] hE (c_Rw_add (xl X) (xG X) e20) ky_Rw_add ⟨Nat.le_of_ble_eq_true rfl, Nat.le_of_ble_eq_true rfl⟩ rfl kc_Rw k18 m_196 m_158 m_159 rfl d_Ty_addBelow_35 rfl rfl ct_0 (Nat.zero_le _) (Nat.zero_le _) ?_
      refine gw.cs (c2 := 0) (s2 := 0) rfl rfl ?_
      exact gw.less (lv' := [some (va_rf (some o)), some (va_rf (some a1)), some (va_rf v2), some (va_rf (some a17)), some (.int v4)]) (And.intro rfl (And.intro rfl (And.intro rfl (And.intro rfl (And.intro rfl trivial))))) (w_Ty_addBelow_J38 hE hkb d21 (some a1) v2 (some a17) v4 h)
theorem w_Ty_addBelow_L3 {X : GX} (hE : gE X b_Ty_addBelow 5 "StandInMill$Types" none "addBelow" 3 66) {S : gS} {o : Nat} {r : Unit} {d' : gD} : ∀ (n : Nat) (d : gD) (v1 : Option Nat) (v2 : Option Nat) (v3 : Option Nat) (v4 : Int32), itr (f_Ty_addBelow_B3 S o) (fun _ _ _ _ _ => none) n d v1 v2 v3 v4 = some (r, d') → gw X 0 0 (gQ X (none) S d' 0 0) S d 3 [some (va_rf (some o)), some (va_rf v1), some (va_rf v2), some (va_rf v3), some (.int v4)] [] := by
  intro n
  induction n with
  | zero => intro d v1 v2 v3 v4 h; cases h
  | succ n ih => exact w_Ty_addBelow_B3 hE ih
set_option maxRecDepth 100000 in
def f_Ty_addBelow (S : gS) (d : gD) (o : Nat) (v1 : Option Nat) (v2 : Option Nat) (v3 : Option Nat) : Option (Unit × gD) :=
  itr (f_Ty_addBelow_B3 S o) (fun _ _ _ _ _ => none) fu d v1 v2 v3 0
set_option maxRecDepth 100000 in
set_option maxHeartbeats 4000000 in
theorem c_Ty_addBelow (l : Launch) (G : gG) {S : gS} {d : gD} {o : Nat} {v1 : Option Nat} {v2 : Option Nat} {v3 : Option Nat} {r : Unit} {d' : gD} (h : f_Ty_addBelow S d o v1 v2 v3 = some (r, d')) : GM l G y_Ty_addBelow b_Ty_addBelow 5 none 3 66 0 0 [.inr (.inr (some o)), .inr (.inr v1), .inr (.inr v2), .inr (.inr v3)] S d (none) S d' := by
  refine GM.of (by decide) (Nat.le_of_ble_eq_true rfl) ?_
  intro X hl0 hG0 hR0 hE0
  have hE : gE X b_Ty_addBelow 5 "StandInMill$Types" none "addBelow" 3 66 := hE0
  unfold f_Ty_addBelow at h
  refine gw.less (lv' := [some (va_rf (some o)), some (va_rf v1), some (va_rf v2), some (va_rf v3), none]) (And.intro rfl (And.intro rfl (And.intro rfl (And.intro rfl trivial)))) ?_
  refine g_iconst hE d_Ty_addBelow_0 ki_0 ?_
  refine g_istore (i := 4) (lv' := [some (va_rf (some o)), some (va_rf v1), some (va_rf v2), some (va_rf v3), some (.int 0)]) hE d_Ty_addBelow_1 (Nat.le_of_ble_eq_true rfl) ⟨rfl, Nat.le_of_ble_eq_true rfl⟩ (lvp_r rfl) ?_
  exact gw.less (lv' := [some (va_rf (some o)), some (va_rf v1), some (va_rf v2), some (va_rf v3), some (.int 0)]) (And.intro rfl (And.intro rfl (And.intro rfl (And.intro rfl (And.intro rfl trivial))))) (w_Ty_addBelow_L3 hE fu d v1 v2 v3 0 h)
theorem d_Dr_narrow_0 : dc b_Dr_narrow 0 (.aload_n 0) 1 1 := ⟨by decide +kernel, rfl⟩
theorem d_Dr_narrow_1 : dc b_Dr_narrow 1 (.getfield 22) 3 4 := ⟨by decide +kernel, rfl⟩
theorem d_Dr_narrow_4 : dc b_Dr_narrow 4 (.aload_n 1) 1 5 := ⟨by decide +kernel, rfl⟩
theorem d_Dr_narrow_5 : dc b_Dr_narrow 5 (.invokevirtual 59) 3 8 := ⟨by decide +kernel, rfl⟩
theorem d_Dr_narrow_8 : dc b_Dr_narrow 8 (.aload_n 1) 1 9 := ⟨by decide +kernel, rfl⟩
theorem d_Dr_narrow_9 : dc b_Dr_narrow 9 (.invokevirtual 63) 3 12 := ⟨by decide +kernel, rfl⟩
theorem d_Dr_narrow_12 : dc b_Dr_narrow 12 (.aload_n 0) 1 13 := ⟨by decide +kernel, rfl⟩
theorem d_Dr_narrow_13 : dc b_Dr_narrow 13 (.getfield 26) 3 16 := ⟨by decide +kernel, rfl⟩
theorem d_Dr_narrow_16 : dc b_Dr_narrow 16 (.aload_n 0) 1 17 := ⟨by decide +kernel, rfl⟩
theorem d_Dr_narrow_17 : dc b_Dr_narrow 17 (.getfield 22) 3 20 := ⟨by decide +kernel, rfl⟩
theorem d_Dr_narrow_20 : dc b_Dr_narrow 20 (.aload_n 2) 1 21 := ⟨by decide +kernel, rfl⟩
theorem d_Dr_narrow_21 : dc b_Dr_narrow 21 (.aload_n 1) 1 22 := ⟨by decide +kernel, rfl⟩
theorem d_Dr_narrow_22 : dc b_Dr_narrow 22 (.invokevirtual 66) 3 25 := ⟨by decide +kernel, rfl⟩
theorem d_Dr_narrow_25 : dc b_Dr_narrow 25 (.aload_n 0) 1 26 := ⟨by decide +kernel, rfl⟩
theorem d_Dr_narrow_26 : dc b_Dr_narrow 26 (.getfield 26) 3 29 := ⟨by decide +kernel, rfl⟩
theorem d_Dr_narrow_29 : dc b_Dr_narrow 29 (.aload_n 2) 1 30 := ⟨by decide +kernel, rfl⟩
theorem d_Dr_narrow_30 : dc b_Dr_narrow 30 (.aload_n 0) 1 31 := ⟨by decide +kernel, rfl⟩
theorem d_Dr_narrow_31 : dc b_Dr_narrow 31 (.getfield 22) 3 34 := ⟨by decide +kernel, rfl⟩
theorem d_Dr_narrow_34 : dc b_Dr_narrow 34 (.aload_n 1) 1 35 := ⟨by decide +kernel, rfl⟩
theorem d_Dr_narrow_35 : dc b_Dr_narrow 35 (.invokevirtual 66) 3 38 := ⟨by decide +kernel, rfl⟩
theorem d_Dr_narrow_38 : dc b_Dr_narrow 38 (.return_) 1 39 := ⟨by decide +kernel, rfl⟩
set_option maxRecDepth 100000 in
def f_Dr_narrow (S : gS) (d : gD) (o : Nat) (v1 : Option Nat) (v2 : Option Nat) : Option (Unit × gD) :=
  kd S o 3 <|
  lt_ (sP S o 3) fun x2 =>
  nn x2 fun a3 =>
  kd S a3 2 <|
  bdD (f_Rw_copyFrom S d a3 v1) fun _ d7 =>
  nn v1 fun a8 =>
  kd S a8 2 <|
  bdD (f_Rw_clear S d7 a8) fun _ d12 =>
  lt_ (sP S o 0) fun x13 =>
  lt_ (sP S o 3) fun x14 =>
  nn x13 fun a15 =>
  kd S a15 8 <|
  bdD (f_Ty_addBelow S d12 a15 x14 v2 (some a8)) fun _ d19 =>
  lt_ (sP S o 0) fun x20 =>
  lt_ (sP S o 3) fun x21 =>
  nn x20 fun a22 =>
  kd S a22 8 <|
  bdD (f_Ty_addBelow S d19 a22 v2 x21 (some a8)) fun _ d26 =>
  some ((), d26)
set_option maxRecDepth 100000 in
set_option maxHeartbeats 4000000 in
theorem c_Dr_narrow (l : Launch) (G : gG) {S : gS} {d : gD} {o : Nat} {v1 : Option Nat} {v2 : Option Nat} {r : Unit} {d' : gD} (h : f_Dr_narrow S d o v1 v2 = some (r, d')) : GM l G y_Dr_narrow b_Dr_narrow 3 none 4 90 0 0 [.inr (.inr (some o)), .inr (.inr v1), .inr (.inr v2)] S d (none) S d' := by
  refine GM.of (by decide) (Nat.le_of_ble_eq_true rfl) ?_
  intro X hl0 hG0 hR0 hE0
  have hE : gE X b_Dr_narrow 3 "StandInMill$Draft" none "narrow" 4 90 := hE0
  unfold f_Dr_narrow at h
  refine gw.less (lv' := [some (va_rf (some o)), some (va_rf v1), some (va_rf v2)]) (And.intro rfl (And.intro rfl (And.intro rfl trivial))) ?_
  refine g_aload_n (i := 0) hE d_Dr_narrow_0 rfl rfl ?_
  obtain ⟨k1, h⟩ := kd_s h
  refine g_getR 3 hE kc_Dr k1 (Nat.le_of_ble_eq_true rfl) rfl m_19 d_Dr_narrow_1 (fun x2 e => ?_)
  replace h := lt_i e h; clear e
  refine g_aload_n (i := 1) hE d_Dr_narrow_4 rfl rfl ?_
  obtain ⟨a3, rfl, h⟩ := nn_s h
  obtain ⟨k4, h⟩ := kd_s h
  obtain ⟨x5, d7, e6, h⟩ := bdD_s h
  refine g_callV (av := [.inr (.inr (some a3)), .inr (.inr v1)]) (as := [.inr (.inr v1)]) (stk := []) [] hE (c_Rw_copyFrom (xl X) (xG X) e6) ky_Rw_copyFrom ⟨Nat.le_of_ble_eq_true rfl, Nat.le_of_ble_eq_true rfl⟩ rfl kc_Rw k4 m_197 m_198 m_199 rfl d_Dr_narrow_5 rfl rfl ct_0 (Nat.zero_le _) (Nat.zero_le _) ?_
  refine gw.cs (c2 := 0) (s2 := 0) rfl rfl ?_
  refine g_aload_n (i := 1) hE d_Dr_narrow_8 rfl rfl ?_
  obtain ⟨a8, rfl, h⟩ := nn_s h
  obtain ⟨k9, h⟩ := kd_s h
  obtain ⟨x10, d12, e11, h⟩ := bdD_s h
  refine g_callV (av := [.inr (.inr (some a8))]) (as := []) (stk := []) [] hE (c_Rw_clear (xl X) (xG X) e11) ky_Rw_clear ⟨Nat.le_of_ble_eq_true rfl, Nat.le_of_ble_eq_true rfl⟩ rfl kc_Rw k9 m_200 m_190 m_191 rfl d_Dr_narrow_9 rfl rfl ct_0 (Nat.zero_le _) (Nat.zero_le _) ?_
  refine gw.cs (c2 := 0) (s2 := 0) rfl rfl ?_
  refine g_aload_n (i := 0) hE d_Dr_narrow_12 rfl rfl ?_
  refine g_getR 0 hE kc_Dr k1 (Nat.le_of_ble_eq_true rfl) rfl m_20 d_Dr_narrow_13 (fun x13 e => ?_)
  replace h := lt_i e h; clear e
  refine g_aload_n (i := 0) hE d_Dr_narrow_16 rfl rfl ?_
  refine g_getR 3 hE kc_Dr k1 (Nat.le_of_ble_eq_true rfl) rfl m_19 d_Dr_narrow_17 (fun x14 e => ?_)
  replace h := lt_i e h; clear e
  refine g_aload_n (i := 2) hE d_Dr_narrow_20 rfl rfl ?_
  refine g_aload_n (i := 1) hE d_Dr_narrow_21 rfl rfl ?_
  obtain ⟨a15, rfl, h⟩ := nn_s h
  obtain ⟨k16, h⟩ := kd_s h
  obtain ⟨x17, d19, e18, h⟩ := bdD_s h
  refine g_callV (av := [.inr (.inr (some a15)), .inr (.inr x14), .inr (.inr v2), .inr (.inr (some a8))]) (as := [.inr (.inr x14), .inr (.inr v2), .inr (.inr (some a8))]) (stk := []) [] hE (c_Ty_addBelow (xl X) (xG X) e18) ky_Ty_addBelow ⟨Nat.le_of_ble_eq_true rfl, Nat.le_of_ble_eq_true rfl⟩ rfl kc_Ty k16 m_201 m_202 m_203 rfl d_Dr_narrow_22 rfl rfl ct_0 (Nat.zero_le _) (Nat.zero_le _) ?_
  refine gw.cs (c2 := 0) (s2 := 0) rfl rfl ?_
  refine g_aload_n (i := 0) hE d_Dr_narrow_25 rfl rfl ?_
  refine g_getR 0 hE kc_Dr k1 (Nat.le_of_ble_eq_true rfl) rfl m_20 d_Dr_narrow_26 (fun x20 e => ?_)
  replace h := lt_i e h; clear e
  refine g_aload_n (i := 2) hE d_Dr_narrow_29 rfl rfl ?_
  refine g_aload_n (i := 0) hE d_Dr_narrow_30 rfl rfl ?_
  refine g_getR 3 hE kc_Dr k1 (Nat.le_of_ble_eq_true rfl) rfl m_19 d_Dr_narrow_31 (fun x21 e => ?_)
  replace h := lt_i e h; clear e
  refine g_aload_n (i := 1) hE d_Dr_narrow_34 rfl rfl ?_
  obtain ⟨a22, rfl, h⟩ := nn_s h
  obtain ⟨k23, h⟩ := kd_s h
  obtain ⟨x24, d26, e25, h⟩ := bdD_s h
  refine g_callV (av := [.inr (.inr (some a22)), .inr (.inr v2), .inr (.inr x21), .inr (.inr (some a8))]) (as := [.inr (.inr v2), .inr (.inr x21), .inr (.inr (some a8))]) (stk := []) [] hE (c_Ty_addBelow (xl X) (xG X) e25) ky_Ty_addBelow ⟨Nat.le_of_ble_eq_true rfl, Nat.le_of_ble_eq_true rfl⟩ rfl kc_Ty k23 m_201 m_202 m_203 rfl d_Dr_narrow_35 rfl rfl ct_0 (Nat.zero_le _) (Nat.zero_le _) ?_
  refine gw.cs (c2 := 0) (s2 := 0) rfl rfl ?_
  cases h
  exact g_vret hE d_Dr_narrow_38 rfl rfl
