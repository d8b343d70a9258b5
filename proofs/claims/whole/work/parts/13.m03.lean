theorem d_Fc_hasParent_0 : dc b_Fc_hasParent 0 (.iconst 0) 1 1 := ⟨by decide +kernel, rfl⟩
theorem d_Fc_hasParent_1 : dc b_Fc_hasParent 1 (.istore_n 2) 1 2 := ⟨by decide +kernel, rfl⟩
theorem d_Fc_hasParent_2 : dc b_Fc_hasParent 2 (.iload_n 2) 1 3 := ⟨by decide +kernel, rfl⟩
theorem d_Fc_hasParent_3 : dc b_Fc_hasParent 3 (.aload_n 0) 1 4 := ⟨by decide +kernel, rfl⟩
theorem d_Fc_hasParent_4 : dc b_Fc_hasParent 4 (.getfield 38) 3 7 := ⟨by decide +kernel, rfl⟩
theorem d_Fc_hasParent_7 : db b_Fc_hasParent 7 (.if_icmp .ge 21) 21 28 10 := ⟨by decide +kernel, by decide, rfl⟩
theorem d_Fc_hasParent_10 : dc b_Fc_hasParent 10 (.aload_n 0) 1 11 := ⟨by decide +kernel, rfl⟩
theorem d_Fc_hasParent_11 : dc b_Fc_hasParent 11 (.getfield 9) 3 14 := ⟨by decide +kernel, rfl⟩
theorem d_Fc_hasParent_14 : dc b_Fc_hasParent 14 (.iload_n 2) 1 15 := ⟨by decide +kernel, rfl⟩
theorem d_Fc_hasParent_15 : dc b_Fc_hasParent 15 (.iaload) 1 16 := ⟨by decide +kernel, rfl⟩
theorem d_Fc_hasParent_16 : dc b_Fc_hasParent 16 (.iload_n 1) 1 17 := ⟨by decide +kernel, rfl⟩
theorem d_Fc_hasParent_17 : db b_Fc_hasParent 17 (.if_icmp .ne 5) 5 22 20 := ⟨by decide +kernel, by decide, rfl⟩
theorem d_Fc_hasParent_20 : dc b_Fc_hasParent 20 (.iconst 1) 1 21 := ⟨by decide +kernel, rfl⟩
theorem d_Fc_hasParent_21 : dc b_Fc_hasParent 21 (.ireturn) 1 22 := ⟨by decide +kernel, rfl⟩
theorem d_Fc_hasParent_22 : dc b_Fc_hasParent 22 (.iinc 2 1) 3 25 := ⟨by decide +kernel, rfl⟩
theorem d_Fc_hasParent_25 : db b_Fc_hasParent 25 (.goto (-23)) (-23) 2 28 := ⟨by decide +kernel, by decide, rfl⟩
theorem d_Fc_hasParent_28 : dc b_Fc_hasParent 28 (.iconst 0) 1 29 := ⟨by decide +kernel, rfl⟩
theorem d_Fc_hasParent_29 : dc b_Fc_hasParent 29 (.ireturn) 1 30 := ⟨by decide +kernel, rfl⟩
def f_Fc_hasParent_B2 (S : gS) (d : gD) (o : Nat) (kb : Int32 → Int32 → Option (Int32)) (v1 : Int32) (v2 : Int32) : Option (Int32) :=
  kd S o 4 <|
  lt_ (dI d o 5) fun x2 =>
  if x2 ≤ v2 then (
    some 0)
  else (
    lt_ (sP S o 4) fun x3 =>
    nn x3 fun a4 =>
    kd S a4 50 <|
    gi v2 (sN S a4) <|
    lt_ (dI d a4 v2.toNatClampNeg) fun x7 =>
    if x7 = v1 then (
      some 1)
    else (
      kb v1 (v2 + 1)))
set_option maxRecDepth 100000 in
set_option maxHeartbeats 4000000 in
theorem w_Fc_hasParent_B2 {X : GX} (hE : gE X b_Fc_hasParent 3 "StandInMill$Face" (some (.boolean)) "hasParent" 0 0) {S : gS} {d : gD} {o : Nat} {r : Int32} {kb : Int32 → Int32 → Option (Int32)} (hkb : ∀ (v1 : Int32) (v2 : Int32), kb v1 v2 = some r → gw X 0 0 (gQ X (some (.int r)) S d 0 0) S d 2 [some (va_rf (some o)), some (.int v1), some (.int v2)] []) :
    ∀ (v1 : Int32) (v2 : Int32), f_Fc_hasParent_B2 S d o kb v1 v2 = some r → gw X 0 0 (gQ X (some (.int r)) S d 0 0) S d 2 [some (va_rf (some o)), some (.int v1), some (.int v2)] [] := by
  intro v1 v2 h
  unfold f_Fc_hasParent_B2 at h
  refine g_iload_n (i := 2) hE d_Fc_hasParent_2 rfl rfl ?_
  refine g_aload_n (i := 0) hE d_Fc_hasParent_3 rfl rfl ?_
  obtain ⟨k1, h⟩ := kd_s h
  refine g_getI 5 hE kc_Fc k1 (Nat.le_of_ble_eq_true rfl) rfl m_107 d_Fc_hasParent_4 (fun x2 e => ?_)
  replace h := lt_i e h; clear e
  refine g_icmp_ge hE d_Fc_hasParent_7 (fun c9 => ?_) (fun c9 => ?_)
  · replace h := if_t c9 h
    refine g_iconst hE d_Fc_hasParent_28 ki_0 ?_
    cases h
    exact g_zret hE (Or.inl rfl) d_Fc_hasParent_29 rfl rfl
  · replace h := if_f c9 h
    refine g_aload_n (i := 0) hE d_Fc_hasParent_10 rfl rfl ?_
    refine g_getR 4 hE kc_Fc k1 (Nat.le_of_ble_eq_true rfl) rfl m_89 d_Fc_hasParent_11 (fun x3 e => ?_)
    replace h := lt_i e h; clear e
    refine g_iload_n (i := 2) hE d_Fc_hasParent_14 rfl rfl ?_
    obtain ⟨a4, rfl, h⟩ := nn_s h
    obtain ⟨k5, h⟩ := kd_s h
    obtain ⟨g6, h⟩ := gi_s h
    refine g_iald hE k5 g6 d_Fc_hasParent_15 (fun x7 e => ?_)
    replace h := lt_i e h; clear e
    refine g_iload_n (i := 1) hE d_Fc_hasParent_16 rfl rfl ?_
    refine g_icmp_ne hE d_Fc_hasParent_17 (fun c8 => ?_) (fun c8 => ?_)
    · replace h := if_f c8 h
      refine g_iinc (i := 2) (lv' := [some (va_rf (some o)), some (.int v1), some (.int (v2 + 1))]) hE d_Fc_hasParent_22 ki_1 rfl (Nat.le_of_ble_eq_true rfl) ⟨rfl, Nat.le_of_ble_eq_true rfl⟩ (lvp_i rfl) ?_
      refine g_goto hE d_Fc_hasParent_25 ?_
      exact gw.less (lv' := [some (va_rf (some o)), some (.int v1), some (.int (v2 + 1))]) (And.intro rfl (And.intro rfl (And.intro rfl trivial))) (hkb v1 (v2 + 1) h)
    · replace h := if_t c8 h
      refine g_iconst hE d_Fc_hasParent_20 ki_1 ?_
      cases h
      exact g_zret hE (Or.inr rfl) d_Fc_hasParent_21 rfl rfl
theorem w_Fc_hasParent_L2 {X : GX} (hE : gE X b_Fc_hasParent 3 "StandInMill$Face" (some (.boolean)) "hasParent" 0 0) {S : gS} {d : gD} {o : Nat} {r : Int32} : ∀ (n : Nat) (v1 : Int32) (v2 : Int32), itr (f_Fc_hasParent_B2 S d o) (fun _ _ => none) n v1 v2 = some r → gw X 0 0 (gQ X (some (.int r)) S d 0 0) S d 2 [some (va_rf (some o)), some (.int v1), some (.int v2)] [] := by
  intro n
  induction n with
  | zero => intro v1 v2 h; cases h
  | succ n ih => exact w_Fc_hasParent_B2 hE ih
set_option maxRecDepth 100000 in
def f_Fc_hasParent (S : gS) (d : gD) (o : Nat) (v1 : Int32) : Option (Int32) :=
  itr (f_Fc_hasParent_B2 S d o) (fun _ _ => none) fu v1 0
set_option maxRecDepth 100000 in
set_option maxHeartbeats 4000000 in
theorem c_Fc_hasParent (l : Launch) (G : gG) {S : gS} {d : gD} {o : Nat} {v1 : Int32} {r : Int32} (h : f_Fc_hasParent S d o v1 = some r) : GM l G y_Fc_hasParent b_Fc_hasParent 3 (some (.boolean)) 0 0 0 0 [.inr (.inr (some o)), .inl v1] S d (some (.int r)) S d := by
  refine GM.of (by decide) (Nat.le_of_ble_eq_true rfl) ?_
  intro X hl0 hG0 hR0 hE0
  have hE : gE X b_Fc_hasParent 3 "StandInMill$Face" (some (.boolean)) "hasParent" 0 0 := hE0
  unfold f_Fc_hasParent at h
  refine gw.less (lv' := [some (va_rf (some o)), some (.int v1), none]) (And.intro rfl (And.intro rfl trivial)) ?_
  refine g_iconst hE d_Fc_hasParent_0 ki_0 ?_
  refine g_istore_n (i := 2) (lv' := [some (va_rf (some o)), some (.int v1), some (.int 0)]) hE d_Fc_hasParent_1 rfl (Nat.le_of_ble_eq_true rfl) ⟨rfl, Nat.le_of_ble_eq_true rfl⟩ (lvp_i rfl) ?_
  exact gw.less (lv' := [some (va_rf (some o)), some (.int v1), some (.int 0)]) (And.intro rfl (And.intro rfl (And.intro rfl trivial))) (w_Fc_hasParent_L2 hE fu v1 0 h)
theorem d_M_isVisible_0 : dc b_M_isVisible 0 (.aload_n 0) 1 1 := ⟨by decide +kernel, rfl⟩
theorem d_M_isVisible_1 : dc b_M_isVisible 1 (.getfield 22) 3 4 := ⟨by decide +kernel, rfl⟩
theorem d_M_isVisible_4 : dc b_M_isVisible 4 (.iload_n 1) 1 5 := ⟨by decide +kernel, rfl⟩
theorem d_M_isVisible_5 : dc b_M_isVisible 5 (.bipush 24) 2 7 := ⟨by decide +kernel, rfl⟩
theorem d_M_isVisible_7 : dc b_M_isVisible 7 (.isub) 1 8 := ⟨by decide +kernel, rfl⟩
theorem d_M_isVisible_8 : dc b_M_isVisible 8 (.aaload) 1 9 := ⟨by decide +kernel, rfl⟩
theorem d_M_isVisible_9 : dc b_M_isVisible 9 (.astore_n 3) 1 10 := ⟨by decide +kernel, rfl⟩
theorem d_M_isVisible_10 : dc b_M_isVisible 10 (.aload_n 0) 1 11 := ⟨by decide +kernel, rfl⟩
theorem d_M_isVisible_11 : dc b_M_isVisible 11 (.iload_n 2) 1 12 := ⟨by decide +kernel, rfl⟩
theorem d_M_isVisible_12 : dc b_M_isVisible 12 (.aload_n 3) 1 13 := ⟨by decide +kernel, rfl⟩
theorem d_M_isVisible_13 : dc b_M_isVisible 13 (.getfield 314) 3 16 := ⟨by decide +kernel, rfl⟩
theorem d_M_isVisible_16 : dc b_M_isVisible 16 (.aload_n 3) 1 17 := ⟨by decide +kernel, rfl⟩
theorem d_M_isVisible_17 : dc b_M_isVisible 17 (.getfield 315) 3 20 := ⟨by decide +kernel, rfl⟩
theorem d_M_isVisible_20 : dc b_M_isVisible 20 (.invokevirtual 98) 3 23 := ⟨by decide +kernel, rfl⟩
theorem d_M_isVisible_23 : dc b_M_isVisible 23 (.iload_n 1) 1 24 := ⟨by decide +kernel, rfl⟩
theorem d_M_isVisible_24 : db b_M_isVisible 24 (.if_icmp .ne 7) 7 31 27 := ⟨by decide +kernel, by decide, rfl⟩
theorem d_M_isVisible_27 : dc b_M_isVisible 27 (.iconst 1) 1 28 := ⟨by decide +kernel, rfl⟩
theorem d_M_isVisible_28 : db b_M_isVisible 28 (.goto 4) 4 32 31 := ⟨by decide +kernel, by decide, rfl⟩
theorem d_M_isVisible_31 : dc b_M_isVisible 31 (.iconst 0) 1 32 := ⟨by decide +kernel, rfl⟩
theorem d_M_isVisible_32 : dc b_M_isVisible 32 (.ireturn) 1 33 := ⟨by decide +kernel, rfl⟩
set_option maxRecDepth 100000 in
def f_M_isVisible (S : gS) (d : gD) (o : Nat) (v1 : Int32) (v2 : Int32) : Option (Int32) :=
  kd S o 1 <|
  lt_ (sP S o 3) fun x2 =>
  nn x2 fun a3 =>
  kd S a3 60 <|
  gi (v1 - 24) (sN S a3) <|
  lt_ (sP S a3 (v1 - 24 : Int32).toNatClampNeg) fun x6 =>
  nn x6 fun a7 =>
  kd S a7 4 <|
  lt_ (dI d a7 1) fun x9 =>
  lt_ (dI d a7 2) fun x10 =>
  bd (f_M_faceFoundBy S d o v2 x9 x10) fun x11 =>
  if x11 = v1 then (
    some 1)
  else (
    some 0)
set_option maxRecDepth 100000 in
set_option maxHeartbeats 4000000 in
theorem c_M_isVisible (l : Launch) (G : gG) {S : gS} {d : gD} {o : Nat} {v1 : Int32} {v2 : Int32} {r : Int32} (h : f_M_isVisible S d o v1 v2 = some r) : GM l G y_M_isVisible b_M_isVisible 4 (some (.boolean)) 2 51 0 0 [.inr (.inr (some o)), .inl v1, .inl v2] S d (some (.int r)) S d := by
  refine GM.of (by decide) (Nat.le_of_ble_eq_true rfl) ?_
  intro X hl0 hG0 hR0 hE0
  have hE : gE X b_M_isVisible 4 "StandInMill" (some (.boolean)) "isVisible" 2 51 := hE0
  unfold f_M_isVisible at h
  refine gw.less (lv' := [some (va_rf (some o)), some (.int v1), some (.int v2), none]) (And.intro rfl (And.intro rfl (And.intro rfl trivial))) ?_
  refine g_aload_n (i := 0) hE d_M_isVisible_0 rfl rfl ?_
  obtain ⟨k1, h⟩ := kd_s h
  refine g_getR 3 hE kc_M k1 (Nat.le_of_ble_eq_true rfl) rfl m_44 d_M_isVisible_1 (fun x2 e => ?_)
  replace h := lt_i e h; clear e
  refine g_iload_n (i := 1) hE d_M_isVisible_4 rfl rfl ?_
  refine g_bipush hE d_M_isVisible_5 kb_24 ?_
  refine g_isub hE d_M_isVisible_7 ?_
  obtain ⟨a3, rfl, h⟩ := nn_s h
  obtain ⟨k4, h⟩ := kd_s h
  obtain ⟨g5, h⟩ := gi_s h
  refine g_aald hE k4 (by decide) rfl (fun _ => rfl) g5 d_M_isVisible_8 (fun x6 e => ?_)
  replace h := lt_i e h; clear e
  refine g_astore_n (i := 3) (lv' := [some (va_rf (some o)), some (.int v1), some (.int v2), some (va_rf x6)]) hE d_M_isVisible_9 rfl (Nat.le_of_ble_eq_true rfl) ⟨rfl, Nat.le_of_ble_eq_true rfl⟩ (lvp_i rfl) ?_
  refine g_aload_n (i := 0) hE d_M_isVisible_10 rfl rfl ?_
  refine g_iload_n (i := 2) hE d_M_isVisible_11 rfl rfl ?_
  refine g_aload_n (i := 3) hE d_M_isVisible_12 rfl rfl ?_
  obtain ⟨a7, rfl, h⟩ := nn_s h
  obtain ⟨k8, h⟩ := kd_s h
  refine g_getIN 1 hE kc_Fc k8 (Nat.le_of_ble_eq_true rfl) rfl nf_1 d_M_isVisible_13 (fun x9 e => ?_)
  replace h := lt_i e h; clear e
  refine g_aload_n (i := 3) hE d_M_isVisible_16 rfl rfl ?_
  refine g_getIN 2 hE kc_Fc k8 (Nat.le_of_ble_eq_true rfl) rfl nf_2 d_M_isVisible_17 (fun x10 e => ?_)
  replace h := lt_i e h; clear e
  obtain ⟨x11, e12, h⟩ := bd_s h
  refine g_callV (av := [.inr (.inr (some o)), .inl v2, .inl x9, .inl x10]) (as := [.inl v2, .inl x9, .inl x10]) (stk := [.int x11]) [] hE (c_M_faceFoundBy (xl X) (xG X) e12) ky_M_faceFoundBy ⟨Nat.le_of_ble_eq_true rfl, Nat.le_of_ble_eq_true rfl⟩ rfl kc_M k1 m_97 m_98 m_99 rfl d_M_isVisible_20 rfl rfl ct_0 (Nat.zero_le _) (Nat.zero_le _) ?_
  refine gw.cs (c2 := 0) (s2 := 0) rfl rfl ?_
  refine g_iload_n (i := 1) hE d_M_isVisible_23 rfl rfl ?_
  refine g_icmp_ne hE d_M_isVisible_24 (fun c13 => ?_) (fun c13 => ?_)
  · replace h := if_f c13 h
    refine g_iconst hE d_M_isVisible_31 ki_0 ?_
    cases h
    exact g_zret hE (Or.inl rfl) d_M_isVisible_32 rfl rfl
  · replace h := if_t c13 h
    refine g_iconst hE d_M_isVisible_27 ki_1 ?_
    refine g_goto hE d_M_isVisible_28 ?_
    cases h
    exact g_zret hE (Or.inr rfl) d_M_isVisible_32 rfl rfl
theorem d_Fc_addParent_0 : dc b_Fc_addParent 0 (.aload_n 0) 1 1 := ⟨by decide +kernel, rfl⟩
theorem d_Fc_addParent_1 : dc b_Fc_addParent 1 (.getfield 38) 3 4 := ⟨by decide +kernel, rfl⟩
theorem d_Fc_addParent_4 : dc b_Fc_addParent 4 (.aload_n 0) 1 5 := ⟨by decide +kernel, rfl⟩
theorem d_Fc_addParent_5 : dc b_Fc_addParent 5 (.getfield 9) 3 8 := ⟨by decide +kernel, rfl⟩
theorem d_Fc_addParent_8 : dc b_Fc_addParent 8 (.arraylength) 1 9 := ⟨by decide +kernel, rfl⟩
theorem d_Fc_addParent_9 : db b_Fc_addParent 9 (.if_icmp .ge 23) 23 32 12 := ⟨by decide +kernel, by decide, rfl⟩
theorem d_Fc_addParent_12 : dc b_Fc_addParent 12 (.aload_n 0) 1 13 := ⟨by decide +kernel, rfl⟩
theorem d_Fc_addParent_13 : dc b_Fc_addParent 13 (.getfield 9) 3 16 := ⟨by decide +kernel, rfl⟩
theorem d_Fc_addParent_16 : dc b_Fc_addParent 16 (.aload_n 0) 1 17 := ⟨by decide +kernel, rfl⟩
theorem d_Fc_addParent_17 : dc b_Fc_addParent 17 (.getfield 38) 3 20 := ⟨by decide +kernel, rfl⟩
theorem d_Fc_addParent_20 : dc b_Fc_addParent 20 (.iload_n 1) 1 21 := ⟨by decide +kernel, rfl⟩
theorem d_Fc_addParent_21 : dc b_Fc_addParent 21 (.iastore) 1 22 := ⟨by decide +kernel, rfl⟩
theorem d_Fc_addParent_22 : dc b_Fc_addParent 22 (.aload_n 0) 1 23 := ⟨by decide +kernel, rfl⟩
theorem d_Fc_addParent_23 : dc b_Fc_addParent 23 (.dup) 1 24 := ⟨by decide +kernel, rfl⟩
theorem d_Fc_addParent_24 : dc b_Fc_addParent 24 (.getfield 38) 3 27 := ⟨by decide +kernel, rfl⟩
theorem d_Fc_addParent_27 : dc b_Fc_addParent 27 (.iconst 1) 1 28 := ⟨by decide +kernel, rfl⟩
theorem d_Fc_addParent_28 : dc b_Fc_addParent 28 (.iadd) 1 29 := ⟨by decide +kernel, rfl⟩
theorem d_Fc_addParent_29 : dc b_Fc_addParent 29 (.putfield 38) 3 32 := ⟨by decide +kernel, rfl⟩
theorem d_Fc_addParent_32 : dc b_Fc_addParent 32 (.return_) 1 33 := ⟨by decide +kernel, rfl⟩
set_option maxRecDepth 100000 in
def f_Fc_addParent (S : gS) (d : gD) (o : Nat) (v1 : Int32) : Option (Unit × gD) :=
  kd S o 4 <|
  lt_ (dI d o 5) fun x2 =>
  lt_ (sP S o 4) fun x3 =>
  nn x3 fun a4 =>
  kd S a4 50 <|
  if (Int32.ofNat (sN S a4)) ≤ x2 then (
    some ((), d))
  else (
    lt_ (sP S o 4) fun x6 =>
    lt_ (dI d o 5) fun x7 =>
    nn x6 fun a8 =>
    kd S a8 50 <|
    gi x7 (sN S a8) <|
    lt_ (wI d a8 x7.toNatClampNeg v1) fun d11 =>
    lt_ (dI d11 o 5) fun x12 =>
    lt_ (wI d11 o 5 (x12 + 1)) fun d13 =>
    some ((), d13))
set_option maxRecDepth 100000 in
set_option maxHeartbeats 4000000 in
theorem c_Fc_addParent (l : Launch) (G : gG) {S : gS} {d : gD} {o : Nat} {v1 : Int32} {r : Unit} {d' : gD} (h : f_Fc_addParent S d o v1 = some (r, d')) : GM l G y_Fc_addParent b_Fc_addParent 2 none 0 0 0 0 [.inr (.inr (some o)), .inl v1] S d (none) S d' := by
  refine GM.of (by decide) (Nat.le_of_ble_eq_true rfl) ?_
  intro X hl0 hG0 hR0 hE0
  have hE : gE X b_Fc_addParent 2 "StandInMill$Face" none "addParent" 0 0 := hE0
  unfold f_Fc_addParent at h
  refine gw.less (lv' := [some (va_rf (some o)), some (.int v1)]) (And.intro rfl (And.intro rfl trivial)) ?_
  refine g_aload_n (i := 0) hE d_Fc_addParent_0 rfl rfl ?_
  obtain ⟨k1, h⟩ := kd_s h
  refine g_getI 5 hE kc_Fc k1 (Nat.le_of_ble_eq_true rfl) rfl m_107 d_Fc_addParent_1 (fun x2 e => ?_)
  replace h := lt_i e h; clear e
  refine g_aload_n (i := 0) hE d_Fc_addParent_4 rfl rfl ?_
  refine g_getR 4 hE kc_Fc k1 (Nat.le_of_ble_eq_true rfl) rfl m_89 d_Fc_addParent_5 (fun x3 e => ?_)
  replace h := lt_i e h; clear e
  obtain ⟨a4, rfl, h⟩ := nn_s h
  obtain ⟨k5, h⟩ := kd_s h
  refine g_alen hE k5 (by decide) d_Fc_addParent_8 ?_
  refine g_icmp_ge hE d_Fc_addParent_9 (fun c14 => ?_) (fun c14 => ?_)
  · replace h := if_t c14 h
    cases h
    exact g_vret hE d_Fc_addParent_32 rfl rfl
  · replace h := if_f c14 h
    refine g_aload_n (i := 0) hE d_Fc_addParent_12 rfl rfl ?_
    refine g_getR 4 hE kc_Fc k1 (Nat.le_of_ble_eq_true rfl) rfl m_89 d_Fc_addParent_13 (fun x6 e => ?_)
    replace h := lt_i e h; clear e
    refine g_aload_n (i := 0) hE d_Fc_addParent_16 rfl rfl ?_
    refine g_getI 5 hE kc_Fc k1 (Nat.le_of_ble_eq_true rfl) rfl m_107 d_Fc_addParent_17 (fun x7 e => ?_)
    replace h := lt_i e h; clear e
    refine g_iload_n (i := 1) hE d_Fc_addParent_20 rfl rfl ?_
    obtain ⟨a8, rfl, h⟩ := nn_s h
    obtain ⟨k9, h⟩ := kd_s h
    obtain ⟨g10, h⟩ := gi_s h
    refine g_iast hE k9 g10 d_Fc_addParent_21 (fun d11 e => ?_)
    replace h := lt_i e h; clear e
    refine g_aload_n (i := 0) hE d_Fc_addParent_22 rfl rfl ?_
    refine g_dupr hE d_Fc_addParent_23 ?_
    refine g_getI 5 hE kc_Fc k1 (Nat.le_of_ble_eq_true rfl) rfl m_107 d_Fc_addParent_24 (fun x12 e => ?_)
    replace h := lt_i e h; clear e
    refine g_iconst hE d_Fc_addParent_27 ki_1 ?_
    refine g_iadd hE d_Fc_addParent_28 ?_
    refine g_putI 5 hE kc_Fc k1 (Nat.le_of_ble_eq_true rfl) rfl m_107 rfl (by decide +kernel) d_Fc_addParent_29 (fun d13 e => ?_)
    replace h := lt_i e h; clear e
    cases h
    exact g_vret hE d_Fc_addParent_32 rfl rfl
theorem d_Ty_isBelow_0 : dc b_Ty_isBelow 0 (.iload_n 1) 1 1 := ⟨by decide +kernel, rfl⟩
theorem d_Ty_isBelow_1 : dc b_Ty_isBelow 1 (.iload_n 2) 1 2 := ⟨by decide +kernel, rfl⟩
theorem d_Ty_isBelow_2 : db b_Ty_isBelow 2 (.if_icmp .eq 37) 37 39 5 := ⟨by decide +kernel, by decide, rfl⟩
theorem d_Ty_isBelow_5 : dc b_Ty_isBelow 5 (.iload_n 1) 1 6 := ⟨by decide +kernel, rfl⟩
theorem d_Ty_isBelow_6 : dc b_Ty_isBelow 6 (.bipush 47) 2 8 := ⟨by decide +kernel, rfl⟩
theorem d_Ty_isBelow_8 : dc b_Ty_isBelow 8 (.invokestatic 34) 3 11 := ⟨by decide +kernel, rfl⟩
theorem d_Ty_isBelow_11 : db b_Ty_isBelow 11 (.ifCond .eq 32) 32 43 14 := ⟨by decide +kernel, by decide, rfl⟩
theorem d_Ty_isBelow_14 : dc b_Ty_isBelow 14 (.iload_n 2) 1 15 := ⟨by decide +kernel, rfl⟩
theorem d_Ty_isBelow_15 : dc b_Ty_isBelow 15 (.bipush 47) 2 17 := ⟨by decide +kernel, rfl⟩
theorem d_Ty_isBelow_17 : dc b_Ty_isBelow 17 (.invokestatic 34) 3 20 := ⟨by decide +kernel, rfl⟩
theorem d_Ty_isBelow_20 : db b_Ty_isBelow 20 (.ifCond .eq 23) 23 43 23 := ⟨by decide +kernel, by decide, rfl⟩
theorem d_Ty_isBelow_23 : dc b_Ty_isBelow 23 (.aload_n 0) 1 24 := ⟨by decide +kernel, rfl⟩
theorem d_Ty_isBelow_24 : dc b_Ty_isBelow 24 (.getfield 11) 3 27 := ⟨by decide +kernel, rfl⟩
theorem d_Ty_isBelow_27 : dc b_Ty_isBelow 27 (.iload_n 1) 1 28 := ⟨by decide +kernel, rfl⟩
theorem d_Ty_isBelow_28 : dc b_Ty_isBelow 28 (.laload) 1 29 := ⟨by decide +kernel, rfl⟩
theorem d_Ty_isBelow_29 : dc b_Ty_isBelow 29 (.iload_n 2) 1 30 := ⟨by decide +kernel, rfl⟩
theorem d_Ty_isBelow_30 : dc b_Ty_isBelow 30 (.invokestatic 19) 3 33 := ⟨by decide +kernel, rfl⟩
theorem d_Ty_isBelow_33 : dc b_Ty_isBelow 33 (.land) 1 34 := ⟨by decide +kernel, rfl⟩
theorem d_Ty_isBelow_34 : dc b_Ty_isBelow 34 (.lconst 0) 1 35 := ⟨by decide +kernel, rfl⟩
theorem d_Ty_isBelow_35 : dc b_Ty_isBelow 35 (.lcmp) 1 36 := ⟨by decide +kernel, rfl⟩
theorem d_Ty_isBelow_36 : db b_Ty_isBelow 36 (.ifCond .eq 7) 7 43 39 := ⟨by decide +kernel, by decide, rfl⟩
theorem d_Ty_isBelow_39 : dc b_Ty_isBelow 39 (.iconst 1) 1 40 := ⟨by decide +kernel, rfl⟩
theorem d_Ty_isBelow_40 : db b_Ty_isBelow 40 (.goto 4) 4 44 43 := ⟨by decide +kernel, by decide, rfl⟩
theorem d_Ty_isBelow_43 : dc b_Ty_isBelow 43 (.iconst 0) 1 44 := ⟨by decide +kernel, rfl⟩
theorem d_Ty_isBelow_44 : dc b_Ty_isBelow 44 (.ireturn) 1 45 := ⟨by decide +kernel, rfl⟩
def f_Ty_isBelow_J39 (S : gS) (d : gD) (o : Nat) : Option (Int32) :=
  some 1
set_option maxRecDepth 100000 in
set_option maxHeartbeats 4000000 in
theorem w_Ty_isBelow_J39 {X : GX} (hE : gE X b_Ty_isBelow 3 "StandInMill$Types" (some (.boolean)) "isBelow" 1 21) {S : gS} {d : gD} {o : Nat} {r : Int32} :
    ∀ (_ : Unit), f_Ty_isBelow_J39 S d o = some r → gw X 0 0 (gQ X (some (.int r)) S d 0 0) S d 39 [some (va_rf (some o)), none, none] [] := by
  intro _ h
  unfold f_Ty_isBelow_J39 at h
  refine g_iconst hE d_Ty_isBelow_39 ki_1 ?_
  refine g_goto hE d_Ty_isBelow_40 ?_
  cases h
  exact g_zret hE (Or.inr rfl) d_Ty_isBelow_44 rfl rfl
set_option maxRecDepth 100000 in
def f_Ty_isBelow (S : gS) (d : gD) (o : Nat) (v1 : Int32) (v2 : Int32) : Option (Int32) :=
  if v1 = v2 then (
    f_Ty_isBelow_J39 S d o)
  else (
    bd (f_M_isWithin S d v1 47) fun x1 =>
    if x1 = 0 then (
      some 0)
    else (
      bd (f_M_isWithin S d v2 47) fun x3 =>
      if x3 = 0 then (
        some 0)
      else (
        kd S o 8 <|
        lt_ (sP S o 0) fun x6 =>
        nn x6 fun a7 =>
        kd S a7 51 <|
        gi v1 (sN S a7) <|
        lt_ (dL d a7 v1.toNatClampNeg) fun x10 =>
        bd (f_Ty_bit S d v2) fun x11 =>
        if (lg_cmp (x10 &&& x11) 0) = 0 then (
          some 0)
        else (
          f_Ty_isBelow_J39 S d o))))
set_option maxRecDepth 100000 in
set_option maxHeartbeats 4000000 in
theorem c_Ty_isBelow (l : Launch) (G : gG) {S : gS} {d : gD} {o : Nat} {v1 : Int32} {v2 : Int32} {r : Int32} (h : f_Ty_isBelow S d o v1 v2 = some r) : GM l G y_Ty_isBelow b_Ty_isBelow 3 (some (.boolean)) 1 21 0 0 [.inr (.inr (some o)), .inl v1, .inl v2] S d (some (.int r)) S d := by
  refine GM.of (by decide) (Nat.le_of_ble_eq_true rfl) ?_
  intro X hl0 hG0 hR0 hE0
  have hE : gE X b_Ty_isBelow 3 "StandInMill$Types" (some (.boolean)) "isBelow" 1 21 := hE0
  unfold f_Ty_isBelow at h
  refine gw.less (lv' := [some (va_rf (some o)), some (.int v1), some (.int v2)]) (And.intro rfl (And.intro rfl (And.intro rfl trivial))) ?_
  refine g_iload_n (i := 1) hE d_Ty_isBelow_0 rfl rfl ?_
  refine g_iload_n (i := 2) hE d_Ty_isBelow_1 rfl rfl ?_
  refine g_icmp_eq hE d_Ty_isBelow_2 (fun c16 => ?_) (fun c16 => ?_)
  · replace h := if_t c16 h
    exact gw.less (lv' := [some (va_rf (some o)), none, none]) (And.intro rfl trivial) (w_Ty_isBelow_J39 hE () h)
  · replace h := if_f c16 h
    refine g_iload_n (i := 1) hE d_Ty_isBelow_5 rfl rfl ?_
    refine g_bipush hE d_Ty_isBelow_6 kb_47 ?_
    obtain ⟨x1, e2, h⟩ := bd_s h
    refine g_callSN (av := [.inl v1, .inl 47]) (stk := [.int x1]) [] hE (c_M_isWithin (xl X) (xG X) e2) ky_M_isWithin ⟨Nat.le_of_ble_eq_true rfl, Nat.le_of_ble_eq_true rfl⟩ nm_1 m_74 rfl d_Ty_isBelow_8 rfl rfl ct_0 (Nat.zero_le _) (Nat.zero_le _) ?_
    refine gw.cs (c2 := 0) (s2 := 0) rfl rfl ?_
    refine g_if_eq hE d_Ty_isBelow_11 (fun c15 => ?_) (fun c15 => ?_)
    · replace h := if_t c15 h
      refine g_iconst hE d_Ty_isBelow_43 ki_0 ?_
      cases h
      exact g_zret hE (Or.inl rfl) d_Ty_isBelow_44 rfl rfl
    · replace h := if_f c15 h
      refine g_iload_n (i := 2) hE d_Ty_isBelow_14 rfl rfl ?_
      refine g_bipush hE d_Ty_isBelow_15 kb_47 ?_
      obtain ⟨x3, e4, h⟩ := bd_s h
      refine g_callSN (av := [.inl v2, .inl 47]) (stk := [.int x3]) [] hE (c_M_isWithin (xl X) (xG X) e4) ky_M_isWithin ⟨Nat.le_of_ble_eq_true rfl, Nat.le_of_ble_eq_true rfl⟩ nm_1 m_74 rfl d_Ty_isBelow_17 rfl rfl ct_0 (Nat.zero_le _) (Nat.zero_le _) ?_
      refine gw.cs (c2 := 0) (s2 := 0) rfl rfl ?_
      refine g_if_eq hE d_Ty_isBelow_20 (fun c14 => ?_) (fun c14 => ?_)
      · replace h := if_t c14 h
        refine g_iconst hE d_Ty_isBelow_43 ki_0 ?_
        cases h
        exact g_zret hE (Or.inl rfl) d_Ty_isBelow_44 rfl rfl
      · replace h := if_f c14 h
        refine g_aload_n (i := 0) hE d_Ty_isBelow_23 rfl rfl ?_
        obtain ⟨k5, h⟩ := kd_s h
        refine g_getR 0 hE kc_Ty k5 (Nat.le_of_ble_eq_true rfl) rfl m_4 d_Ty_isBelow_24 (fun x6 e => ?_)
        replace h := lt_i e h; clear e
        refine g_iload_n (i := 1) hE d_Ty_isBelow_27 rfl rfl ?_
        obtain ⟨a7, rfl, h⟩ := nn_s h
        obtain ⟨k8, h⟩ := kd_s h
        obtain ⟨g9, h⟩ := gi_s h
        refine g_lald hE k8 g9 d_Ty_isBelow_28 (fun x10 e => ?_)
        replace h := lt_i e h; clear e
        refine g_iload_n (i := 2) hE d_Ty_isBelow_29 rfl rfl ?_
        obtain ⟨x11, e12, h⟩ := bd_s h
        refine g_callS (av := [.inl v2]) (stk := [.long x11, .long x10]) [.long x10] hE (c_Ty_bit (xl X) (xG X) e12) ky_Ty_bit ⟨Nat.le_of_ble_eq_true rfl, Nat.le_of_ble_eq_true rfl⟩ m_6 m_7 rfl d_Ty_isBelow_30 rfl rfl (Nat.le_trans (ct_l ct_n) (Nat.le_of_ble_eq_true rfl)) (Nat.zero_le _) (Nat.zero_le _) ?_
        refine gw.cs (c2 := 0) (s2 := 0) rfl rfl ?_
        refine g_land hE d_Ty_isBelow_33 ?_
        refine g_lconst (v := 0) hE d_Ty_isBelow_34 rfl ?_
        refine g_lcmp hE d_Ty_isBelow_35 ?_
        refine g_if_eq hE d_Ty_isBelow_36 (fun c13 => ?_) (fun c13 => ?_)
        · replace h := if_t c13 h
          refine g_iconst hE d_Ty_isBelow_43 ki_0 ?_
          cases h
          exact g_zret hE (Or.inl rfl) d_Ty_isBelow_44 rfl rfl
        · replace h := if_f c13 h
          exact gw.less (lv' := [some (va_rf (some o)), none, none]) (And.intro rfl trivial) (w_Ty_isBelow_J39 hE () h)
theorem d_Ty_putBelow_0 : dc b_Ty_putBelow 0 (.iload_n 1) 1 1 := ⟨by decide +kernel, rfl⟩
theorem d_Ty_putBelow_1 : dc b_Ty_putBelow 1 (.istore_n 3) 1 2 := ⟨by decide +kernel, rfl⟩
theorem d_Ty_putBelow_2 : dc b_Ty_putBelow 2 (.iload_n 3) 1 3 := ⟨by decide +kernel, rfl⟩
theorem d_Ty_putBelow_3 : dc b_Ty_putBelow 3 (.bipush 36) 2 5 := ⟨by decide +kernel, rfl⟩
theorem d_Ty_putBelow_5 : db b_Ty_putBelow 5 (.if_icmp .ge 33) 33 38 8 := ⟨by decide +kernel, by decide, rfl⟩
theorem d_Ty_putBelow_8 : dc b_Ty_putBelow 8 (.aload_n 0) 1 9 := ⟨by decide +kernel, rfl⟩
theorem d_Ty_putBelow_9 : dc b_Ty_putBelow 9 (.iload_n 3) 1 10 := ⟨by decide +kernel, rfl⟩
theorem d_Ty_putBelow_10 : dc b_Ty_putBelow 10 (.iload_n 1) 1 11 := ⟨by decide +kernel, rfl⟩
theorem d_Ty_putBelow_11 : dc b_Ty_putBelow 11 (.invokevirtual 27) 3 14 := ⟨by decide +kernel, rfl⟩
theorem d_Ty_putBelow_14 : db b_Ty_putBelow 14 (.ifCond .eq 18) 18 32 17 := ⟨by decide +kernel, by decide, rfl⟩
theorem d_Ty_putBelow_17 : dc b_Ty_putBelow 17 (.aload_n 0) 1 18 := ⟨by decide +kernel, rfl⟩
theorem d_Ty_putBelow_18 : dc b_Ty_putBelow 18 (.getfield 11) 3 21 := ⟨by decide +kernel, rfl⟩
theorem d_Ty_putBelow_21 : dc b_Ty_putBelow 21 (.iload_n 3) 1 22 := ⟨by decide +kernel, rfl⟩
theorem d_Ty_putBelow_22 : dc b_Ty_putBelow 22 (.dup2) 1 23 := ⟨by decide +kernel, rfl⟩
theorem d_Ty_putBelow_23 : dc b_Ty_putBelow 23 (.laload) 1 24 := ⟨by decide +kernel, rfl⟩
theorem d_Ty_putBelow_24 : dc b_Ty_putBelow 24 (.aload_n 0) 1 25 := ⟨by decide +kernel, rfl⟩
theorem d_Ty_putBelow_25 : dc b_Ty_putBelow 25 (.getfield 11) 3 28 := ⟨by decide +kernel, rfl⟩
theorem d_Ty_putBelow_28 : dc b_Ty_putBelow 28 (.iload_n 2) 1 29 := ⟨by decide +kernel, rfl⟩
theorem d_Ty_putBelow_29 : dc b_Ty_putBelow 29 (.laload) 1 30 := ⟨by decide +kernel, rfl⟩
theorem d_Ty_putBelow_30 : dc b_Ty_putBelow 30 (.lor) 1 31 := ⟨by decide +kernel, rfl⟩
theorem d_Ty_putBelow_31 : dc b_Ty_putBelow 31 (.lastore) 1 32 := ⟨by decide +kernel, rfl⟩
theorem d_Ty_putBelow_32 : dc b_Ty_putBelow 32 (.iinc 3 1) 3 35 := ⟨by decide +kernel, rfl⟩
theorem d_Ty_putBelow_35 : db b_Ty_putBelow 35 (.goto (-33)) (-33) 2 38 := ⟨by decide +kernel, by decide, rfl⟩
theorem d_Ty_putBelow_38 : dc b_Ty_putBelow 38 (.return_) 1 39 := ⟨by decide +kernel, rfl⟩
def f_Ty_putBelow_J32 (S : gS) (o : Nat) (kb : gD → Int32 → Int32 → Int32 → Option (Unit × gD)) (d : gD) (v1 : Int32) (v2 : Int32) (v3 : Int32) : Option (Unit × gD) :=
  kb d v1 v2 (v3 + 1)
set_option maxRecDepth 100000 in
set_option maxHeartbeats 4000000 in
theorem w_Ty_putBelow_J32 {X : GX} (hE : gE X b_Ty_putBelow 4 "StandInMill$Types" none "putBelow" 2 43) {S : gS} {o : Nat} {r : Unit} {d' : gD} {kb : gD → Int32 → Int32 → Int32 → Option (Unit × gD)} (hkb : ∀ (d : gD) (v1 : Int32) (v2 : Int32) (v3 : Int32), kb d v1 v2 v3 = some (r, d') → gw X 0 0 (gQ X (none) S d' 0 0) S d 2 [some (va_rf (some o)), some (.int v1), some (.int v2), some (.int v3)] []) :
    ∀ (d : gD) (v1 : Int32) (v2 : Int32) (v3 : Int32), f_Ty_putBelow_J32 S o kb d v1 v2 v3 = some (r, d') → gw X 0 0 (gQ X (none) S d' 0 0) S d 32 [some (va_rf (some o)), some (.int v1), some (.int v2), some (.int v3)] [] := by
  intro d v1 v2 v3 h
  unfold f_Ty_putBelow_J32 at h
  refine g_iinc (i := 3) (lv' := [some (va_rf (some o)), some (.int v1), some (.int v2), some (.int (v3 + 1))]) hE d_Ty_putBelow_32 ki_1 rfl (Nat.le_of_ble_eq_true rfl) ⟨rfl, Nat.le_of_ble_eq_true rfl⟩ (lvp_i rfl) ?_
  refine g_goto hE d_Ty_putBelow_35 ?_
  exact gw.less (lv' := [some (va_rf (some o)), some (.int v1), some (.int v2), some (.int (v3 + 1))]) (And.intro rfl (And.intro rfl (And.intro rfl (And.intro rfl trivial)))) (hkb d v1 v2 (v3 + 1) h)
def f_Ty_putBelow_B2 (S : gS) (o : Nat) (kb : gD → Int32 → Int32 → Int32 → Option (Unit × gD)) (d : gD) (v1 : Int32) (v2 : Int32) (v3 : Int32) : Option (Unit × gD) :=
  if 36 ≤ v3 then (
    some ((), d))
  else (
    kd S o 8 <|
    bd (f_Ty_isBelow S d o v3 v1) fun x2 =>
    if x2 = 0 then (
      f_Ty_putBelow_J32 S o kb d v1 v2 v3)
    else (
      lt_ (sP S o 0) fun x4 =>
      nn x4 fun a5 =>
      kd S a5 51 <|
      gi v3 (sN S a5) <|
      lt_ (dL d a5 v3.toNatClampNeg) fun x8 =>
      lt_ (sP S o 0) fun x9 =>
      nn x9 fun a10 =>
      kd S a10 51 <|
      gi v2 (sN S a10) <|
      lt_ (dL d a10 v2.toNatClampNeg) fun x13 =>
      gi v3 (sN S a5) <|
      lt_ (wL d a5 v3.toNatClampNeg (x8 ||| x13)) fun d15 =>
      f_Ty_putBelow_J32 S o kb d15 v1 v2 v3))
set_option maxRecDepth 100000 in
set_option maxHeartbeats 4000000 in
theorem w_Ty_putBelow_B2 {X : GX} (hE : gE X b_Ty_putBelow 4 "StandInMill$Types" none "putBelow" 2 43) {S : gS} {o : Nat} {r : Unit} {d' : gD} {kb : gD → Int32 → Int32 → Int32 → Option (Unit × gD)} (hkb : ∀ (d : gD) (v1 : Int32) (v2 : Int32) (v3 : Int32), kb d v1 v2 v3 = some (r, d') → gw X 0 0 (gQ X (none) S d' 0 0) S d 2 [some (va_rf (some o)), some (.int v1), some (.int v2), some (.int v3)] []) :
    ∀ (d : gD) (v1 : Int32) (v2 : Int32) (v3 : Int32), f_Ty_putBelow_B2 S o kb d v1 v2 v3 = some (r, d') → gw X 0 0 (gQ X (none) S d' 0 0) S d 2 [some (va_rf (some o)), some (.int v1), some (.int v2), some (.int v3)] [] := by
  intro d v1 v2 v3 h
  unfold f_Ty_putBelow_B2 at h
  refine g_iload_n (i := 3) hE d_Ty_putBelow_2 rfl rfl ?_
  refine g_bipush hE d_Ty_putBelow_3 kb_36 ?_
  refine g_icmp_ge hE d_Ty_putBelow_5 (fun c17 => ?_) (fun c17 => ?_)
  · replace h := if_t c17 h
    cases h
    exact g_vret hE d_Ty_putBelow_38 rfl rfl
  · replace h := if_f c17 h
    refine g_aload_n (i := 0) hE d_Ty_putBelow_8 rfl rfl ?_
    refine g_iload_n (i := 3) hE d_Ty_putBelow_9 rfl rfl ?_
    refine g_iload_n (i := 1) hE d_Ty_putBelow_10 rfl rfl ?_
    obtain ⟨k1, h⟩ := kd_s h
    obtain ⟨x2, e3, h⟩ := bd_s h
    refine g_callV (av := [.inr (.inr (some o)), .inl v3, .inl v1]) (as := [.inl v3, .inl v1]) (stk := [.int x2]) [] hE (c_Ty_isBelow (xl X) (xG X) e3) ky_Ty_isBelow ⟨Nat.le_of_ble_eq_true rfl, Nat.le_of_ble_eq_true rfl⟩ rfl kc_Ty k1 m_108 m_109 m_110 rfl d_Ty_putBelow_11 rfl rfl ct_0 (Nat.zero_le _) (Nat.zero_le _) ?_
    refine gw.cs (c2 := 0) (s2 := 0) rfl rfl ?_
    refine g_if_eq hE d_Ty_putBelow_14 (fun c16 => ?_) (fun c16 => ?_)
    · replace h := if_t c16 h
      exact gw.less (lv' := [some (va_rf (some o)), some (.int v1), some (.int v2), some (.int v3)]) (And.intro rfl (And.intro rfl (And.intro rfl (And.intro rfl trivial)))) (w_Ty_putBelow_J32 hE hkb d v1 v2 v3 h)
    · replace h := if_f c16 h
      refine g_aload_n (i := 0) hE d_Ty_putBelow_17 rfl rfl ?_
      refine g_getR 0 hE kc_Ty k1 (Nat.le_of_ble_eq_true rfl) rfl m_4 d_Ty_putBelow_18 (fun x4 e => ?_)
      replace h := lt_i e h; clear e
      refine g_iload_n (i := 3) hE d_Ty_putBelow_21 rfl rfl ?_
      refine g_dup2ir hE d_Ty_putBelow_22 ?_
      obtain ⟨a5, rfl, h⟩ := nn_s h
      obtain ⟨k6, h⟩ := kd_s h
      obtain ⟨g7, h⟩ := gi_s h
      refine g_lald hE k6 g7 d_Ty_putBelow_23 (fun x8 e => ?_)
      replace h := lt_i e h; clear e
      refine g_aload_n (i := 0) hE d_Ty_putBelow_24 rfl rfl ?_
      refine g_getR 0 hE kc_Ty k1 (Nat.le_of_ble_eq_true rfl) rfl m_4 d_Ty_putBelow_25 (fun x9 e => ?_)
      replace h := lt_i e h; clear e
      refine g_iload_n (i := 2) hE d_Ty_putBelow_28 rfl rfl ?_
      obtain ⟨a10, rfl, h⟩ := nn_s h
      obtain ⟨k11, h⟩ := kd_s h
      obtain ⟨g12, h⟩ := gi_s h
      refine g_lald hE k11 g12 d_Ty_putBelow_29 (fun x13 e => ?_)
      replace h := lt_i e h; clear e
      refine g_lor hE d_Ty_putBelow_30 ?_
      obtain ⟨g14, h⟩ := gi_s h
      refine g_last hE k6 g14 d_Ty_putBelow_31 (fun d15 e => ?_)
      replace h := lt_i e h; clear e
      exact gw.less (lv' := [some (va_rf (some o)), some (.int v1), some (.int v2), some (.int v3)]) (And.intro rfl (And.intro rfl (And.intro rfl (And.intro rfl trivial)))) (w_Ty_putBelow_J32 hE hkb d15 v1 v2 v3 h)
theorem w_Ty_putBelow_L2 {X : GX} (hE : gE X b_Ty_putBelow 4 "StandInMill$Types" none "putBelow" 2 43) {S : gS} {o : Nat} {r : Unit} {d' : gD} : ∀ (n : Nat) (d : gD) (v1 : Int32) (v2 : Int32) (v3 : Int32), itr (f_Ty_putBelow_B2 S o) (fun _ _ _ _ => none) n d v1 v2 v3 = some (r, d') → gw X 0 0 (gQ X (none) S d' 0 0) S d 2 [some (va_rf (some o)), some (.int v1), some (.int v2), some (.int v3)] [] := by
  intro n
  induction n with
  | zero => intro d v1 v2 v3 h; cases h
  | succ n ih => exact w_Ty_putBelow_B2 hE ih
set_option maxRecDepth 100000 in
def f_Ty_putBelow (S : gS) (d : gD) (o : Nat) (v1 : Int32) (v2 : Int32) : Option (Unit × gD) :=
  itr (f_Ty_putBelow_B2 S o) (fun _ _ _ _ => none) fu d v1 v2 v1
set_option maxRecDepth 100000 in
set_option maxHeartbeats 4000000 in
theorem c_Ty_putBelow (l : Launch) (G : gG) {S : gS} {d : gD} {o : Nat} {v1 : Int32} {v2 : Int32} {r : Unit} {d' : gD} (h : f_Ty_putBelow S d o v1 v2 = some (r, d')) : GM l G y_Ty_putBelow b_Ty_putBelow 4 none 2 43 0 0 [.inr (.inr (some o)), .inl v1, .inl v2] S d (none) S d' := by
  refine GM.of (by decide) (Nat.le_of_ble_eq_true rfl) ?_
  intro X hl0 hG0 hR0 hE0
  have hE : gE X b_Ty_putBelow 4 "StandInMill$Types" none "putBelow" 2 43 := hE0
  unfold f_Ty_putBelow at h
  refine gw.less (lv' := [some (va_rf (some o)), some (.int v1), some (.int v2), none]) (And.intro rfl (And.intro rfl (And.intro rfl trivial))) ?_
  refine g_iload_n (i := 1) hE d_Ty_putBelow_0 rfl rfl ?_
  refine g_istore_n (i := 3) (lv' := [some (va_rf (some o)), some (.int v1), some (.int v2), some (.int v1)]) hE d_Ty_putBelow_1 rfl (Nat.le_of_ble_eq_true rfl) ⟨rfl, Nat.le_of_ble_eq_true rfl⟩ (lvp_i rfl) ?_
  exact gw.less (lv' := [some (va_rf (some o)), some (.int v1), some (.int v2), some (.int v1)]) (And.intro rfl (And.intro rfl (And.intro rfl (And.intro rfl trivial)))) (w_Ty_putBelow_L2 hE fu d v1 v2 v1 h)
theorem d_M_extend_0 : dc b_M_extend 0 (.aload_n 0) 1 1 := ⟨by decide +kernel, rfl⟩
theorem d_M_extend_1 : dc b_M_extend 1 (.getfield 112) 3 4 := ⟨by decide +kernel, rfl⟩
theorem d_M_extend_4 : db b_M_extend 4 (.ifCond .gt 24) 24 28 7 := ⟨by decide +kernel, by decide, rfl⟩
theorem d_M_extend_7 : dc b_M_extend 7 (.aload_n 0) 1 8 := ⟨by decide +kernel, rfl⟩
theorem d_M_extend_8 : dc b_M_extend 8 (.iload_n 1) 1 9 := ⟨by decide +kernel, rfl⟩
theorem d_M_extend_9 : dc b_M_extend 9 (.invokevirtual 115) 3 12 := ⟨by decide +kernel, rfl⟩
theorem d_M_extend_12 : db b_M_extend 12 (.ifCond .eq 16) 16 28 15 := ⟨by decide +kernel, by decide, rfl⟩
theorem d_M_extend_15 : dc b_M_extend 15 (.aload_n 0) 1 16 := ⟨by decide +kernel, rfl⟩
theorem d_M_extend_16 : dc b_M_extend 16 (.iload_n 2) 1 17 := ⟨by decide +kernel, rfl⟩
theorem d_M_extend_17 : dc b_M_extend 17 (.invokevirtual 115) 3 20 := ⟨by decide +kernel, rfl⟩
theorem d_M_extend_20 : db b_M_extend 20 (.ifCond .eq 8) 8 28 23 := ⟨by decide +kernel, by decide, rfl⟩
theorem d_M_extend_23 : dc b_M_extend 23 (.iload_n 2) 1 24 := ⟨by decide +kernel, rfl⟩
theorem d_M_extend_24 : dc b_M_extend 24 (.iload_n 1) 1 25 := ⟨by decide +kernel, rfl⟩
theorem d_M_extend_25 : db b_M_extend 25 (.if_icmp .lt 5) 5 30 28 := ⟨by decide +kernel, by decide, rfl⟩
theorem d_M_extend_28 : dc b_M_extend 28 (.iconst 0) 1 29 := ⟨by decide +kernel, rfl⟩
theorem d_M_extend_29 : dc b_M_extend 29 (.ireturn) 1 30 := ⟨by decide +kernel, rfl⟩
theorem d_M_extend_30 : dc b_M_extend 30 (.aload_n 0) 1 31 := ⟨by decide +kernel, rfl⟩
theorem d_M_extend_31 : dc b_M_extend 31 (.getfield 22) 3 34 := ⟨by decide +kernel, rfl⟩
theorem d_M_extend_34 : dc b_M_extend 34 (.iload_n 1) 1 35 := ⟨by decide +kernel, rfl⟩
theorem d_M_extend_35 : dc b_M_extend 35 (.bipush 24) 2 37 := ⟨by decide +kernel, rfl⟩
theorem d_M_extend_37 : dc b_M_extend 37 (.isub) 1 38 := ⟨by decide +kernel, rfl⟩
theorem d_M_extend_38 : dc b_M_extend 38 (.aaload) 1 39 := ⟨by decide +kernel, rfl⟩
theorem d_M_extend_39 : dc b_M_extend 39 (.astore_n 3) 1 40 := ⟨by decide +kernel, rfl⟩
theorem d_M_extend_40 : dc b_M_extend 40 (.aload_n 3) 1 41 := ⟨by decide +kernel, rfl⟩
theorem d_M_extend_41 : dc b_M_extend 41 (.iload_n 2) 1 42 := ⟨by decide +kernel, rfl⟩
theorem d_M_extend_42 : dc b_M_extend 42 (.invokevirtual 118) 3 45 := ⟨by decide +kernel, rfl⟩
theorem d_M_extend_45 : db b_M_extend 45 (.ifCond .ne 23) 23 68 48 := ⟨by decide +kernel, by decide, rfl⟩
theorem d_M_extend_48 : dc b_M_extend 48 (.aload_n 3) 1 49 := ⟨by decide +kernel, rfl⟩
theorem d_M_extend_49 : dc b_M_extend 49 (.getfield 121) 3 52 := ⟨by decide +kernel, rfl⟩
theorem d_M_extend_52 : dc b_M_extend 52 (.iconst 2) 1 53 := ⟨by decide +kernel, rfl⟩
theorem d_M_extend_53 : db b_M_extend 53 (.if_icmp .eq 15) 15 68 56 := ⟨by decide +kernel, by decide, rfl⟩
theorem d_M_extend_56 : dc b_M_extend 56 (.aload_n 0) 1 57 := ⟨by decide +kernel, rfl⟩
theorem d_M_extend_57 : dc b_M_extend 57 (.iload_n 2) 1 58 := ⟨by decide +kernel, rfl⟩
theorem d_M_extend_58 : dc b_M_extend 58 (.aload_n 3) 1 59 := ⟨by decide +kernel, rfl⟩
theorem d_M_extend_59 : dc b_M_extend 59 (.getfield 124) 3 62 := ⟨by decide +kernel, rfl⟩
theorem d_M_extend_62 : dc b_M_extend 62 (.invokevirtual 127) 3 65 := ⟨by decide +kernel, rfl⟩
theorem d_M_extend_65 : db b_M_extend 65 (.ifCond .ne 5) 5 70 68 := ⟨by decide +kernel, by decide, rfl⟩
theorem d_M_extend_68 : dc b_M_extend 68 (.iconst 0) 1 69 := ⟨by decide +kernel, rfl⟩
theorem d_M_extend_69 : dc b_M_extend 69 (.ireturn) 1 70 := ⟨by decide +kernel, rfl⟩
theorem d_M_extend_70 : dc b_M_extend 70 (.aload_n 3) 1 71 := ⟨by decide +kernel, rfl⟩
theorem d_M_extend_71 : dc b_M_extend 71 (.iload_n 2) 1 72 := ⟨by decide +kernel, rfl⟩
theorem d_M_extend_72 : dc b_M_extend 72 (.invokevirtual 130) 3 75 := ⟨by decide +kernel, rfl⟩
theorem d_M_extend_75 : dc b_M_extend 75 (.aload_n 0) 1 76 := ⟨by decide +kernel, rfl⟩
theorem d_M_extend_76 : dc b_M_extend 76 (.getfield 10) 3 79 := ⟨by decide +kernel, rfl⟩
theorem d_M_extend_79 : dc b_M_extend 79 (.iload_n 1) 1 80 := ⟨by decide +kernel, rfl⟩
theorem d_M_extend_80 : dc b_M_extend 80 (.iload_n 2) 1 81 := ⟨by decide +kernel, rfl⟩
theorem d_M_extend_81 : dc b_M_extend 81 (.invokevirtual 133) 3 84 := ⟨by decide +kernel, rfl⟩
theorem d_M_extend_84 : dc b_M_extend 84 (.aload_n 0) 1 85 := ⟨by decide +kernel, rfl⟩
theorem d_M_extend_85 : dc b_M_extend 85 (.iconst 0) 1 86 := ⟨by decide +kernel, rfl⟩
theorem d_M_extend_86 : dc b_M_extend 86 (.putfield 137) 3 89 := ⟨by decide +kernel, rfl⟩
theorem d_M_extend_89 : dc b_M_extend 89 (.iconst 1) 1 90 := ⟨by decide +kernel, rfl⟩
theorem d_M_extend_90 : dc b_M_extend 90 (.ireturn) 1 91 := ⟨by decide +kernel, rfl⟩
set_option maxRecDepth 100000 in
def f_M_extend (S : gS) (d : gD) (o : Nat) (v1 : Int32) (v2 : Int32) : Option (Int32 × gD) :=
  kd S o 1 <|
  lt_ (dI d o 10) fun x2 =>
  if 0 < x2 then (
    some (0, d))
  else (
    bd (f_M_isFace S d o v1) fun x3 =>
    if x3 = 0 then (
      some (0, d))
    else (
      bd (f_M_isFace S d o v2) fun x5 =>
      if x5 = 0 then (
        some (0, d))
      else (
        if v2 < v1 then (
          lt_ (sP S o 3) fun x7 =>
          nn x7 fun a8 =>
          kd S a8 60 <|
          gi (v1 - 24) (sN S a8) <|
          lt_ (sP S a8 (v1 - 24 : Int32).toNatClampNeg) fun x11 =>
          nn x11 fun a12 =>
          kd S a12 4 <|
          bd (f_Fc_hasParent S d a12 v2) fun x14 =>
          if x14 = 0 then (
            lt_ (dI d a12 5) fun x16 =>
            if x16 = 2 then (
              some (0, d))
            else (
              lt_ (dI d a12 0) fun x17 =>
              bd (f_M_isVisible S d o v2 x17) fun x18 =>
              if x18 = 0 then (
                some (0, d))
              else (
                bdD (f_Fc_addParent S d a12 v2) fun _ d22 =>
                lt_ (sP S o 0) fun x23 =>
                nn x23 fun a24 =>
                kd S a24 8 <|
                bdD (f_Ty_putBelow S d22 a24 v1 v2) fun _ d28 =>
                lt_ (wI d28 o 13 0) fun d30 =>
                some (1, d30))))
          else (
            some (0, d)))
        else (
          some (0, d)))))
set_option maxRecDepth 100000 in
set_option maxHeartbeats 4000000 in
theorem c_M_extend (l : Launch) (G : gG) {S : gS} {d : gD} {o : Nat} {v1 : Int32} {v2 : Int32} {r : Int32} {d' : gD} (h : f_M_extend S d o v1 v2 = some (r, d')) : GM l G y_M_extend b_M_extend 4 (some (.boolean)) 3 74 0 0 [.inr (.inr (some o)), .inl v1, .inl v2] S d (some (.int r)) S d' := by
  refine GM.of (by decide) (Nat.le_of_ble_eq_true rfl) ?_
  intro X hl0 hG0 hR0 hE0
  have hE : gE X b_M_extend 4 "StandInMill" (some (.boolean)) "extend" 3 74 := hE0
  unfold f_M_extend at h
  refine gw.less (lv' := [some (va_rf (some o)), some (.int v1), some (.int v2), none]) (And.intro rfl (And.intro rfl (And.intro rfl trivial))) ?_
  refine g_aload_n (i := 0) hE d_M_extend_0 rfl rfl ?_
  obtain ⟨k1, h⟩ := kd_s h
  refine g_getI 10 hE kc_M k1 (Nat.le_of_ble_eq_true rfl) rfl m_111 d_M_extend_1 (fun x2 e => ?_)
  replace h := lt_i e h; clear e
  refine g_if_gt hE d_M_extend_4 (fun c37 => ?_) (fun c37 => ?_)
  · replace h := if_t c37 h
    refine g_iconst hE d_M_extend_28 ki_0 ?_
    cases h
    exact g_zret hE (Or.inl rfl) d_M_extend_29 rfl rfl
  · replace h := if_f c37 h
    refine g_aload_n (i := 0) hE d_M_extend_7 rfl rfl ?_
    refine g_iload_n (i := 1) hE d_M_extend_8 rfl rfl ?_
    obtain ⟨x3, e4, h⟩ := bd_s h
    refine g_callV (av := [.inr (.inr (some o)), .inl v1]) (as := [.inl v1]) (stk := [.int x3]) [] hE (c_M_isFace (xl X) (xG X) e4) ky_M_isFace ⟨Nat.le_of_ble_eq_true rfl, Nat.le_of_ble_eq_true rfl⟩ rfl kc_M k1 m_112 m_113 m_114 rfl d_M_extend_9 rfl rfl ct_0 (Nat.zero_le _) (Nat.zero_le _) ?_
    refine gw.cs (c2 := 0) (s2 := 0) rfl rfl ?_
    refine g_if_eq hE d_M_extend_12 (fun c36 => ?_) (fun c36 => ?_)
    · replace h := if_t c36 h
      refine g_iconst hE d_M_extend_28 ki_0 ?_
      cases h
      exact g_zret hE (Or.inl rfl) d_M_extend_29 rfl rfl
    · replace h := if_f c36 h
      refine g_aload_n (i := 0) hE d_M_extend_15 rfl rfl ?_
      refine g_iload_n (i := 2) hE d_M_extend_16 rfl rfl ?_
      obtain ⟨x5, e6, h⟩ := bd_s h
      refine g_callV (av := [.inr (.inr (some o)), .inl v2]) (as := [.inl v2]) (stk := [.int x5]) [] hE (c_M_isFace (xl X) (xG X) e6) ky_M_isFace ⟨Nat.le_of_ble_eq_true rfl, Nat.le_of_ble_eq_true rfl⟩ rfl kc_M k1 m_112 m_113 m_114 rfl d_M_extend_17 rfl rfl ct_0 (Nat.zero_le _) (Nat.zero_le _) ?_
      refine gw.cs (c2 := 0) (s2 := 0) rfl rfl ?_
      refine g_if_eq hE d_M_extend_20 (fun c35 => ?_) (fun c35 => ?_)
      · replace h := if_t c35 h
        refine g_iconst hE d_M_extend_28 ki_0 ?_
        cases h
        exact g_zret hE (Or.inl rfl) d_M_extend_29 rfl rfl
      · replace h := if_f c35 h
        refine g_iload_n (i := 2) hE d_M_extend_23 rfl rfl ?_
        refine g_iload_n (i := 1) hE d_M_extend_24 rfl rfl ?_
        refine g_icmp_lt hE d_M_extend_25 (fun c34 => ?_) (fun c34 => ?_)
        · replace h := if_t c34 h
          refine g_aload_n (i := 0) hE d_M_extend_30 rfl rfl ?_
          refine g_getR 3 hE kc_M k1 (Nat.le_of_ble_eq_true rfl) rfl m_44 d_M_extend_31 (fun x7 e => ?_)
          replace h := lt_i e h; clear e
          refine g_iload_n (i := 1) hE d_M_extend_34 rfl rfl ?_
          refine g_bipush hE d_M_extend_35 kb_24 ?_
          refine g_isub hE d_M_extend_37 ?_
          obtain ⟨a8, rfl, h⟩ := nn_s h
          obtain ⟨k9, h⟩ := kd_s h
          obtain ⟨g10, h⟩ := gi_s h
          refine g_aald hE k9 (by decide) rfl (fun _ => rfl) g10 d_M_extend_38 (fun x11 e => ?_)
          replace h := lt_i e h; clear e
          refine g_astore_n (i := 3) (lv' := [some (va_rf (some o)), some (.int v1), some (.int v2), some (va_rf x11)]) hE d_M_extend_39 rfl (Nat.le_of_ble_eq_true rfl) ⟨rfl, Nat.le_of_ble_eq_true rfl⟩ (lvp_i rfl) ?_
          refine g_aload_n (i := 3) hE d_M_extend_40 rfl rfl ?_
          refine g_iload_n (i := 2) hE d_M_extend_41 rfl rfl ?_
          obtain ⟨a12, rfl, h⟩ := nn_s h
          obtain ⟨k13, h⟩ := kd_s h
          obtain ⟨x14, e15, h⟩ := bd_s h
          refine g_callV (av := [.inr (.inr (some a12)), .inl v2]) (as := [.inl v2]) (stk := [.int x14]) [] hE (c_Fc_hasParent (xl X) (xG X) e15) ky_Fc_hasParent ⟨Nat.le_of_ble_eq_true rfl, Nat.le_of_ble_eq_true rfl⟩ rfl kc_Fc k13 m_115 m_116 m_117 rfl d_M_extend_42 rfl rfl ct_0 (Nat.zero_le _) (Nat.zero_le _) ?_
          refine gw.cs (c2 := 0) (s2 := 0) rfl rfl ?_
          refine g_if_ne hE d_M_extend_45 (fun c33 => ?_) (fun c33 => ?_)
          · replace h := if_f c33 h
            refine g_iconst hE d_M_extend_68 ki_0 ?_
            cases h
            exact g_zret hE (Or.inl rfl) d_M_extend_69 rfl rfl
          · replace h := if_t c33 h
            refine g_aload_n (i := 3) hE d_M_extend_48 rfl rfl ?_
            refine g_getIN 5 hE kc_Fc k13 (Nat.le_of_ble_eq_true rfl) rfl nf_3 d_M_extend_49 (fun x16 e => ?_)
            replace h := lt_i e h; clear e
            refine g_iconst hE d_M_extend_52 ki_2 ?_
            refine g_icmp_eq hE d_M_extend_53 (fun c32 => ?_) (fun c32 => ?_)
            · replace h := if_t c32 h
              refine g_iconst hE d_M_extend_68 ki_0 ?_
              cases h
              exact g_zret hE (Or.inl rfl) d_M_extend_69 rfl rfl
            · replace h := if_f c32 h
              refine g_aload_n (i := 0) hE d_M_extend_56 rfl rfl ?_
              refine g_iload_n (i := 2) hE d_M_extend_57 rfl rfl ?_
              refine g_aload_n (i := 3) hE d_M_extend_58 rfl rfl ?_
              refine g_getIN 0 hE kc_Fc k13 (Nat.le_of_ble_eq_true rfl) rfl nf_0 d_M_extend_59 (fun x17 e => ?_)
              replace h := lt_i e h; clear e
              obtain ⟨x18, e19, h⟩ := bd_s h
              refine g_callV (av := [.inr (.inr (some o)), .inl v2, .inl x17]) (as := [.inl v2, .inl x17]) (stk := [.int x18]) [] hE (c_M_isVisible (xl X) (xG X) e19) ky_M_isVisible ⟨Nat.le_of_ble_eq_true rfl, Nat.le_of_ble_eq_true rfl⟩ rfl kc_M k1 m_118 m_119 m_120 rfl d_M_extend_62 rfl rfl ct_0 (Nat.zero_le _) (Nat.zero_le _) ?_
              refine gw.cs (c2 := 0) (s2 := 0) rfl rfl ?_
              refine g_if_ne hE d_M_extend_65 (fun c31 => ?_) (fun c31 => ?_)
              · replace h := if_f c31 h
                refine g_aload_n (i := 3) hE d_M_extend_70 rfl rfl ?_
                refine g_iload_n (i := 2) hE d_M_extend_71 rfl rfl ?_
                obtain ⟨x20, d22, e21, h⟩ := bdD_s h
                refine g_callV (av := [.inr (.inr (some a12)), .inl v2]) (as := [.inl v2]) (stk := []) [] hE (c_Fc_addParent (xl X) (xG X) e21) ky_Fc_addParent ⟨Nat.le_of_ble_eq_true rfl, Nat.le_of_ble_eq_true rfl⟩ rfl kc_Fc k13 m_121 m_122 m_123 rfl d_M_extend_72 rfl rfl ct_0 (Nat.zero_le _) (Nat.zero_le _) ?_
                refine gw.cs (c2 := 0) (s2 := 0) rfl rfl ?_
                refine g_aload_n (i := 0) hE d_M_extend_75 rfl rfl ?_
                refine g_getR 0 hE kc_M k1 (Nat.le_of_ble_eq_true rfl) rfl m_41 d_M_extend_76 (fun x23 e => ?_)
                replace h := lt_i e h; clear e
                refine g_iload_n (i := 1) hE d_M_extend_79 rfl rfl ?_
                refine g_iload_n (i := 2) hE d_M_extend_80 rfl rfl ?_
                obtain ⟨a24, rfl, h⟩ := nn_s h
                obtain ⟨k25, h⟩ := kd_s h
                obtain ⟨x26, d28, e27, h⟩ := bdD_s h
                refine g_callV (av := [.inr (.inr (some a24)), .inl v1, .inl v2]) (as := [.inl v1, .inl v2]) (stk := []) [] hE (c_Ty_putBelow (xl X) (xG X) e27) ky_Ty_putBelow ⟨Nat.le_of_ble_eq_true rfl, Nat.le_of_ble_eq_true rfl⟩ rfl kc_Ty k25 m_124 m_125 m_126 rfl d_M_extend_81 rfl rfl ct_0 (Nat.zero_le _) (Nat.zero_le _) ?_
                refine gw.cs (c2 := 0) (s2 := 0) rfl rfl ?_
                refine g_aload_n (i := 0) hE d_M_extend_84 rfl rfl ?_
                refine g_iconst hE d_M_extend_85 ki_0 ?_
                refine g_putZ 13 hE kc_M k1 (Nat.le_of_ble_eq_true rfl) rfl m_127 rfl (by decide +kernel) (Or.inl rfl) d_M_extend_86 (fun d30 e => ?_)
                replace h := lt_i e h; clear e
                refine g_iconst hE d_M_extend_89 ki_1 ?_
                cases h
                exact g_zret hE (Or.inr rfl) d_M_extend_90 rfl rfl
              · replace h := if_t c31 h
                refine g_iconst hE d_M_extend_68 ki_0 ?_
                cases h
                exact g_zret hE (Or.inl rfl) d_M_extend_69 rfl rfl
        · replace h := if_f c34 h
          refine g_iconst hE d_M_extend_28 ki_0 ?_
          cases h
          exact g_zret hE (Or.inl rfl) d_M_extend_29 rfl rfl
theorem d_M_byteOf_0 : dc b_M_byteOf 0 (.iload_n 0) 1 1 := ⟨by decide +kernel, rfl⟩
theorem d_M_byteOf_1 : dc b_M_byteOf 1 (.bipush 8) 2 3 := ⟨by decide +kernel, rfl⟩
theorem d_M_byteOf_3 : dc b_M_byteOf 3 (.iload_n 1) 1 4 := ⟨by decide +kernel, rfl⟩
theorem d_M_byteOf_4 : dc b_M_byteOf 4 (.imul) 1 5 := ⟨by decide +kernel, rfl⟩
theorem d_M_byteOf_5 : dc b_M_byteOf 5 (.iushr) 1 6 := ⟨by decide +kernel, rfl⟩
theorem d_M_byteOf_6 : dc b_M_byteOf 6 (.sipush 255) 3 9 := ⟨by decide +kernel, rfl⟩
theorem d_M_byteOf_9 : dc b_M_byteOf 9 (.iand) 1 10 := ⟨by decide +kernel, rfl⟩
theorem d_M_byteOf_10 : dc b_M_byteOf 10 (.ireturn) 1 11 := ⟨by decide +kernel, rfl⟩
set_option maxRecDepth 100000 in
def f_M_byteOf (S : gS) (d : gD) (v0 : Int32) (v1 : Int32) : Option (Int32) :=
  some (((Int32.toUInt32 v0 >>> (Int32.toUInt32 (8 * v1) &&& Int32.toUInt32 31)).toInt32) &&& 255)
set_option maxRecDepth 100000 in
set_option maxHeartbeats 4000000 in
theorem c_M_byteOf (l : Launch) (G : gG) {S : gS} {d : gD} {v0 : Int32} {v1 : Int32} {r : Int32} (h : f_M_byteOf S d v0 v1 = some r) : GM l G y_M_byteOf b_M_byteOf 2 (some (.int)) 0 0 0 0 [.inl v0, .inl v1] S d (some (.int r)) S d := by
  refine GM.of (by decide) (Nat.le_of_ble_eq_true rfl) ?_
  intro X hl0 hG0 hR0 hE0
  have hE : gE X b_M_byteOf 2 "StandInMill" (some (.int)) "byteOf" 0 0 := hE0
  unfold f_M_byteOf at h
  refine gw.less (lv' := [some (.int v0), some (.int v1)]) (And.intro rfl (And.intro rfl trivial)) ?_
  refine g_iload_n (i := 0) hE d_M_byteOf_0 rfl rfl ?_
  refine g_bipush hE d_M_byteOf_1 kb_8 ?_
  refine g_iload_n (i := 1) hE d_M_byteOf_3 rfl rfl ?_
  refine g_imul hE d_M_byteOf_4 ?_
  refine g_iushr hE d_M_byteOf_5 ?_
  refine g_sipush hE d_M_byteOf_6 ks_255 ?_
  refine g_iand hE d_M_byteOf_9 ?_
  cases h
  exact g_iret hE d_M_byteOf_10 rfl rfl
theorem d_M_cutAtZero_0 : dc b_M_cutAtZero 0 (.iconst 0) 1 1 := ⟨by decide +kernel, rfl⟩
theorem d_M_cutAtZero_1 : dc b_M_cutAtZero 1 (.istore_n 1) 1 2 := ⟨by decide +kernel, rfl⟩
theorem d_M_cutAtZero_2 : dc b_M_cutAtZero 2 (.iconst 0) 1 3 := ⟨by decide +kernel, rfl⟩
theorem d_M_cutAtZero_3 : dc b_M_cutAtZero 3 (.istore_n 2) 1 4 := ⟨by decide +kernel, rfl⟩
theorem d_M_cutAtZero_4 : dc b_M_cutAtZero 4 (.iload_n 2) 1 5 := ⟨by decide +kernel, rfl⟩
theorem d_M_cutAtZero_5 : dc b_M_cutAtZero 5 (.iconst 4) 1 6 := ⟨by decide +kernel, rfl⟩
theorem d_M_cutAtZero_6 : db b_M_cutAtZero 6 (.if_icmp .ge 30) 30 36 9 := ⟨by decide +kernel, by decide, rfl⟩
theorem d_M_cutAtZero_9 : dc b_M_cutAtZero 9 (.iload_n 0) 1 10 := ⟨by decide +kernel, rfl⟩
theorem d_M_cutAtZero_10 : dc b_M_cutAtZero 10 (.iload_n 2) 1 11 := ⟨by decide +kernel, rfl⟩
theorem d_M_cutAtZero_11 : dc b_M_cutAtZero 11 (.invokestatic 274) 3 14 := ⟨by decide +kernel, rfl⟩
theorem d_M_cutAtZero_14 : db b_M_cutAtZero 14 (.ifCond .eq 22) 22 36 17 := ⟨by decide +kernel, by decide, rfl⟩
theorem d_M_cutAtZero_17 : dc b_M_cutAtZero 17 (.iload_n 1) 1 18 := ⟨by decide +kernel, rfl⟩
theorem d_M_cutAtZero_18 : dc b_M_cutAtZero 18 (.iload_n 0) 1 19 := ⟨by decide +kernel, rfl⟩
theorem d_M_cutAtZero_19 : dc b_M_cutAtZero 19 (.iload_n 2) 1 20 := ⟨by decide +kernel, rfl⟩
theorem d_M_cutAtZero_20 : dc b_M_cutAtZero 20 (.invokestatic 274) 3 23 := ⟨by decide +kernel, rfl⟩
theorem d_M_cutAtZero_23 : dc b_M_cutAtZero 23 (.bipush 8) 2 25 := ⟨by decide +kernel, rfl⟩
theorem d_M_cutAtZero_25 : dc b_M_cutAtZero 25 (.iload_n 2) 1 26 := ⟨by decide +kernel, rfl⟩
theorem d_M_cutAtZero_26 : dc b_M_cutAtZero 26 (.imul) 1 27 := ⟨by decide +kernel, rfl⟩
theorem d_M_cutAtZero_27 : dc b_M_cutAtZero 27 (.ishl) 1 28 := ⟨by decide +kernel, rfl⟩
theorem d_M_cutAtZero_28 : dc b_M_cutAtZero 28 (.ior) 1 29 := ⟨by decide +kernel, rfl⟩
theorem d_M_cutAtZero_29 : dc b_M_cutAtZero 29 (.istore_n 1) 1 30 := ⟨by decide +kernel, rfl⟩
theorem d_M_cutAtZero_30 : dc b_M_cutAtZero 30 (.iinc 2 1) 3 33 := ⟨by decide +kernel, rfl⟩
theorem d_M_cutAtZero_33 : db b_M_cutAtZero 33 (.goto (-29)) (-29) 4 36 := ⟨by decide +kernel, by decide, rfl⟩
theorem d_M_cutAtZero_36 : dc b_M_cutAtZero 36 (.iload_n 1) 1 37 := ⟨by decide +kernel, rfl⟩
theorem d_M_cutAtZero_37 : dc b_M_cutAtZero 37 (.ireturn) 1 38 := ⟨by decide +kernel, rfl⟩
def f_M_cutAtZero_B4 (S : gS) (d : gD) (kb : Int32 → Int32 → Int32 → Option (Int32)) (v0 : Int32) (v1 : Int32) (v2 : Int32) : Option (Int32) :=
  if 4 ≤ v2 then (
    some v1)
  else (
    bd (f_M_byteOf S d v0 v2) fun x1 =>
    if x1 = 0 then (
      some v1)
    else (
      bd (f_M_byteOf S d v0 v2) fun x3 =>
      kb v0 (v1 ||| (x3 <<< ((8 * v2) &&& 31))) (v2 + 1)))
set_option maxRecDepth 100000 in
set_option maxHeartbeats 4000000 in
theorem w_M_cutAtZero_B4 {X : GX} (hE : gE X b_M_cutAtZero 3 "StandInMill" (some (.int)) "cutAtZero" 1 21) {S : gS} {d : gD} {r : Int32} {kb : Int32 → Int32 → Int32 → Option (Int32)} (hkb : ∀ (v0 : Int32) (v1 : Int32) (v2 : Int32), kb v0 v1 v2 = some r → gw X 0 0 (gQ X (some (.int r)) S d 0 0) S d 4 [some (.int v0), some (.int v1), some (.int v2)] []) :
    ∀ (v0 : Int32) (v1 : Int32) (v2 : Int32), f_M_cutAtZero_B4 S d kb v0 v1 v2 = some r → gw X 0 0 (gQ X (some (.int r)) S d 0 0) S d 4 [some (.int v0), some (.int v1), some (.int v2)] [] := by
  intro v0 v1 v2 h
  unfold f_M_cutAtZero_B4 at h
  refine g_iload_n (i := 2) hE d_M_cutAtZero_4 rfl rfl ?_
  refine g_iconst hE d_M_cutAtZero_5 ki_4 ?_
  refine g_icmp_ge hE d_M_cutAtZero_6 (fun c6 => ?_) (fun c6 => ?_)
  · replace h := if_t c6 h
    refine g_iload_n (i := 1) hE d_M_cutAtZero_36 rfl rfl ?_
    cases h
    exact g_iret hE d_M_cutAtZero_37 rfl rfl
  · replace h := if_f c6 h
    refine g_iload_n (i := 0) hE d_M_cutAtZero_9 rfl rfl ?_
    refine g_iload_n (i := 2) hE d_M_cutAtZero_10 rfl rfl ?_
    obtain ⟨x1, e2, h⟩ := bd_s h
    refine g_callS (av := [.inl v0, .inl v2]) (stk := [.int x1]) [] hE (c_M_byteOf (xl X) (xG X) e2) ky_M_byteOf ⟨Nat.le_of_ble_eq_true rfl, Nat.le_of_ble_eq_true rfl⟩ m_128 m_129 rfl d_M_cutAtZero_11 rfl rfl ct_0 (Nat.zero_le _) (Nat.zero_le _) ?_
    refine gw.cs (c2 := 0) (s2 := 0) rfl rfl ?_
    refine g_if_eq hE d_M_cutAtZero_14 (fun c5 => ?_) (fun c5 => ?_)
    · replace h := if_t c5 h
      refine g_iload_n (i := 1) hE d_M_cutAtZero_36 rfl rfl ?_
      cases h
      exact g_iret hE d_M_cutAtZero_37 rfl rfl
    · replace h := if_f c5 h
      refine g_iload_n (i := 1) hE d_M_cutAtZero_17 rfl rfl ?_
      refine g_iload_n (i := 0) hE d_M_cutAtZero_18 rfl rfl ?_
      refine g_iload_n (i := 2) hE d_M_cutAtZero_19 rfl rfl ?_
      obtain ⟨x3, e4, h⟩ := bd_s h
      refine g_callS (av := [.inl v0, .inl v2]) (stk := [.int x3, .int v1]) [.int v1] hE (c_M_byteOf (xl X) (xG X) e4) ky_M_byteOf ⟨Nat.le_of_ble_eq_true rfl, Nat.le_of_ble_eq_true rfl⟩ m_128 m_129 rfl d_M_cutAtZero_20 rfl rfl (Nat.le_trans (ct_i ct_n) (Nat.le_of_ble_eq_true rfl)) (Nat.zero_le _) (Nat.zero_le _) ?_
      refine gw.cs (c2 := 0) (s2 := 0) rfl rfl ?_
      refine g_bipush hE d_M_cutAtZero_23 kb_8 ?_
      refine g_iload_n (i := 2) hE d_M_cutAtZero_25 rfl rfl ?_
      refine g_imul hE d_M_cutAtZero_26 ?_
      refine g_ishl hE d_M_cutAtZero_27 ?_
      refine g_ior hE d_M_cutAtZero_28 ?_
      refine g_istore_n (i := 1) (lv' := [some (.int v0), some (.int (v1 ||| (x3 <<< ((8 * v2) &&& 31)))), some (.int v2)]) hE d_M_cutAtZero_29 rfl (Nat.le_of_ble_eq_true rfl) ⟨rfl, Nat.le_of_ble_eq_true rfl⟩ (lvp_i rfl) ?_
      refine g_iinc (i := 2) (lv' := [some (.int v0), some (.int (v1 ||| (x3 <<< ((8 * v2) &&& 31)))), some (.int (v2 + 1))]) hE d_M_cutAtZero_30 ki_1 rfl (Nat.le_of_ble_eq_true rfl) ⟨rfl, Nat.le_of_ble_eq_true rfl⟩ (lvp_i rfl) ?_
      refine g_goto hE d_M_cutAtZero_33 ?_
      exact gw.less (lv' := [some (.int v0), some (.int (v1 ||| (x3 <<< ((8 * v2) &&& 31)))), some (.int (v2 + 1))]) (And.intro rfl (And.intro rfl (And.intro rfl trivial))) (hkb v0 (v1 ||| (x3 <<< ((8 * v2) &&& 31))) (v2 + 1) h)
theorem w_M_cutAtZero_L4 {X : GX} (hE : gE X b_M_cutAtZero 3 "StandInMill" (some (.int)) "cutAtZero" 1 21) {S : gS} {d : gD} {r : Int32} : ∀ (n : Nat) (v0 : Int32) (v1 : Int32) (v2 : Int32), itr (f_M_cutAtZero_B4 S d) (fun _ _ _ => none) n v0 v1 v2 = some r → gw X 0 0 (gQ X (some (.int r)) S d 0 0) S d 4 [some (.int v0), some (.int v1), some (.int v2)] [] := by
  intro n
  induction n with
  | zero => intro v0 v1 v2 h; cases h
  | succ n ih => exact w_M_cutAtZero_B4 hE ih
set_option maxRecDepth 100000 in
def f_M_cutAtZero (S : gS) (d : gD) (v0 : Int32) : Option (Int32) :=
  itr (f_M_cutAtZero_B4 S d) (fun _ _ _ => none) fu v0 0 0
set_option maxRecDepth 100000 in
set_option maxHeartbeats 4000000 in
theorem c_M_cutAtZero (l : Launch) (G : gG) {S : gS} {d : gD} {v0 : Int32} {r : Int32} (h : f_M_cutAtZero S d v0 = some r) : GM l G y_M_cutAtZero b_M_cutAtZero 3 (some (.int)) 1 21 0 0 [.inl v0] S d (some (.int r)) S d := by
  refine GM.of (by decide) (Nat.le_of_ble_eq_true rfl) ?_
  intro X hl0 hG0 hR0 hE0
  have hE : gE X b_M_cutAtZero 3 "StandInMill" (some (.int)) "cutAtZero" 1 21 := hE0
  unfold f_M_cutAtZero at h
  refine gw.less (lv' := [some (.int v0), none, none]) (And.intro rfl trivial) ?_
  refine g_iconst hE d_M_cutAtZero_0 ki_0 ?_
  refine g_istore_n (i := 1) (lv' := [some (.int v0), some (.int 0), none]) hE d_M_cutAtZero_1 rfl (Nat.le_of_ble_eq_true rfl) ⟨rfl, Nat.le_of_ble_eq_true rfl⟩ (lvp_i rfl) ?_
  refine g_iconst hE d_M_cutAtZero_2 ki_0 ?_
  refine g_istore_n (i := 2) (lv' := [some (.int v0), some (.int 0), some (.int 0)]) hE d_M_cutAtZero_3 rfl (Nat.le_of_ble_eq_true rfl) ⟨rfl, Nat.le_of_ble_eq_true rfl⟩ (lvp_i rfl) ?_
  exact gw.less (lv' := [some (.int v0), some (.int 0), some (.int 0)]) (And.intro rfl (And.intro rfl (And.intro rfl trivial))) (w_M_cutAtZero_L4 hE fu v0 0 0 h)
