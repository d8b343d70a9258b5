theorem d_Rw_has_0 : dc b_Rw_has 0 (.iconst 0) 1 1 := ⟨by decide +kernel, rfl⟩
theorem d_Rw_has_1 : dc b_Rw_has 1 (.istore_n 2) 1 2 := ⟨by decide +kernel, rfl⟩
theorem d_Rw_has_2 : dc b_Rw_has 2 (.iload_n 2) 1 3 := ⟨by decide +kernel, rfl⟩
theorem d_Rw_has_3 : dc b_Rw_has 3 (.aload_n 0) 1 4 := ⟨by decide +kernel, rfl⟩
theorem d_Rw_has_4 : dc b_Rw_has 4 (.getfield 15) 3 7 := ⟨by decide +kernel, rfl⟩
theorem d_Rw_has_7 : db b_Rw_has 7 (.if_icmp .ge 21) 21 28 10 := ⟨by decide +kernel, by decide, rfl⟩
theorem d_Rw_has_10 : dc b_Rw_has 10 (.aload_n 0) 1 11 := ⟨by decide +kernel, rfl⟩
theorem d_Rw_has_11 : dc b_Rw_has 11 (.getfield 9) 3 14 := ⟨by decide +kernel, rfl⟩
theorem d_Rw_has_14 : dc b_Rw_has 14 (.iload_n 2) 1 15 := ⟨by decide +kernel, rfl⟩
theorem d_Rw_has_15 : dc b_Rw_has 15 (.iaload) 1 16 := ⟨by decide +kernel, rfl⟩
theorem d_Rw_has_16 : dc b_Rw_has 16 (.iload_n 1) 1 17 := ⟨by decide +kernel, rfl⟩
theorem d_Rw_has_17 : db b_Rw_has 17 (.if_icmp .ne 5) 5 22 20 := ⟨by decide +kernel, by decide, rfl⟩
theorem d_Rw_has_20 : dc b_Rw_has 20 (.iconst 1) 1 21 := ⟨by decide +kernel, rfl⟩
theorem d_Rw_has_21 : dc b_Rw_has 21 (.ireturn) 1 22 := ⟨by decide +kernel, rfl⟩
theorem d_Rw_has_22 : dc b_Rw_has 22 (.iinc 2 1) 3 25 := ⟨by decide +kernel, rfl⟩
theorem d_Rw_has_25 : db b_Rw_has 25 (.goto (-23)) (-23) 2 28 := ⟨by decide +kernel, by decide, rfl⟩
theorem d_Rw_has_28 : dc b_Rw_has 28 (.iconst 0) 1 29 := ⟨by decide +kernel, rfl⟩
theorem d_Rw_has_29 : dc b_Rw_has 29 (.ireturn) 1 30 := ⟨by decide +kernel, rfl⟩
def f_Rw_has_B2 (S : gS) (d : gD) (o : Nat) (kb : Int32 → Int32 → Option (Int32)) (v1 : Int32) (v2 : Int32) : Option (Int32) :=
  kd S o 2 <|
  lt_ (dI d o 1) fun x2 =>
  if x2 ≤ v2 then (
    some 0)
  else (
    lt_ (sP S o 0) fun x3 =>
    nn x3 fun a4 =>
    kd S a4 50 <|
    gi v2 (sN S a4) <|
    lt_ (dI d a4 v2.toNatClampNeg) fun x7 =>
    if x7 = v1 then (
      some 1)
    else (
      kb v1 (v2 + 1)))
set_option maxRecDepth 100000 in
set_option maxHeartbeats 4000000 in
theorem w_Rw_has_B2 {X : GX} (hE : gE X b_Rw_has 3 "StandInMill$ClassRow" (some (.boolean)) "has" 0 0) {S : gS} {d : gD} {o : Nat} {r : Int32} {kb : Int32 → Int32 → Option (Int32)} (hkb : ∀ (v1 : Int32) (v2 : Int32), kb v1 v2 = some r → gw X 0 0 (gQ X (some (.int r)) S d 0 0) S d 2 [some (va_rf (some o)), some (.int v1), some (.int v2)] []) :
    ∀ (v1 : Int32) (v2 : Int32), f_Rw_has_B2 S d o kb v1 v2 = some r → gw X 0 0 (gQ X (some (.int r)) S d 0 0) S d 2 [some (va_rf (some o)), some (.int v1), some (.int v2)] [] := by
  intro v1 v2 h
  unfold f_Rw_has_B2 at h
  refine g_iload_n (i := 2) hE d_Rw_has_2 rfl rfl ?_
  refine g_aload_n (i := 0) hE d_Rw_has_3 rfl rfl ?_
  obtain ⟨k1, h⟩ := kd_s h
  refine g_getI 1 hE kc_Rw k1 (Nat.le_of_ble_eq_true rfl) rfl m_151 d_Rw_has_4 (fun x2 e => ?_)
  replace h := lt_i e h; clear e
  refine g_icmp_ge hE d_Rw_has_7 (fun c9 => ?_) (fun c9 => ?_)
  · replace h := if_t c9 h
    refine g_iconst hE d_Rw_has_28 ki_0 ?_
    cases h
    exact g_zret hE (Or.inl rfl) d_Rw_has_29 rfl rfl
  · replace h := if_f c9 h
    refine g_aload_n (i := 0) hE d_Rw_has_10 rfl rfl ?_
    refine g_getR 0 hE kc_Rw k1 (Nat.le_of_ble_eq_true rfl) rfl m_10 d_Rw_has_11 (fun x3 e => ?_)
    replace h := lt_i e h; clear e
    refine g_iload_n (i := 2) hE d_Rw_has_14 rfl rfl ?_
    obtain ⟨a4, rfl, h⟩ := nn_s h
    obtain ⟨k5, h⟩ := kd_s h
    obtain ⟨g6, h⟩ := gi_s h
    refine g_iald hE k5 g6 d_Rw_has_15 (fun x7 e => ?_)
    replace h := lt_i e h; clear e
    refine g_iload_n (i := 1) hE d_Rw_has_16 rfl rfl ?_
    refine g_icmp_ne hE d_Rw_has_17 (fun c8 => ?_) (fun c8 => ?_)
    · replace h := if_f c8 h
      refine g_iinc (i := 2) (lv' := [some (va_rf (some o)), some (.int v1), some (.int (v2 + 1))]) hE d_Rw_has_22 ki_1 rfl (Nat.le_of_ble_eq_true rfl) ⟨rfl, Nat.le_of_ble_eq_true rfl⟩ (lvp_i rfl) ?_
      refine g_goto hE d_Rw_has_25 ?_
      exact gw.less (lv' := [some (va_rf (some o)), some (.int v1), some (.int (v2 + 1))]) (And.intro rfl (And.intro rfl (And.intro rfl trivial))) (hkb v1 (v2 + 1) h)
    · replace h := if_t c8 h
      refine g_iconst hE d_Rw_has_20 ki_1 ?_
      cases h
      exact g_zret hE (Or.inr rfl) d_Rw_has_21 rfl rfl
theorem w_Rw_has_L2 {X : GX} (hE : gE X b_Rw_has 3 "StandInMill$ClassRow" (some (.boolean)) "has" 0 0) {S : gS} {d : gD} {o : Nat} {r : Int32} : ∀ (n : Nat) (v1 : Int32) (v2 : Int32), itr (f_Rw_has_B2 S d o) (fun _ _ => none) n v1 v2 = some r → gw X 0 0 (gQ X (some (.int r)) S d 0 0) S d 2 [some (va_rf (some o)), some (.int v1), some (.int v2)] [] := by
  intro n
  induction n with
  | zero => intro v1 v2 h; cases h
  | succ n ih => exact w_Rw_has_B2 hE ih
set_option maxRecDepth 100000 in
def f_Rw_has (S : gS) (d : gD) (o : Nat) (v1 : Int32) : Option (Int32) :=
  itr (f_Rw_has_B2 S d o) (fun _ _ => none) fu v1 0
set_option maxRecDepth 100000 in
set_option maxHeartbeats 4000000 in
theorem c_Rw_has (l : Launch) (G : gG) {S : gS} {d : gD} {o : Nat} {v1 : Int32} {r : Int32} (h : f_Rw_has S d o v1 = some r) : GM l G y_Rw_has b_Rw_has 3 (some (.boolean)) 0 0 0 0 [.inr (.inr (some o)), .inl v1] S d (some (.int r)) S d := by
  refine GM.of (by decide) (Nat.le_of_ble_eq_true rfl) ?_
  intro X hl0 hG0 hR0 hE0
  have hE : gE X b_Rw_has 3 "StandInMill$ClassRow" (some (.boolean)) "has" 0 0 := hE0
  unfold f_Rw_has at h
  refine gw.less (lv' := [some (va_rf (some o)), some (.int v1), none]) (And.intro rfl (And.intro rfl trivial)) ?_
  refine g_iconst hE d_Rw_has_0 ki_0 ?_
  refine g_istore_n (i := 2) (lv' := [some (va_rf (some o)), some (.int v1), some (.int 0)]) hE d_Rw_has_1 rfl (Nat.le_of_ble_eq_true rfl) ⟨rfl, Nat.le_of_ble_eq_true rfl⟩ (lvp_i rfl) ?_
  exact gw.less (lv' := [some (va_rf (some o)), some (.int v1), some (.int 0)]) (And.intro rfl (And.intro rfl (And.intro rfl trivial))) (w_Rw_has_L2 hE fu v1 0 h)
theorem d_Rw_add_0 : dc b_Rw_add 0 (.aload_n 0) 1 1 := ⟨by decide +kernel, rfl⟩
theorem d_Rw_add_1 : dc b_Rw_add 1 (.getfield 15) 3 4 := ⟨by decide +kernel, rfl⟩
theorem d_Rw_add_4 : dc b_Rw_add 4 (.aload_n 0) 1 5 := ⟨by decide +kernel, rfl⟩
theorem d_Rw_add_5 : dc b_Rw_add 5 (.getfield 9) 3 8 := ⟨by decide +kernel, rfl⟩
theorem d_Rw_add_8 : dc b_Rw_add 8 (.arraylength) 1 9 := ⟨by decide +kernel, rfl⟩
theorem d_Rw_add_9 : db b_Rw_add 9 (.if_icmp .ge 31) 31 40 12 := ⟨by decide +kernel, by decide, rfl⟩
theorem d_Rw_add_12 : dc b_Rw_add 12 (.aload_n 0) 1 13 := ⟨by decide +kernel, rfl⟩
theorem d_Rw_add_13 : dc b_Rw_add 13 (.iload_n 1) 1 14 := ⟨by decide +kernel, rfl⟩
theorem d_Rw_add_14 : dc b_Rw_add 14 (.invokevirtual 23) 3 17 := ⟨by decide +kernel, rfl⟩
theorem d_Rw_add_17 : db b_Rw_add 17 (.ifCond .ne 23) 23 40 20 := ⟨by decide +kernel, by decide, rfl⟩
theorem d_Rw_add_20 : dc b_Rw_add 20 (.aload_n 0) 1 21 := ⟨by decide +kernel, rfl⟩
theorem d_Rw_add_21 : dc b_Rw_add 21 (.getfield 9) 3 24 := ⟨by decide +kernel, rfl⟩
theorem d_Rw_add_24 : dc b_Rw_add 24 (.aload_n 0) 1 25 := ⟨by decide +kernel, rfl⟩
theorem d_Rw_add_25 : dc b_Rw_add 25 (.getfield 15) 3 28 := ⟨by decide +kernel, rfl⟩
theorem d_Rw_add_28 : dc b_Rw_add 28 (.iload_n 1) 1 29 := ⟨by decide +kernel, rfl⟩
theorem d_Rw_add_29 : dc b_Rw_add 29 (.iastore) 1 30 := ⟨by decide +kernel, rfl⟩
theorem d_Rw_add_30 : dc b_Rw_add 30 (.aload_n 0) 1 31 := ⟨by decide +kernel, rfl⟩
theorem d_Rw_add_31 : dc b_Rw_add 31 (.dup) 1 32 := ⟨by decide +kernel, rfl⟩
theorem d_Rw_add_32 : dc b_Rw_add 32 (.getfield 15) 3 35 := ⟨by decide +kernel, rfl⟩
theorem d_Rw_add_35 : dc b_Rw_add 35 (.iconst 1) 1 36 := ⟨by decide +kernel, rfl⟩
theorem d_Rw_add_36 : dc b_Rw_add 36 (.iadd) 1 37 := ⟨by decide +kernel, rfl⟩
theorem d_Rw_add_37 : dc b_Rw_add 37 (.putfield 15) 3 40 := ⟨by decide +kernel, rfl⟩
theorem d_Rw_add_40 : dc b_Rw_add 40 (.return_) 1 41 := ⟨by decide +kernel, rfl⟩
set_option maxRecDepth 100000 in
def f_Rw_add (S : gS) (d : gD) (o : Nat) (v1 : Int32) : Option (Unit × gD) :=
  kd S o 2 <|
  lt_ (dI d o 1) fun x2 =>
  lt_ (sP S o 0) fun x3 =>
  nn x3 fun a4 =>
  kd S a4 50 <|
  if (Int32.ofNat (sN S a4)) ≤ x2 then (
    some ((), d))
  else (
    bd (f_Rw_has S d o v1) fun x6 =>
    if x6 = 0 then (
      lt_ (sP S o 0) fun x8 =>
      lt_ (dI d o 1) fun x9 =>
      nn x8 fun a10 =>
      kd S a10 50 <|
      gi x9 (sN S a10) <|
      lt_ (wI d a10 x9.toNatClampNeg v1) fun d13 =>
      lt_ (dI d13 o 1) fun x14 =>
      lt_ (wI d13 o 1 (x14 + 1)) fun d15 =>
      some ((), d15))
    else (
      some ((), d)))
set_option maxRecDepth 100000 in
set_option maxHeartbeats 4000000 in
theorem c_Rw_add (l : Launch) (G : gG) {S : gS} {d : gD} {o : Nat} {v1 : Int32} {r : Unit} {d' : gD} (h : f_Rw_add S d o v1 = some (r, d')) : GM l G y_Rw_add b_Rw_add 2 none 1 22 0 0 [.inr (.inr (some o)), .inl v1] S d (none) S d' := by
  refine GM.of (by decide) (Nat.le_of_ble_eq_true rfl) ?_
  intro X hl0 hG0 hR0 hE0
  have hE : gE X b_Rw_add 2 "StandInMill$ClassRow" none "add" 1 22 := hE0
  unfold f_Rw_add at h
  refine gw.less (lv' := [some (va_rf (some o)), some (.int v1)]) (And.intro rfl (And.intro rfl trivial)) ?_
  refine g_aload_n (i := 0) hE d_Rw_add_0 rfl rfl ?_
  obtain ⟨k1, h⟩ := kd_s h
  refine g_getI 1 hE kc_Rw k1 (Nat.le_of_ble_eq_true rfl) rfl m_151 d_Rw_add_1 (fun x2 e => ?_)
  replace h := lt_i e h; clear e
  refine g_aload_n (i := 0) hE d_Rw_add_4 rfl rfl ?_
  refine g_getR 0 hE kc_Rw k1 (Nat.le_of_ble_eq_true rfl) rfl m_10 d_Rw_add_5 (fun x3 e => ?_)
  replace h := lt_i e h; clear e
  obtain ⟨a4, rfl, h⟩ := nn_s h
  obtain ⟨k5, h⟩ := kd_s h
  refine g_alen hE k5 (by decide) d_Rw_add_8 ?_
  refine g_icmp_ge hE d_Rw_add_9 (fun c17 => ?_) (fun c17 => ?_)
  · replace h := if_t c17 h
    cases h
    exact g_vret hE d_Rw_add_40 rfl rfl
  · replace h := if_f c17 h
    refine g_aload_n (i := 0) hE d_Rw_add_12 rfl rfl ?_
    refine g_iload_n (i := 1) hE d_Rw_add_13 rfl rfl ?_
    obtain ⟨x6, e7, h⟩ := bd_s h
    refine g_callV (av := [.inr (.inr (some o)), .inl v1]) (as := [.inl v1]) (stk := [.int x6]) [] hE (c_Rw_has (xl X) (xG X) e7) ky_Rw_has ⟨Nat.le_of_ble_eq_true rfl, Nat.le_of_ble_eq_true rfl⟩ rfl kc_Rw k1 m_152 m_153 m_154 rfl d_Rw_add_14 rfl rfl ct_0 (Nat.zero_le _) (Nat.zero_le _) ?_
    refine gw.cs (c2 := 0) (s2 := 0) rfl rfl ?_
    refine g_if_ne hE d_Rw_add_17 (fun c16 => ?_) (fun c16 => ?_)
    · replace h := if_f c16 h
      cases h
      exact g_vret hE d_Rw_add_40 rfl rfl
    · replace h := if_t c16 h
      refine g_aload_n (i := 0) hE d_Rw_add_20 rfl rfl ?_
      refine g_getR 0 hE kc_Rw k1 (Nat.le_of_ble_eq_true rfl) rfl m_10 d_Rw_add_21 (fun x8 e => ?_)
      replace h := lt_i e h; clear e
      refine g_aload_n (i := 0) hE d_Rw_add_24 rfl rfl ?_
      refine g_getI 1 hE kc_Rw k1 (Nat.le_of_ble_eq_true rfl) rfl m_151 d_Rw_add_25 (fun x9 e => ?_)
      replace h := lt_i e h; clear e
      refine g_iload_n (i := 1) hE d_Rw_add_28 rfl rfl ?_
      obtain ⟨a10, rfl, h⟩ := nn_s h
      obtain ⟨k11, h⟩ := kd_s h
      obtain ⟨g12, h⟩ := gi_s h
      refine g_iast hE k11 g12 d_Rw_add_29 (fun d13 e => ?_)
      replace h := lt_i e h; clear e
      refine g_aload_n (i := 0) hE d_Rw_add_30 rfl rfl ?_
      refine g_dupr hE d_Rw_add_31 ?_
      refine g_getI 1 hE kc_Rw k1 (Nat.le_of_ble_eq_true rfl) rfl m_151 d_Rw_add_32 (fun x14 e => ?_)
      replace h := lt_i e h; clear e
      refine g_iconst hE d_Rw_add_35 ki_1 ?_
      refine g_iadd hE d_Rw_add_36 ?_
      refine g_putI 1 hE kc_Rw k1 (Nat.le_of_ble_eq_true rfl) rfl m_151 rfl (by decide +kernel) d_Rw_add_37 (fun d15 e => ?_)
      replace h := lt_i e h; clear e
      cases h
      exact g_vret hE d_Rw_add_40 rfl rfl
theorem d_M_throwing_0 : dc b_M_throwing 0 (.aload_n 0) 1 1 := ⟨by decide +kernel, rfl⟩
theorem d_M_throwing_1 : dc b_M_throwing 1 (.getfield 112) 3 4 := ⟨by decide +kernel, rfl⟩
theorem d_M_throwing_4 : db b_M_throwing 4 (.ifCond .gt 22) 22 26 7 := ⟨by decide +kernel, by decide, rfl⟩
theorem d_M_throwing_7 : dc b_M_throwing 7 (.aload_n 0) 1 8 := ⟨by decide +kernel, rfl⟩
theorem d_M_throwing_8 : dc b_M_throwing 8 (.iload_n 1) 1 9 := ⟨by decide +kernel, rfl⟩
theorem d_M_throwing_9 : dc b_M_throwing 9 (.invokevirtual 115) 3 12 := ⟨by decide +kernel, rfl⟩
theorem d_M_throwing_12 : db b_M_throwing 12 (.ifCond .eq 14) 14 26 15 := ⟨by decide +kernel, by decide, rfl⟩
theorem d_M_throwing_15 : dc b_M_throwing 15 (.aload_n 0) 1 16 := ⟨by decide +kernel, rfl⟩
theorem d_M_throwing_16 : dc b_M_throwing 16 (.getfield 10) 3 19 := ⟨by decide +kernel, rfl⟩
theorem d_M_throwing_19 : dc b_M_throwing 19 (.iload_n 3) 1 20 := ⟨by decide +kernel, rfl⟩
theorem d_M_throwing_20 : dc b_M_throwing 20 (.invokevirtual 160) 3 23 := ⟨by decide +kernel, rfl⟩
theorem d_M_throwing_23 : db b_M_throwing 23 (.ifCond .ne 5) 5 28 26 := ⟨by decide +kernel, by decide, rfl⟩
theorem d_M_throwing_26 : dc b_M_throwing 26 (.iconst 0) 1 27 := ⟨by decide +kernel, rfl⟩
theorem d_M_throwing_27 : dc b_M_throwing 27 (.ireturn) 1 28 := ⟨by decide +kernel, rfl⟩
theorem d_M_throwing_28 : dc b_M_throwing 28 (.aload_n 0) 1 29 := ⟨by decide +kernel, rfl⟩
theorem d_M_throwing_29 : dc b_M_throwing 29 (.getfield 22) 3 32 := ⟨by decide +kernel, rfl⟩
theorem d_M_throwing_32 : dc b_M_throwing 32 (.iload_n 1) 1 33 := ⟨by decide +kernel, rfl⟩
theorem d_M_throwing_33 : dc b_M_throwing 33 (.bipush 24) 2 35 := ⟨by decide +kernel, rfl⟩
theorem d_M_throwing_35 : dc b_M_throwing 35 (.isub) 1 36 := ⟨by decide +kernel, rfl⟩
theorem d_M_throwing_36 : dc b_M_throwing 36 (.aaload) 1 37 := ⟨by decide +kernel, rfl⟩
theorem d_M_throwing_37 : dc b_M_throwing 37 (.astore 4) 2 39 := ⟨by decide +kernel, rfl⟩
theorem d_M_throwing_39 : dc b_M_throwing 39 (.iload_n 2) 1 40 := ⟨by decide +kernel, rfl⟩
theorem d_M_throwing_40 : dc b_M_throwing 40 (.aload 4) 2 42 := ⟨by decide +kernel, rfl⟩
theorem d_M_throwing_42 : dc b_M_throwing 42 (.getfield 150) 3 45 := ⟨by decide +kernel, rfl⟩
theorem d_M_throwing_45 : dc b_M_throwing 45 (.invokestatic 94) 3 48 := ⟨by decide +kernel, rfl⟩
theorem d_M_throwing_48 : db b_M_throwing 48 (.ifCond .ne 5) 5 53 51 := ⟨by decide +kernel, by decide, rfl⟩
theorem d_M_throwing_51 : dc b_M_throwing 51 (.iconst 0) 1 52 := ⟨by decide +kernel, rfl⟩
theorem d_M_throwing_52 : dc b_M_throwing 52 (.ireturn) 1 53 := ⟨by decide +kernel, rfl⟩
theorem d_M_throwing_53 : dc b_M_throwing 53 (.aload 4) 2 55 := ⟨by decide +kernel, rfl⟩
theorem d_M_throwing_55 : dc b_M_throwing 55 (.getfield 163) 3 58 := ⟨by decide +kernel, rfl⟩
theorem d_M_throwing_58 : dc b_M_throwing 58 (.iload_n 2) 1 59 := ⟨by decide +kernel, rfl⟩
theorem d_M_throwing_59 : dc b_M_throwing 59 (.aaload) 1 60 := ⟨by decide +kernel, rfl⟩
theorem d_M_throwing_60 : dc b_M_throwing 60 (.getfield 166) 3 63 := ⟨by decide +kernel, rfl⟩
theorem d_M_throwing_63 : dc b_M_throwing 63 (.astore 5) 2 65 := ⟨by decide +kernel, rfl⟩
theorem d_M_throwing_65 : dc b_M_throwing 65 (.aload 5) 2 67 := ⟨by decide +kernel, rfl⟩
theorem d_M_throwing_67 : dc b_M_throwing 67 (.iload_n 3) 1 68 := ⟨by decide +kernel, rfl⟩
theorem d_M_throwing_68 : dc b_M_throwing 68 (.invokevirtual 170) 3 71 := ⟨by decide +kernel, rfl⟩
theorem d_M_throwing_71 : db b_M_throwing 71 (.ifCond .ne 12) 12 83 74 := ⟨by decide +kernel, by decide, rfl⟩
theorem d_M_throwing_74 : dc b_M_throwing 74 (.aload 5) 2 76 := ⟨by decide +kernel, rfl⟩
theorem d_M_throwing_76 : dc b_M_throwing 76 (.getfield 175) 3 79 := ⟨by decide +kernel, rfl⟩
theorem d_M_throwing_79 : dc b_M_throwing 79 (.iconst 3) 1 80 := ⟨by decide +kernel, rfl⟩
theorem d_M_throwing_80 : db b_M_throwing 80 (.if_icmp .ne 5) 5 85 83 := ⟨by decide +kernel, by decide, rfl⟩
theorem d_M_throwing_83 : dc b_M_throwing 83 (.iconst 0) 1 84 := ⟨by decide +kernel, rfl⟩
theorem d_M_throwing_84 : dc b_M_throwing 84 (.ireturn) 1 85 := ⟨by decide +kernel, rfl⟩
theorem d_M_throwing_85 : dc b_M_throwing 85 (.aload 5) 2 87 := ⟨by decide +kernel, rfl⟩
theorem d_M_throwing_87 : dc b_M_throwing 87 (.iload_n 3) 1 88 := ⟨by decide +kernel, rfl⟩
theorem d_M_throwing_88 : dc b_M_throwing 88 (.invokevirtual 178) 3 91 := ⟨by decide +kernel, rfl⟩
theorem d_M_throwing_91 : dc b_M_throwing 91 (.iconst 1) 1 92 := ⟨by decide +kernel, rfl⟩
theorem d_M_throwing_92 : dc b_M_throwing 92 (.ireturn) 1 93 := ⟨by decide +kernel, rfl⟩
set_option maxRecDepth 100000 in
def f_M_throwing (S : gS) (d : gD) (o : Nat) (v1 : Int32) (v2 : Int32) (v3 : Int32) : Option (Int32 × gD) :=
  kd S o 1 <|
  lt_ (dI d o 10) fun x2 =>
  if 0 < x2 then (
    some (0, d))
  else (
    bd (f_M_isFace S d o v1) fun x3 =>
    if x3 = 0 then (
      some (0, d))
    else (
      lt_ (sP S o 0) fun x5 =>
      nn x5 fun a6 =>
      kd S a6 8 <|
      bd (f_Ty_isClass S d a6 v3) fun x8 =>
      if x8 = 0 then (
        some (0, d))
      else (
        lt_ (sP S o 3) fun x10 =>
        nn x10 fun a11 =>
        kd S a11 60 <|
        gi (v1 - 24) (sN S a11) <|
        lt_ (sP S a11 (v1 - 24 : Int32).toNatClampNeg) fun x14 =>
        nn x14 fun a15 =>
        kd S a15 4 <|
        lt_ (dI d a15 7) fun x17 =>
        bd (f_M_isWithin S d v2 x17) fun x18 =>
        if x18 = 0 then (
          some (0, d))
        else (
          lt_ (sP S a15 6) fun x20 =>
          nn x20 fun a21 =>
          kd S a21 61 <|
          gi v2 (sN S a21) <|
          lt_ (sP S a21 v2.toNatClampNeg) fun x24 =>
          nn x24 fun a25 =>
          kd S a25 5 <|
          lt_ (sP S a25 5) fun x27 =>
          nn x27 fun a28 =>
          kd S a28 2 <|
          bd (f_Rw_has S d a28 v3) fun x30 =>
          if x30 = 0 then (
            lt_ (dI d a28 1) fun x32 =>
            if x32 = 3 then (
              some (0, d))
            else (
              bdD (f_Rw_add S d a28 v3) fun _ d35 =>
              some (1, d35)))
          else (
            some (0, d))))))
set_option maxRecDepth 100000 in
set_option maxHeartbeats 4000000 in
theorem c_M_throwing (l : Launch) (G : gG) {S : gS} {d : gD} {o : Nat} {v1 : Int32} {v2 : Int32} {v3 : Int32} {r : Int32} {d' : gD} (h : f_M_throwing S d o v1 v2 v3 = some (r, d')) : GM l G y_M_throwing b_M_throwing 6 (some (.boolean)) 2 43 0 0 [.inr (.inr (some o)), .inl v1, .inl v2, .inl v3] S d (some (.int r)) S d' := by
  refine GM.of (by decide) (Nat.le_of_ble_eq_true rfl) ?_
  intro X hl0 hG0 hR0 hE0
  have hE : gE X b_M_throwing 6 "StandInMill" (some (.boolean)) "throwing" 2 43 := hE0
  unfold f_M_throwing at h
  refine gw.less (lv' := [some (va_rf (some o)), some (.int v1), some (.int v2), some (.int v3), none, none]) (And.intro rfl (And.intro rfl (And.intro rfl (And.intro rfl trivial)))) ?_
  refine g_aload_n (i := 0) hE d_M_throwing_0 rfl rfl ?_
  obtain ⟨k1, h⟩ := kd_s h
  refine g_getI 10 hE kc_M k1 (Nat.le_of_ble_eq_true rfl) rfl m_111 d_M_throwing_1 (fun x2 e => ?_)
  replace h := lt_i e h; clear e
  refine g_if_gt hE d_M_throwing_4 (fun c41 => ?_) (fun c41 => ?_)
  · replace h := if_t c41 h
    refine g_iconst hE d_M_throwing_26 ki_0 ?_
    cases h
    exact g_zret hE (Or.inl rfl) d_M_throwing_27 rfl rfl
  · replace h := if_f c41 h
    refine g_aload_n (i := 0) hE d_M_throwing_7 rfl rfl ?_
    refine g_iload_n (i := 1) hE d_M_throwing_8 rfl rfl ?_
    obtain ⟨x3, e4, h⟩ := bd_s h
    refine g_callV (av := [.inr (.inr (some o)), .inl v1]) (as := [.inl v1]) (stk := [.int x3]) [] hE (c_M_isFace (xl X) (xG X) e4) ky_M_isFace ⟨Nat.le_of_ble_eq_true rfl, Nat.le_of_ble_eq_true rfl⟩ rfl kc_M k1 m_112 m_113 m_114 rfl d_M_throwing_9 rfl rfl ct_0 (Nat.zero_le _) (Nat.zero_le _) ?_
    refine gw.cs (c2 := 0) (s2 := 0) rfl rfl ?_
    refine g_if_eq hE d_M_throwing_12 (fun c40 => ?_) (fun c40 => ?_)
    · replace h := if_t c40 h
      refine g_iconst hE d_M_throwing_26 ki_0 ?_
      cases h
      exact g_zret hE (Or.inl rfl) d_M_throwing_27 rfl rfl
    · replace h := if_f c40 h
      refine g_aload_n (i := 0) hE d_M_throwing_15 rfl rfl ?_
      refine g_getR 0 hE kc_M k1 (Nat.le_of_ble_eq_true rfl) rfl m_41 d_M_throwing_16 (fun x5 e => ?_)
      replace h := lt_i e h; clear e
      refine g_iload_n (i := 3) hE d_M_throwing_19 rfl rfl ?_
      obtain ⟨a6, rfl, h⟩ := nn_s h
      obtain ⟨k7, h⟩ := kd_s h
      obtain ⟨x8, e9, h⟩ := bd_s h
      refine g_callV (av := [.inr (.inr (some a6)), .inl v3]) (as := [.inl v3]) (stk := [.int x8]) [] hE (c_Ty_isClass (xl X) (xG X) e9) ky_Ty_isClass ⟨Nat.le_of_ble_eq_true rfl, Nat.le_of_ble_eq_true rfl⟩ rfl kc_Ty k7 m_155 m_79 m_80 rfl d_M_throwing_20 rfl rfl ct_0 (Nat.zero_le _) (Nat.zero_le _) ?_
      refine gw.cs (c2 := 0) (s2 := 0) rfl rfl ?_
      refine g_if_ne hE d_M_throwing_23 (fun c39 => ?_) (fun c39 => ?_)
      · replace h := if_f c39 h
        refine g_aload_n (i := 0) hE d_M_throwing_28 rfl rfl ?_
        refine g_getR 3 hE kc_M k1 (Nat.le_of_ble_eq_true rfl) rfl m_44 d_M_throwing_29 (fun x10 e => ?_)
        replace h := lt_i e h; clear e
        refine g_iload_n (i := 1) hE d_M_throwing_32 rfl rfl ?_
        refine g_bipush hE d_M_throwing_33 kb_24 ?_
        refine g_isub hE d_M_throwing_35 ?_
        obtain ⟨a11, rfl, h⟩ := nn_s h
        obtain ⟨k12, h⟩ := kd_s h
        obtain ⟨g13, h⟩ := gi_s h
        refine g_aald hE k12 (by decide) rfl (fun _ => rfl) g13 d_M_throwing_36 (fun x14 e => ?_)
        replace h := lt_i e h; clear e
        refine g_astore (i := 4) (lv' := [some (va_rf (some o)), some (.int v1), some (.int v2), some (.int v3), some (va_rf x14), none]) hE d_M_throwing_37 (Nat.le_of_ble_eq_true rfl) ⟨rfl, Nat.le_of_ble_eq_true rfl⟩ (lvp_i rfl) ?_
        refine g_iload_n (i := 2) hE d_M_throwing_39 rfl rfl ?_
        refine g_aload (i := 4) hE d_M_throwing_40 rfl ?_
        obtain ⟨a15, rfl, h⟩ := nn_s h
        obtain ⟨k16, h⟩ := kd_s h
        refine g_getIN 7 hE kc_Fc k16 (Nat.le_of_ble_eq_true rfl) rfl nf_6 d_M_throwing_42 (fun x17 e => ?_)
        replace h := lt_i e h; clear e
        obtain ⟨x18, e19, h⟩ := bd_s h
        refine g_callS (av := [.inl v2, .inl x17]) (stk := [.int x18]) [] hE (c_M_isWithin (xl X) (xG X) e19) ky_M_isWithin ⟨Nat.le_of_ble_eq_true rfl, Nat.le_of_ble_eq_true rfl⟩ m_73 m_74 rfl d_M_throwing_45 rfl rfl ct_0 (Nat.zero_le _) (Nat.zero_le _) ?_
        refine gw.cs (c2 := 0) (s2 := 0) rfl rfl ?_
        refine g_if_ne hE d_M_throwing_48 (fun c38 => ?_) (fun c38 => ?_)
        · replace h := if_f c38 h
          refine g_aload (i := 4) hE d_M_throwing_53 rfl ?_
          refine g_getRN 6 hE kc_Fc k16 (Nat.le_of_ble_eq_true rfl) rfl nf_7 d_M_throwing_55 (fun x20 e => ?_)
          replace h := lt_i e h; clear e
          refine g_iload_n (i := 2) hE d_M_throwing_58 rfl rfl ?_
          obtain ⟨a21, rfl, h⟩ := nn_s h
          obtain ⟨k22, h⟩ := kd_s h
          obtain ⟨g23, h⟩ := gi_s h
          refine g_aald hE k22 (by decide) rfl (fun _ => rfl) g23 d_M_throwing_59 (fun x24 e => ?_)
          replace h := lt_i e h; clear e
          obtain ⟨a25, rfl, h⟩ := nn_s h
          obtain ⟨k26, h⟩ := kd_s h
          refine g_getRN 5 hE kc_Om k26 (Nat.le_of_ble_eq_true rfl) rfl nf_8 d_M_throwing_60 (fun x27 e => ?_)
          replace h := lt_i e h; clear e
          refine g_astore (i := 5) (lv' := [some (va_rf (some o)), some (.int v1), some (.int v2), some (.int v3), some (va_rf (some a15)), some (va_rf x27)]) hE d_M_throwing_63 (Nat.le_of_ble_eq_true rfl) ⟨rfl, Nat.le_of_ble_eq_true rfl⟩ (lvp_r rfl) ?_
          refine g_aload (i := 5) hE d_M_throwing_65 rfl ?_
          refine g_iload_n (i := 3) hE d_M_throwing_67 rfl rfl ?_
          obtain ⟨a28, rfl, h⟩ := nn_s h
          obtain ⟨k29, h⟩ := kd_s h
          obtain ⟨x30, e31, h⟩ := bd_s h
          refine g_callV (av := [.inr (.inr (some a28)), .inl v3]) (as := [.inl v3]) (stk := [.int x30]) [] hE (c_Rw_has (xl X) (xG X) e31) ky_Rw_has ⟨Nat.le_of_ble_eq_true rfl, Nat.le_of_ble_eq_true rfl⟩ rfl kc_Rw k29 m_156 m_153 m_154 rfl d_M_throwing_68 rfl rfl ct_0 (Nat.zero_le _) (Nat.zero_le _) ?_
          refine gw.cs (c2 := 0) (s2 := 0) rfl rfl ?_
          refine g_if_ne hE d_M_throwing_71 (fun c37 => ?_) (fun c37 => ?_)
          · replace h := if_f c37 h
            refine g_iconst hE d_M_throwing_83 ki_0 ?_
            cases h
            exact g_zret hE (Or.inl rfl) d_M_throwing_84 rfl rfl
          · replace h := if_t c37 h
            refine g_aload (i := 5) hE d_M_throwing_74 rfl ?_
            refine g_getIN 1 hE kc_Rw k29 (Nat.le_of_ble_eq_true rfl) rfl nf_9 d_M_throwing_76 (fun x32 e => ?_)
            replace h := lt_i e h; clear e
            refine g_iconst hE d_M_throwing_79 ki_3 ?_
            refine g_icmp_ne hE d_M_throwing_80 (fun c36 => ?_) (fun c36 => ?_)
            · replace h := if_f c36 h
              refine g_aload (i := 5) hE d_M_throwing_85 rfl ?_
              refine g_iload_n (i := 3) hE d_M_throwing_87 rfl rfl ?_
              obtain ⟨x33, d35, e34, h⟩ := bdD_s h
              refine g_callV (av := [.inr (.inr (some a28)), .inl v3]) (as := [.inl v3]) (stk := []) [] hE (c_Rw_add (xl X) (xG X) e34) ky_Rw_add ⟨Nat.le_of_ble_eq_true rfl, Nat.le_of_ble_eq_true rfl⟩ rfl kc_Rw k29 m_157 m_158 m_159 rfl d_M_throwing_88 rfl rfl ct_0 (Nat.zero_le _) (Nat.zero_le _) ?_
              refine gw.cs (c2 := 0) (s2 := 0) rfl rfl ?_
              refine g_iconst hE d_M_throwing_91 ki_1 ?_
              cases h
              exact g_zret hE (Or.inr rfl) d_M_throwing_92 rfl rfl
            · replace h := if_t c36 h
              refine g_iconst hE d_M_throwing_83 ki_0 ?_
              cases h
              exact g_zret hE (Or.inl rfl) d_M_throwing_84 rfl rfl
        · replace h := if_t c38 h
          refine g_iconst hE d_M_throwing_51 ki_0 ?_
          cases h
          exact g_zret hE (Or.inl rfl) d_M_throwing_52 rfl rfl
      · replace h := if_t c39 h
        refine g_iconst hE d_M_throwing_26 ki_0 ?_
        cases h
        exact g_zret hE (Or.inl rfl) d_M_throwing_27 rfl rfl
theorem d_M_isBox_0 : dc b_M_isBox 0 (.iload_n 0) 1 1 := ⟨by decide +kernel, rfl⟩
theorem d_M_isBox_1 : dc b_M_isBox 1 (.bipush 41) 2 3 := ⟨by decide +kernel, rfl⟩
theorem d_M_isBox_3 : db b_M_isBox 3 (.if_icmp .lt 13) 13 16 6 := ⟨by decide +kernel, by decide, rfl⟩
theorem d_M_isBox_6 : dc b_M_isBox 6 (.iload_n 0) 1 7 := ⟨by decide +kernel, rfl⟩
theorem d_M_isBox_7 : dc b_M_isBox 7 (.bipush 46) 2 9 := ⟨by decide +kernel, rfl⟩
theorem d_M_isBox_9 : db b_M_isBox 9 (.if_icmp .gt 7) 7 16 12 := ⟨by decide +kernel, by decide, rfl⟩
theorem d_M_isBox_12 : dc b_M_isBox 12 (.iconst 1) 1 13 := ⟨by decide +kernel, rfl⟩
theorem d_M_isBox_13 : db b_M_isBox 13 (.goto 4) 4 17 16 := ⟨by decide +kernel, by decide, rfl⟩
theorem d_M_isBox_16 : dc b_M_isBox 16 (.iconst 0) 1 17 := ⟨by decide +kernel, rfl⟩
theorem d_M_isBox_17 : dc b_M_isBox 17 (.ireturn) 1 18 := ⟨by decide +kernel, rfl⟩
set_option maxRecDepth 100000 in
def f_M_isBox (S : gS) (d : gD) (v0 : Int32) : Option (Int32) :=
  if v0 < 41 then (
    some 0)
  else (
    if 46 < v0 then (
      some 0)
    else (
      some 1))
set_option maxRecDepth 100000 in
set_option maxHeartbeats 4000000 in
theorem c_M_isBox (l : Launch) (G : gG) {S : gS} {d : gD} {v0 : Int32} {r : Int32} (h : f_M_isBox S d v0 = some r) : GM l G y_M_isBox b_M_isBox 1 (some (.boolean)) 0 0 0 0 [.inl v0] S d (some (.int r)) S d := by
  refine GM.of (by decide) (Nat.le_of_ble_eq_true rfl) ?_
  intro X hl0 hG0 hR0 hE0
  have hE : gE X b_M_isBox 1 "StandInMill" (some (.boolean)) "isBox" 0 0 := hE0
  unfold f_M_isBox at h
  refine gw.less (lv' := [some (.int v0)]) (And.intro rfl trivial) ?_
  refine g_iload_n (i := 0) hE d_M_isBox_0 rfl rfl ?_
  refine g_bipush hE d_M_isBox_1 kb_41 ?_
  refine g_icmp_lt hE d_M_isBox_3 (fun c2 => ?_) (fun c2 => ?_)
  · replace h := if_t c2 h
    refine g_iconst hE d_M_isBox_16 ki_0 ?_
    cases h
    exact g_zret hE (Or.inl rfl) d_M_isBox_17 rfl rfl
  · replace h := if_f c2 h
    refine g_iload_n (i := 0) hE d_M_isBox_6 rfl rfl ?_
    refine g_bipush hE d_M_isBox_7 kb_46 ?_
    refine g_icmp_gt hE d_M_isBox_9 (fun c1 => ?_) (fun c1 => ?_)
    · replace h := if_t c1 h
      refine g_iconst hE d_M_isBox_16 ki_0 ?_
      cases h
      exact g_zret hE (Or.inl rfl) d_M_isBox_17 rfl rfl
    · replace h := if_f c1 h
      refine g_iconst hE d_M_isBox_12 ki_1 ?_
      refine g_goto hE d_M_isBox_13 ?_
      cases h
      exact g_zret hE (Or.inr rfl) d_M_isBox_17 rfl rfl
theorem d_M_fitted_0 : dc b_M_fitted 0 (.iload_n 0) 1 1 := ⟨by decide +kernel, rfl⟩
theorem d_M_fitted_36 : dc b_M_fitted 36 (.lload_n 1) 1 37 := ⟨by decide +kernel, rfl⟩
theorem d_M_fitted_37 : dc b_M_fitted 37 (.lconst 0) 1 38 := ⟨by decide +kernel, rfl⟩
theorem d_M_fitted_38 : dc b_M_fitted 38 (.lcmp) 1 39 := ⟨by decide +kernel, rfl⟩
theorem d_M_fitted_39 : db b_M_fitted 39 (.ifCond .eq 7) 7 46 42 := ⟨by decide +kernel, by decide, rfl⟩
theorem d_M_fitted_42 : dc b_M_fitted 42 (.lconst 1) 1 43 := ⟨by decide +kernel, rfl⟩
theorem d_M_fitted_43 : db b_M_fitted 43 (.goto 4) 4 47 46 := ⟨by decide +kernel, by decide, rfl⟩
theorem d_M_fitted_46 : dc b_M_fitted 46 (.lconst 0) 1 47 := ⟨by decide +kernel, rfl⟩
theorem d_M_fitted_47 : dc b_M_fitted 47 (.lreturn) 1 48 := ⟨by decide +kernel, rfl⟩
theorem d_M_fitted_48 : dc b_M_fitted 48 (.lload_n 1) 1 49 := ⟨by decide +kernel, rfl⟩
theorem d_M_fitted_49 : dc b_M_fitted 49 (.l2i) 1 50 := ⟨by decide +kernel, rfl⟩
theorem d_M_fitted_50 : dc b_M_fitted 50 (.i2b) 1 51 := ⟨by decide +kernel, rfl⟩
theorem d_M_fitted_51 : dc b_M_fitted 51 (.i2l) 1 52 := ⟨by decide +kernel, rfl⟩
theorem d_M_fitted_52 : dc b_M_fitted 52 (.lreturn) 1 53 := ⟨by decide +kernel, rfl⟩
theorem d_M_fitted_53 : dc b_M_fitted 53 (.lload_n 1) 1 54 := ⟨by decide +kernel, rfl⟩
theorem d_M_fitted_54 : dc b_M_fitted 54 (.l2i) 1 55 := ⟨by decide +kernel, rfl⟩
theorem d_M_fitted_55 : dc b_M_fitted 55 (.i2c) 1 56 := ⟨by decide +kernel, rfl⟩
theorem d_M_fitted_56 : dc b_M_fitted 56 (.i2l) 1 57 := ⟨by decide +kernel, rfl⟩
theorem d_M_fitted_57 : dc b_M_fitted 57 (.lreturn) 1 58 := ⟨by decide +kernel, rfl⟩
theorem d_M_fitted_58 : dc b_M_fitted 58 (.lload_n 1) 1 59 := ⟨by decide +kernel, rfl⟩
theorem d_M_fitted_59 : dc b_M_fitted 59 (.l2i) 1 60 := ⟨by decide +kernel, rfl⟩
theorem d_M_fitted_60 : dc b_M_fitted 60 (.i2s) 1 61 := ⟨by decide +kernel, rfl⟩
theorem d_M_fitted_61 : dc b_M_fitted 61 (.i2l) 1 62 := ⟨by decide +kernel, rfl⟩
theorem d_M_fitted_62 : dc b_M_fitted 62 (.lreturn) 1 63 := ⟨by decide +kernel, rfl⟩
theorem d_M_fitted_63 : dc b_M_fitted 63 (.lload_n 1) 1 64 := ⟨by decide +kernel, rfl⟩
theorem d_M_fitted_64 : dc b_M_fitted 64 (.l2i) 1 65 := ⟨by decide +kernel, rfl⟩
theorem d_M_fitted_65 : dc b_M_fitted 65 (.i2l) 1 66 := ⟨by decide +kernel, rfl⟩
theorem d_M_fitted_66 : dc b_M_fitted 66 (.lreturn) 1 67 := ⟨by decide +kernel, rfl⟩
theorem d_M_fitted_67 : dc b_M_fitted 67 (.lload_n 1) 1 68 := ⟨by decide +kernel, rfl⟩
theorem d_M_fitted_68 : dc b_M_fitted 68 (.lreturn) 1 69 := ⟨by decide +kernel, rfl⟩
theorem sd_M_fitted_1 : decode b_M_fitted 1 = .ok (.tableswitch 66 1 5 #[35, 47, 52, 57, 62], 35) := by decide +kernel
theorem s_M_fitted_1 {X : GX} {cells slots : Nat} {Q : State → Prop} {S : gS} {d : gD} {lv : List (Option Value)} {st : List Value} {x : Int32} (hE : gE X b_M_fitted 3 "StandInMill" (some (.long)) "fitted" 0 0) (k0 : x = 1 → gw X cells slots Q S d 36 lv st) (k1 : x = 2 → gw X cells slots Q S d 48 lv st) (k2 : x = 3 → gw X cells slots Q S d 53 lv st) (k3 : x = 4 → gw X cells slots Q S d 58 lv st) (k4 : x = 5 → gw X cells slots Q S d 63 lv st) (kd : ¬ x = 1 → ¬ x = 2 → ¬ x = 3 → ¬ x = 4 → ¬ x = 5 → gw X cells slots Q S d 67 lv st) : gw X cells slots Q S d 1 lv (.int x :: st) := by
  by_cases c0 : x = 1
  · exact g_tin hE sd_M_fitted_1 (c := 1) c0 (by decide) (by decide) rfl (by decide) (k0 c0)
  · by_cases c1 : x = 2
    · exact g_tin hE sd_M_fitted_1 (c := 2) c1 (by decide) (by decide) rfl (by decide) (k1 c1)
    · by_cases c2 : x = 3
      · exact g_tin hE sd_M_fitted_1 (c := 3) c2 (by decide) (by decide) rfl (by decide) (k2 c2)
      · by_cases c3 : x = 4
        · exact g_tin hE sd_M_fitted_1 (c := 4) c3 (by decide) (by decide) rfl (by decide) (k3 c3)
        · by_cases c4 : x = 5
          · exact g_tin hE sd_M_fitted_1 (c := 5) c4 (by decide) (by decide) rfl (by decide) (k4 c4)
          · exact g_tout hE sd_M_fitted_1 (by have h0 := lv_neT c0 (a := 1) (by decide); have h1 := lv_neT c1 (a := 2) (by decide); have h2 := lv_neT c2 (a := 3) (by decide); have h3 := lv_neT c3 (a := 4) (by decide); have h4 := lv_neT c4 (a := 5) (by decide); omega) (by decide) (kd c0 c1 c2 c3 c4)
set_option maxRecDepth 100000 in
def f_M_fitted (S : gS) (d : gD) (v0 : Int32) (v1 : Int64) : Option (Int64) :=
  if v0 = 1 then (
    if (lg_cmp v1 0) = 0 then (
      some 0)
    else (
      some 1))
  else (
    if v0 = 2 then (
      some (Int32.toInt64 ((Int32.toInt8 (Int64.toInt32 v1)).toInt32)))
    else (
      if v0 = 3 then (
        some (Int32.toInt64 ((Int32.toUInt32 (Int64.toInt32 v1) % 65536).toInt32)))
      else (
        if v0 = 4 then (
          some (Int32.toInt64 ((Int32.toInt16 (Int64.toInt32 v1)).toInt32)))
        else (
          if v0 = 5 then (
            some (Int32.toInt64 (Int64.toInt32 v1)))
          else (
            some v1)))))
set_option maxRecDepth 100000 in
set_option maxHeartbeats 4000000 in
theorem c_M_fitted (l : Launch) (G : gG) {S : gS} {d : gD} {v0 : Int32} {v1 : Int64} {r : Int64} (h : f_M_fitted S d v0 v1 = some r) : GM l G y_M_fitted b_M_fitted 3 (some (.long)) 0 0 0 0 [.inl v0, .inr (.inl v1)] S d (some (.long r)) S d := by
  refine GM.of (by decide) (Nat.le_of_ble_eq_true rfl) ?_
  intro X hl0 hG0 hR0 hE0
  have hE : gE X b_M_fitted 3 "StandInMill" (some (.long)) "fitted" 0 0 := hE0
  unfold f_M_fitted at h
  refine gw.less (lv' := [some (.int v0), some (.long v1), none]) (And.intro rfl (And.intro rfl trivial)) ?_
  refine g_iload_n (i := 0) hE d_M_fitted_0 rfl rfl ?_
  refine s_M_fitted_1 hE (fun c1 => ?_) (fun c1 => ?_) (fun c1 => ?_) (fun c1 => ?_) (fun c1 => ?_) (fun c1_0 c1_1 c1_2 c1_3 c1_4 => ?_)
  · replace h := if_t c1 h
    refine g_lload_n (i := 1) hE d_M_fitted_36 rfl rfl ?_
    refine g_lconst (v := 0) hE d_M_fitted_37 rfl ?_
    refine g_lcmp hE d_M_fitted_38 ?_
    refine g_if_eq hE d_M_fitted_39 (fun c2 => ?_) (fun c2 => ?_)
    · replace h := if_t c2 h
      refine g_lconst (v := 0) hE d_M_fitted_46 rfl ?_
      cases h
      exact g_lret hE d_M_fitted_47 rfl rfl
    · replace h := if_f c2 h
      refine g_lconst (v := 1) hE d_M_fitted_42 rfl ?_
      refine g_goto hE d_M_fitted_43 ?_
      cases h
      exact g_lret hE d_M_fitted_47 rfl rfl
  · replace h := if_f (by rw [c1]; decide) h
    replace h := if_t c1 h
    refine g_lload_n (i := 1) hE d_M_fitted_48 rfl rfl ?_
    refine g_l2i hE d_M_fitted_49 ?_
    refine g_i2b hE d_M_fitted_50 ?_
    refine g_i2l hE d_M_fitted_51 ?_
    cases h
    exact g_lret hE d_M_fitted_52 rfl rfl
  · replace h := if_f (by rw [c1]; decide) h; replace h := if_f (by rw [c1]; decide) h
    replace h := if_t c1 h
    refine g_lload_n (i := 1) hE d_M_fitted_53 rfl rfl ?_
    refine g_l2i hE d_M_fitted_54 ?_
    refine g_i2c hE d_M_fitted_55 ?_
    refine g_i2l hE d_M_fitted_56 ?_
    cases h
    exact g_lret hE d_M_fitted_57 rfl rfl
  · replace h := if_f (by rw [c1]; decide) h; replace h := if_f (by rw [c1]; decide) h; replace h := if_f (by rw [c1]; decide) h
    replace h := if_t c1 h
    refine g_lload_n (i := 1) hE d_M_fitted_58 rfl rfl ?_
    refine g_l2i hE d_M_fitted_59 ?_
    refine g_i2s hE d_M_fitted_60 ?_
    refine g_i2l hE d_M_fitted_61 ?_
    cases h
    exact g_lret hE d_M_fitted_62 rfl rfl
  · replace h := if_f (by rw [c1]; decide) h; replace h := if_f (by rw [c1]; decide) h; replace h := if_f (by rw [c1]; decide) h; replace h := if_f (by rw [c1]; decide) h
    replace h := if_t c1 h
    refine g_lload_n (i := 1) hE d_M_fitted_63 rfl rfl ?_
    refine g_l2i hE d_M_fitted_64 ?_
    refine g_i2l hE d_M_fitted_65 ?_
    cases h
    exact g_lret hE d_M_fitted_66 rfl rfl
  · replace h := if_f c1_0 h; replace h := if_f c1_1 h; replace h := if_f c1_2 h; replace h := if_f c1_3 h; replace h := if_f c1_4 h
    refine g_lload_n (i := 1) hE d_M_fitted_67 rfl rfl ?_
    cases h
    exact g_lret hE d_M_fitted_68 rfl rfl
theorem d_M_object_0 : dc b_M_object 0 (.aload_n 0) 1 1 := ⟨by decide +kernel, rfl⟩
theorem d_M_object_1 : dc b_M_object 1 (.getfield 10) 3 4 := ⟨by decide +kernel, rfl⟩
theorem d_M_object_4 : dc b_M_object 4 (.iload_n 1) 1 5 := ⟨by decide +kernel, rfl⟩
theorem d_M_object_5 : dc b_M_object 5 (.invokevirtual 160) 3 8 := ⟨by decide +kernel, rfl⟩
theorem d_M_object_8 : db b_M_object 8 (.ifCond .ne 10) 10 18 11 := ⟨by decide +kernel, by decide, rfl⟩
theorem d_M_object_11 : dc b_M_object 11 (.iload_n 1) 1 12 := ⟨by decide +kernel, rfl⟩
theorem d_M_object_12 : dc b_M_object 12 (.invokestatic 181) 3 15 := ⟨by decide +kernel, rfl⟩
theorem d_M_object_15 : db b_M_object 15 (.ifCond .eq 12) 12 27 18 := ⟨by decide +kernel, by decide, rfl⟩
theorem d_M_object_18 : dc b_M_object 18 (.aload_n 0) 1 19 := ⟨by decide +kernel, rfl⟩
theorem d_M_object_19 : dc b_M_object 19 (.getfield 184) 3 22 := ⟨by decide +kernel, rfl⟩
theorem d_M_object_22 : dc b_M_object 22 (.bipush 32) 2 24 := ⟨by decide +kernel, rfl⟩
theorem d_M_object_24 : db b_M_object 24 (.if_icmp .ne 5) 5 29 27 := ⟨by decide +kernel, by decide, rfl⟩
theorem d_M_object_27 : dc b_M_object 27 (.iconst (-1)) 1 28 := ⟨by decide +kernel, rfl⟩
theorem d_M_object_28 : dc b_M_object 28 (.ireturn) 1 29 := ⟨by decide +kernel, rfl⟩
theorem d_M_object_29 : dc b_M_object 29 (.aload_n 0) 1 30 := ⟨by decide +kernel, rfl⟩
theorem d_M_object_30 : dc b_M_object 30 (.getfield 26) 3 33 := ⟨by decide +kernel, rfl⟩
theorem d_M_object_33 : dc b_M_object 33 (.aload_n 0) 1 34 := ⟨by decide +kernel, rfl⟩
theorem d_M_object_34 : dc b_M_object 34 (.getfield 184) 3 37 := ⟨by decide +kernel, rfl⟩
theorem d_M_object_37 : dc b_M_object 37 (.iload_n 1) 1 38 := ⟨by decide +kernel, rfl⟩
theorem d_M_object_38 : dc b_M_object 38 (.iastore) 1 39 := ⟨by decide +kernel, rfl⟩
theorem d_M_object_39 : dc b_M_object 39 (.aload_n 0) 1 40 := ⟨by decide +kernel, rfl⟩
theorem d_M_object_40 : dc b_M_object 40 (.getfield 29) 3 43 := ⟨by decide +kernel, rfl⟩
theorem d_M_object_43 : dc b_M_object 43 (.aload_n 0) 1 44 := ⟨by decide +kernel, rfl⟩
theorem d_M_object_44 : dc b_M_object 44 (.getfield 184) 3 47 := ⟨by decide +kernel, rfl⟩
theorem d_M_object_47 : dc b_M_object 47 (.iload_n 1) 1 48 := ⟨by decide +kernel, rfl⟩
theorem d_M_object_48 : dc b_M_object 48 (.invokestatic 181) 3 51 := ⟨by decide +kernel, rfl⟩
theorem d_M_object_51 : db b_M_object 51 (.ifCond .eq 14) 14 65 54 := ⟨by decide +kernel, by decide, rfl⟩
theorem d_M_object_54 : dc b_M_object 54 (.iload_n 1) 1 55 := ⟨by decide +kernel, rfl⟩
theorem d_M_object_55 : dc b_M_object 55 (.bipush 40) 2 57 := ⟨by decide +kernel, rfl⟩
theorem d_M_object_57 : dc b_M_object 57 (.isub) 1 58 := ⟨by decide +kernel, rfl⟩
theorem d_M_object_58 : dc b_M_object 58 (.lload_n 2) 1 59 := ⟨by decide +kernel, rfl⟩
theorem d_M_object_59 : dc b_M_object 59 (.invokestatic 187) 3 62 := ⟨by decide +kernel, rfl⟩
theorem d_M_object_62 : db b_M_object 62 (.goto 4) 4 66 65 := ⟨by decide +kernel, by decide, rfl⟩
theorem d_M_object_65 : dc b_M_object 65 (.lload_n 2) 1 66 := ⟨by decide +kernel, rfl⟩
theorem d_M_object_66 : dc b_M_object 66 (.lastore) 1 67 := ⟨by decide +kernel, rfl⟩
theorem d_M_object_67 : dc b_M_object 67 (.aload_n 0) 1 68 := ⟨by decide +kernel, rfl⟩
theorem d_M_object_68 : dc b_M_object 68 (.dup) 1 69 := ⟨by decide +kernel, rfl⟩
theorem d_M_object_69 : dc b_M_object 69 (.getfield 184) 3 72 := ⟨by decide +kernel, rfl⟩
theorem d_M_object_72 : dc b_M_object 72 (.iconst 1) 1 73 := ⟨by decide +kernel, rfl⟩
theorem d_M_object_73 : dc b_M_object 73 (.iadd) 1 74 := ⟨by decide +kernel, rfl⟩
theorem d_M_object_74 : dc b_M_object 74 (.putfield 184) 3 77 := ⟨by decide +kernel, rfl⟩
theorem d_M_object_77 : dc b_M_object 77 (.aload_n 0) 1 78 := ⟨by decide +kernel, rfl⟩
theorem d_M_object_78 : dc b_M_object 78 (.getfield 184) 3 81 := ⟨by decide +kernel, rfl⟩
theorem d_M_object_81 : dc b_M_object 81 (.iconst 1) 1 82 := ⟨by decide +kernel, rfl⟩
theorem d_M_object_82 : dc b_M_object 82 (.isub) 1 83 := ⟨by decide +kernel, rfl⟩
theorem d_M_object_83 : dc b_M_object 83 (.ireturn) 1 84 := ⟨by decide +kernel, rfl⟩
def f_M_object_J66 (S : gS) (o : Nat) (d : gD) (u0 : Option Nat) (u1 : Int32) (u2 : Int64) : Option (Int32 × gD) :=
  nn u0 fun a1 =>
  kd S a1 51 <|
  gi u1 (sN S a1) <|
  lt_ (wL d a1 u1.toNatClampNeg u2) fun d4 =>
  kd S o 1 <|
  lt_ (dI d4 o 7) fun x6 =>
  lt_ (wI d4 o 7 (x6 + 1)) fun d7 =>
  lt_ (dI d7 o 7) fun x8 =>
  some (x8 - 1, d7)
set_option maxRecDepth 100000 in
set_option maxHeartbeats 4000000 in
theorem w_M_object_J66 {X : GX} (hE : gE X b_M_object 4 "StandInMill" (some (.int)) "object" 1 22) {S : gS} {o : Nat} {r : Int32} {d' : gD} :
    ∀ (d : gD) (u0 : Option Nat) (u1 : Int32) (u2 : Int64), f_M_object_J66 S o d u0 u1 u2 = some (r, d') → gw X 0 0 (gQ X (some (.int r)) S d' 0 0) S d 66 [some (va_rf (some o)), none, none, none] [.long u2, .int u1, va_rf u0] := by
  intro d u0 u1 u2 h
  unfold f_M_object_J66 at h
  obtain ⟨a1, rfl, h⟩ := nn_s h
  obtain ⟨k2, h⟩ := kd_s h
  obtain ⟨g3, h⟩ := gi_s h
  refine g_last hE k2 g3 d_M_object_66 (fun d4 e => ?_)
  replace h := lt_i e h; clear e
  refine g_aload_n (i := 0) hE d_M_object_67 rfl rfl ?_
  refine g_dupr hE d_M_object_68 ?_
  obtain ⟨k5, h⟩ := kd_s h
  refine g_getI 7 hE kc_M k5 (Nat.le_of_ble_eq_true rfl) rfl m_160 d_M_object_69 (fun x6 e => ?_)
  replace h := lt_i e h; clear e
  refine g_iconst hE d_M_object_72 ki_1 ?_
  refine g_iadd hE d_M_object_73 ?_
  refine g_putI 7 hE kc_M k5 (Nat.le_of_ble_eq_true rfl) rfl m_160 rfl (by decide +kernel) d_M_object_74 (fun d7 e => ?_)
  replace h := lt_i e h; clear e
  refine g_aload_n (i := 0) hE d_M_object_77 rfl rfl ?_
  refine g_getI 7 hE kc_M k5 (Nat.le_of_ble_eq_true rfl) rfl m_160 d_M_object_78 (fun x8 e => ?_)
  replace h := lt_i e h; clear e
  refine g_iconst hE d_M_object_81 ki_1 ?_
  refine g_isub hE d_M_object_82 ?_
  cases h
  exact g_iret hE d_M_object_83 rfl rfl
def f_M_object_J18 (S : gS) (o : Nat) (d : gD) (v1 : Int32) (v2 : Int64) : Option (Int32 × gD) :=
  kd S o 1 <|
  lt_ (dI d o 7) fun x2 =>
  if x2 = 32 then (
    some ((-1), d))
  else (
    lt_ (sP S o 5) fun x3 =>
    lt_ (dI d o 7) fun x4 =>
    nn x3 fun a5 =>
    kd S a5 50 <|
    gi x4 (sN S a5) <|
    lt_ (wI d a5 x4.toNatClampNeg v1) fun d8 =>
    lt_ (sP S o 6) fun x9 =>
    lt_ (dI d8 o 7) fun x10 =>
    bd (f_M_isBox S d8 v1) fun x11 =>
    if x11 = 0 then (
      f_M_object_J66 S o d8 x9 x10 v2)
    else (
      bd (f_M_fitted S d8 (v1 - 40) v2) fun x13 =>
      f_M_object_J66 S o d8 x9 x10 x13))
set_option maxRecDepth 100000 in
set_option maxHeartbeats 4000000 in
theorem w_M_object_J18 {X : GX} (hE : gE X b_M_object 4 "StandInMill" (some (.int)) "object" 1 22) {S : gS} {o : Nat} {r : Int32} {d' : gD} :
    ∀ (d : gD) (v1 : Int32) (v2 : Int64), f_M_object_J18 S o d v1 v2 = some (r, d') → gw X 0 0 (gQ X (some (.int r)) S d' 0 0) S d 18 [some (va_rf (some o)), some (.int v1), some (.long v2), none] [] := by
  intro d v1 v2 h
  unfold f_M_object_J18 at h
  refine g_aload_n (i := 0) hE d_M_object_18 rfl rfl ?_
  obtain ⟨k1, h⟩ := kd_s h
  refine g_getI 7 hE kc_M k1 (Nat.le_of_ble_eq_true rfl) rfl m_160 d_M_object_19 (fun x2 e => ?_)
  replace h := lt_i e h; clear e
  refine g_bipush hE d_M_object_22 kb_32 ?_
  refine g_icmp_ne hE d_M_object_24 (fun c16 => ?_) (fun c16 => ?_)
  · replace h := if_f c16 h
    refine g_aload_n (i := 0) hE d_M_object_29 rfl rfl ?_
    refine g_getR 5 hE kc_M k1 (Nat.le_of_ble_eq_true rfl) rfl m_45 d_M_object_30 (fun x3 e => ?_)
    replace h := lt_i e h; clear e
    refine g_aload_n (i := 0) hE d_M_object_33 rfl rfl ?_
    refine g_getI 7 hE kc_M k1 (Nat.le_of_ble_eq_true rfl) rfl m_160 d_M_object_34 (fun x4 e => ?_)
    replace h := lt_i e h; clear e
    refine g_iload_n (i := 1) hE d_M_object_37 rfl rfl ?_
    obtain ⟨a5, rfl, h⟩ := nn_s h
    obtain ⟨k6, h⟩ := kd_s h
    obtain ⟨g7, h⟩ := gi_s h
    refine g_iast hE k6 g7 d_M_object_38 (fun d8 e => ?_)
    replace h := lt_i e h; clear e
    refine g_aload_n (i := 0) hE d_M_object_39 rfl rfl ?_
    refine g_getR 6 hE kc_M k1 (Nat.le_of_ble_eq_true rfl) rfl m_46 d_M_object_40 (fun x9 e => ?_)
    replace h := lt_i e h; clear e
    refine g_aload_n (i := 0) hE d_M_object_43 rfl rfl ?_
    refine g_getI 7 hE kc_M k1 (Nat.le_of_ble_eq_true rfl) rfl m_160 d_M_object_44 (fun x10 e => ?_)
    replace h := lt_i e h; clear e
    refine g_iload_n (i := 1) hE d_M_object_47 rfl rfl ?_
    obtain ⟨x11, e12, h⟩ := bd_s h
    refine g_callS (av := [.inl v1]) (stk := [.int x11, .int x10, va_rf x9]) [.int x10, va_rf x9] hE (c_M_isBox (xl X) (xG X) e12) ky_M_isBox ⟨Nat.le_of_ble_eq_true rfl, Nat.le_of_ble_eq_true rfl⟩ m_161 m_162 rfl d_M_object_48 rfl rfl (Nat.le_trans (ct_i (ct_r ct_n)) (Nat.le_of_ble_eq_true rfl)) (Nat.zero_le _) (Nat.zero_le _) ?_
    refine gw.cs (c2 := 0) (s2 := 0) rfl rfl ?_
    refine g_if_eq hE d_M_object_51 (fun c15 => ?_) (fun c15 => ?_)
    · replace h := if_t c15 h
      refine g_lload_n (i := 2) hE d_M_object_65 rfl rfl ?_
      exact gw.less (lv' := [some (va_rf (some o)), none, none, none]) (And.intro rfl trivial) (w_M_object_J66 hE d8 x9 x10 v2 h)
    · replace h := if_f c15 h
      refine g_iload_n (i := 1) hE d_M_object_54 rfl rfl ?_
      refine g_bipush hE d_M_object_55 kb_40 ?_
      refine g_isub hE d_M_object_57 ?_
      refine g_lload_n (i := 2) hE d_M_object_58 rfl rfl ?_
      obtain ⟨x13, e14, h⟩ := bd_s h
      refine g_callS (av := [.inl (v1 - 40), .inr (.inl v2)]) (stk := [.long x13, .int x10, va_rf x9]) [.int x10, va_rf x9] hE (c_M_fitted (xl X) (xG X) e14) ky_M_fitted ⟨Nat.le_of_ble_eq_true rfl, Nat.le_of_ble_eq_true rfl⟩ m_163 m_164 rfl d_M_object_59 rfl rfl (Nat.le_trans (ct_i (ct_r ct_n)) (Nat.le_of_ble_eq_true rfl)) (Nat.zero_le _) (Nat.zero_le _) ?_
      refine gw.cs (c2 := 0) (s2 := 0) rfl rfl ?_
      refine g_goto hE d_M_object_62 ?_
      exact gw.less (lv' := [some (va_rf (some o)), none, none, none]) (And.intro rfl trivial) (w_M_object_J66 hE d8 x9 x10 x13 h)
  · replace h := if_t c16 h
    refine g_iconst hE d_M_object_27 ki_m1 ?_
    cases h
    exact g_iret hE d_M_object_28 rfl rfl
set_option maxRecDepth 100000 in
def f_M_object (S : gS) (d : gD) (o : Nat) (v1 : Int32) (v2 : Int64) : Option (Int32 × gD) :=
  kd S o 1 <|
  lt_ (sP S o 0) fun x2 =>
  nn x2 fun a3 =>
  kd S a3 8 <|
  bd (f_Ty_isClass S d a3 v1) fun x5 =>
  if x5 = 0 then (
    bd (f_M_isBox S d v1) fun x7 =>
    if x7 = 0 then (
      some ((-1), d))
    else (
      f_M_object_J18 S o d v1 v2))
  else (
    f_M_object_J18 S o d v1 v2)
set_option maxRecDepth 100000 in
set_option maxHeartbeats 4000000 in
theorem c_M_object (l : Launch) (G : gG) {S : gS} {d : gD} {o : Nat} {v1 : Int32} {v2 : Int64} {r : Int32} {d' : gD} (h : f_M_object S d o v1 v2 = some (r, d')) : GM l G y_M_object b_M_object 4 (some (.int)) 1 22 0 0 [.inr (.inr (some o)), .inl v1, .inr (.inl v2)] S d (some (.int r)) S d' := by
  refine GM.of (by decide) (Nat.le_of_ble_eq_true rfl) ?_
  intro X hl0 hG0 hR0 hE0
  have hE : gE X b_M_object 4 "StandInMill" (some (.int)) "object" 1 22 := hE0
  unfold f_M_object at h
  refine gw.less (lv' := [some (va_rf (some o)), some (.int v1), some (.long v2), none]) (And.intro rfl (And.intro rfl (And.intro rfl trivial))) ?_
  refine g_aload_n (i := 0) hE d_M_object_0 rfl rfl ?_
  obtain ⟨k1, h⟩ := kd_s h
  refine g_getR 0 hE kc_M k1 (Nat.le_of_ble_eq_true rfl) rfl m_41 d_M_object_1 (fun x2 e => ?_)
  replace h := lt_i e h; clear e
  refine g_iload_n (i := 1) hE d_M_object_4 rfl rfl ?_
  obtain ⟨a3, rfl, h⟩ := nn_s h
  obtain ⟨k4, h⟩ := kd_s h
  obtain ⟨x5, e6, h⟩ := bd_s h
  refine g_callV (av := [.inr (.inr (some a3)), .inl v1]) (as := [.inl v1]) (stk := [.int x5]) [] hE (c_Ty_isClass (xl X) (xG X) e6) ky_Ty_isClass ⟨Nat.le_of_ble_eq_true rfl, Nat.le_of_ble_eq_true rfl⟩ rfl kc_Ty k4 m_155 m_79 m_80 rfl d_M_object_5 rfl rfl ct_0 (Nat.zero_le _) (Nat.zero_le _) ?_
  refine gw.cs (c2 := 0) (s2 := 0) rfl rfl ?_
  refine g_if_ne hE d_M_object_8 (fun c10 => ?_) (fun c10 => ?_)
  · replace h := if_f c10 h
    exact gw.less (lv' := [some (va_rf (some o)), some (.int v1), some (.long v2), none]) (And.intro rfl (And.intro rfl (And.intro rfl trivial))) (w_M_object_J18 hE d v1 v2 h)
  · replace h := if_t c10 h
    refine g_iload_n (i := 1) hE d_M_object_11 rfl rfl ?_
    obtain ⟨x7, e8, h⟩ := bd_s h
    refine g_callS (av := [.inl v1]) (stk := [.int x7]) [] hE (c_M_isBox (xl X) (xG X) e8) ky_M_isBox ⟨Nat.le_of_ble_eq_true rfl, Nat.le_of_ble_eq_true rfl⟩ m_161 m_162 rfl d_M_object_12 rfl rfl ct_0 (Nat.zero_le _) (Nat.zero_le _) ?_
    refine gw.cs (c2 := 0) (s2 := 0) rfl rfl ?_
    refine g_if_eq hE d_M_object_15 (fun c9 => ?_) (fun c9 => ?_)
    · replace h := if_t c9 h
      refine g_iconst hE d_M_object_27 ki_m1 ?_
      cases h
      exact g_iret hE d_M_object_28 rfl rfl
    · replace h := if_f c9 h
      exact gw.less (lv' := [some (va_rf (some o)), some (.int v1), some (.long v2), none]) (And.intro rfl (And.intro rfl (And.intro rfl trivial))) (w_M_object_J18 hE d v1 v2 h)
theorem d_M_value_0 : dc b_M_value 0 (.iload_n 1) 1 1 := ⟨by decide +kernel, rfl⟩
theorem d_M_value_1 : dc b_M_value 1 (.aload_n 0) 1 2 := ⟨by decide +kernel, rfl⟩
theorem d_M_value_2 : dc b_M_value 2 (.getfield 184) 3 5 := ⟨by decide +kernel, rfl⟩
theorem d_M_value_5 : dc b_M_value 5 (.invokestatic 94) 3 8 := ⟨by decide +kernel, rfl⟩
theorem d_M_value_8 : db b_M_value 8 (.ifCond .ne 7) 7 15 11 := ⟨by decide +kernel, by decide, rfl⟩
theorem d_M_value_11 : dc b_M_value 11 (.ldc2_w 61) 3 14 := ⟨by decide +kernel, rfl⟩
theorem d_M_value_14 : dc b_M_value 14 (.lreturn) 1 15 := ⟨by decide +kernel, rfl⟩
theorem d_M_value_15 : dc b_M_value 15 (.iload_n 2) 1 16 := ⟨by decide +kernel, rfl⟩
theorem d_M_value_44 : dc b_M_value 44 (.aload_n 0) 1 45 := ⟨by decide +kernel, rfl⟩
theorem d_M_value_45 : dc b_M_value 45 (.getfield 26) 3 48 := ⟨by decide +kernel, rfl⟩
theorem d_M_value_48 : dc b_M_value 48 (.iload_n 1) 1 49 := ⟨by decide +kernel, rfl⟩
theorem d_M_value_49 : dc b_M_value 49 (.iaload) 1 50 := ⟨by decide +kernel, rfl⟩
theorem d_M_value_50 : dc b_M_value 50 (.i2l) 1 51 := ⟨by decide +kernel, rfl⟩
theorem d_M_value_51 : dc b_M_value 51 (.lreturn) 1 52 := ⟨by decide +kernel, rfl⟩
theorem d_M_value_52 : dc b_M_value 52 (.aload_n 0) 1 53 := ⟨by decide +kernel, rfl⟩
theorem d_M_value_53 : dc b_M_value 53 (.getfield 29) 3 56 := ⟨by decide +kernel, rfl⟩
theorem d_M_value_56 : dc b_M_value 56 (.iload_n 1) 1 57 := ⟨by decide +kernel, rfl⟩
theorem d_M_value_57 : dc b_M_value 57 (.laload) 1 58 := ⟨by decide +kernel, rfl⟩
theorem d_M_value_58 : dc b_M_value 58 (.lreturn) 1 59 := ⟨by decide +kernel, rfl⟩
theorem d_M_value_59 : dc b_M_value 59 (.ldc2_w 61) 3 62 := ⟨by decide +kernel, rfl⟩
theorem d_M_value_62 : dc b_M_value 62 (.lreturn) 1 63 := ⟨by decide +kernel, rfl⟩
theorem sd_M_value_16 : decode b_M_value 16 = .ok (.lookupswitch 43 #[(0, 28), (1, 36)], 28) := by decide +kernel
theorem s_M_value_16 {X : GX} {cells slots : Nat} {Q : State → Prop} {S : gS} {d : gD} {lv : List (Option Value)} {st : List Value} {x : Int32} (hE : gE X b_M_value 3 "StandInMill" (some (.long)) "value" 1 21) (k0 : x = 0 → gw X cells slots Q S d 44 lv st) (k1 : x = 1 → gw X cells slots Q S d 52 lv st) (kd : ¬ x = 0 → ¬ x = 1 → gw X cells slots Q S d 59 lv st) : gw X cells slots Q S d 16 lv (.int x :: st) := by
  by_cases c0 : x = 0
  · exact g_look (off := 28) hE sd_M_value_16 rfl (by subst c0; decide) (by decide) (k0 c0)
  · by_cases c1 : x = 1
    · exact g_look (off := 36) hE sd_M_value_16 rfl (by subst c1; decide) (by decide) (k1 c1)
    · exact g_look (off := 43) hE sd_M_value_16 rfl (by show Op.lookupswitch.offset [(0, 28), (1, 36)] _ _ = _; rw [lv_osw c0 (a := 0) (by decide), lv_osw c1 (a := 1) (by decide)]; rfl) (by decide) (kd c0 c1)
set_option maxRecDepth 100000 in
def f_M_value (S : gS) (d : gD) (o : Nat) (v1 : Int32) (v2 : Int32) : Option (Int64) :=
  kd S o 1 <|
  lt_ (dI d o 7) fun x2 =>
  bd (f_M_isWithin S d v1 x2) fun x3 =>
  if x3 = 0 then (
    some (-1))
  else (
    if v2 = 0 then (
      lt_ (sP S o 5) fun x6 =>
      nn x6 fun a7 =>
      kd S a7 50 <|
      gi v1 (sN S a7) <|
      lt_ (dI d a7 v1.toNatClampNeg) fun x10 =>
      some (Int32.toInt64 x10))
    else (
      if v2 = 1 then (
        lt_ (sP S o 6) fun x11 =>
        nn x11 fun a12 =>
        kd S a12 51 <|
        gi v1 (sN S a12) <|
        lt_ (dL d a12 v1.toNatClampNeg) fun x15 =>
        some x15)
      else (
        some (-1))))
set_option maxRecDepth 100000 in
set_option maxHeartbeats 4000000 in
theorem c_M_value (l : Launch) (G : gG) {S : gS} {d : gD} {o : Nat} {v1 : Int32} {v2 : Int32} {r : Int64} (h : f_M_value S d o v1 v2 = some r) : GM l G y_M_value b_M_value 3 (some (.long)) 1 21 0 0 [.inr (.inr (some o)), .inl v1, .inl v2] S d (some (.long r)) S d := by
  refine GM.of (by decide) (Nat.le_of_ble_eq_true rfl) ?_
  intro X hl0 hG0 hR0 hE0
  have hE : gE X b_M_value 3 "StandInMill" (some (.long)) "value" 1 21 := hE0
  unfold f_M_value at h
  refine gw.less (lv' := [some (va_rf (some o)), some (.int v1), some (.int v2)]) (And.intro rfl (And.intro rfl (And.intro rfl trivial))) ?_
  refine g_iload_n (i := 1) hE d_M_value_0 rfl rfl ?_
  refine g_aload_n (i := 0) hE d_M_value_1 rfl rfl ?_
  obtain ⟨k1, h⟩ := kd_s h
  refine g_getI 7 hE kc_M k1 (Nat.le_of_ble_eq_true rfl) rfl m_160 d_M_value_2 (fun x2 e => ?_)
  replace h := lt_i e h; clear e
  obtain ⟨x3, e4, h⟩ := bd_s h
  refine g_callS (av := [.inl v1, .inl x2]) (stk := [.int x3]) [] hE (c_M_isWithin (xl X) (xG X) e4) ky_M_isWithin ⟨Nat.le_of_ble_eq_true rfl, Nat.le_of_ble_eq_true rfl⟩ m_73 m_74 rfl d_M_value_5 rfl rfl ct_0 (Nat.zero_le _) (Nat.zero_le _) ?_
  refine gw.cs (c2 := 0) (s2 := 0) rfl rfl ?_
  refine g_if_ne hE d_M_value_8 (fun c16 => ?_) (fun c16 => ?_)
  · replace h := if_f c16 h
    refine g_iload_n (i := 2) hE d_M_value_15 rfl rfl ?_
    refine s_M_value_16 hE (fun c5 => ?_) (fun c5 => ?_) (fun c5_0 c5_1 => ?_)
    · replace h := if_t c5 h
      refine g_aload_n (i := 0) hE d_M_value_44 rfl rfl ?_
      refine g_getR 5 hE kc_M k1 (Nat.le_of_ble_eq_true rfl) rfl m_45 d_M_value_45 (fun x6 e => ?_)
      replace h := lt_i e h; clear e
      refine g_iload_n (i := 1) hE d_M_value_48 rfl rfl ?_
      obtain ⟨a7, rfl, h⟩ := nn_s h
      obtain ⟨k8, h⟩ := kd_s h
      obtain ⟨g9, h⟩ := gi_s h
      refine g_iald hE k8 g9 d_M_value_49 (fun x10 e => ?_)
      replace h := lt_i e h; clear e
      refine g_i2l hE d_M_value_50 ?_
      cases h
      exact g_lret hE d_M_value_51 rfl rfl
    · replace h := if_f (by rw [c5]; decide) h
      replace h := if_t c5 h
      refine g_aload_n (i := 0) hE d_M_value_52 rfl rfl ?_
      refine g_getR 6 hE kc_M k1 (Nat.le_of_ble_eq_true rfl) rfl m_46 d_M_value_53 (fun x11 e => ?_)
      replace h := lt_i e h; clear e
      refine g_iload_n (i := 1) hE d_M_value_56 rfl rfl ?_
      obtain ⟨a12, rfl, h⟩ := nn_s h
      obtain ⟨k13, h⟩ := kd_s h
      obtain ⟨g14, h⟩ := gi_s h
      refine g_lald hE k13 g14 d_M_value_57 (fun x15 e => ?_)
      replace h := lt_i e h; clear e
      cases h
      exact g_lret hE d_M_value_58 rfl rfl
    · replace h := if_f c5_0 h; replace h := if_f c5_1 h
      refine g_ldc2 hE d_M_value_59 m_62 ?_
      cases h
      exact g_lret hE d_M_value_62 rfl rfl
  · replace h := if_t c16 h
    refine g_ldc2 hE d_M_value_11 m_62 ?_
    cases h
    exact g_lret hE d_M_value_14 rfl rfl
theorem d_M_below_0 : dc b_M_below 0 (.aload_n 0) 1 1 := ⟨by decide +kernel, rfl⟩
theorem d_M_below_1 : dc b_M_below 1 (.getfield 10) 3 4 := ⟨by decide +kernel, rfl⟩
theorem d_M_below_4 : dc b_M_below 4 (.iload_n 1) 1 5 := ⟨by decide +kernel, rfl⟩
theorem d_M_below_5 : dc b_M_below 5 (.iload_n 2) 1 6 := ⟨by decide +kernel, rfl⟩
theorem d_M_below_6 : dc b_M_below 6 (.invokevirtual 191) 3 9 := ⟨by decide +kernel, rfl⟩
theorem d_M_below_9 : dc b_M_below 9 (.ireturn) 1 10 := ⟨by decide +kernel, rfl⟩
set_option maxRecDepth 100000 in
def f_M_below (S : gS) (d : gD) (o : Nat) (v1 : Int32) (v2 : Int32) : Option (Int32) :=
  kd S o 1 <|
  lt_ (sP S o 0) fun x2 =>
  nn x2 fun a3 =>
  kd S a3 8 <|
  bd (f_Ty_isBelow S d a3 v1 v2) fun x5 =>
  nb x5 <|
  some x5
set_option maxRecDepth 100000 in
set_option maxHeartbeats 4000000 in
theorem c_M_below (l : Launch) (G : gG) {S : gS} {d : gD} {o : Nat} {v1 : Int32} {v2 : Int32} {r : Int32} (h : f_M_below S d o v1 v2 = some r) : GM l G y_M_below b_M_below 3 (some (.boolean)) 2 43 0 0 [.inr (.inr (some o)), .inl v1, .inl v2] S d (some (.int r)) S d := by
  refine GM.of (by decide) (Nat.le_of_ble_eq_true rfl) ?_
  intro X hl0 hG0 hR0 hE0
  have hE : gE X b_M_below 3 "StandInMill" (some (.boolean)) "below" 2 43 := hE0
  unfold f_M_below at h
  refine gw.less (lv' := [some (va_rf (some o)), some (.int v1), some (.int v2)]) (And.intro rfl (And.intro rfl (And.intro rfl trivial))) ?_
  refine g_aload_n (i := 0) hE d_M_below_0 rfl rfl ?_
  obtain ⟨k1, h⟩ := kd_s h
  refine g_getR 0 hE kc_M k1 (Nat.le_of_ble_eq_true rfl) rfl m_41 d_M_below_1 (fun x2 e => ?_)
  replace h := lt_i e h; clear e
  refine g_iload_n (i := 1) hE d_M_below_4 rfl rfl ?_
  refine g_iload_n (i := 2) hE d_M_below_5 rfl rfl ?_
  obtain ⟨a3, rfl, h⟩ := nn_s h
  obtain ⟨k4, h⟩ := kd_s h
  obtain ⟨x5, e6, h⟩ := bd_s h
  refine g_callV (av := [.inr (.inr (some a3)), .inl v1, .inl v2]) (as := [.inl v1, .inl v2]) (stk := [.int x5]) [] hE (c_Ty_isBelow (xl X) (xG X) e6) ky_Ty_isBelow ⟨Nat.le_of_ble_eq_true rfl, Nat.le_of_ble_eq_true rfl⟩ rfl kc_Ty k4 m_165 m_109 m_110 rfl d_M_below_6 rfl rfl ct_0 (Nat.zero_le _) (Nat.zero_le _) ?_
  refine gw.cs (c2 := 0) (s2 := 0) rfl rfl ?_
  obtain ⟨g7, h⟩ := nb_s h
  cases h
  exact g_zret hE g7 d_M_below_9 rfl rfl
