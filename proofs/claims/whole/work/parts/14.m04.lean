theorem d_M_isPlain_0 : dc b_M_isPlain 0 (.iload_n 0) 1 1 := ⟨by decide +kernel, rfl⟩
theorem d_M_isPlain_1 : dc b_M_isPlain 1 (.iconst 1) 1 2 := ⟨by decide +kernel, rfl⟩
theorem d_M_isPlain_2 : db b_M_isPlain 2 (.if_icmp .lt 13) 13 15 5 := ⟨by decide +kernel, by decide, rfl⟩
theorem d_M_isPlain_5 : dc b_M_isPlain 5 (.iload_n 0) 1 6 := ⟨by decide +kernel, rfl⟩
theorem d_M_isPlain_6 : dc b_M_isPlain 6 (.bipush 6) 2 8 := ⟨by decide +kernel, rfl⟩
theorem d_M_isPlain_8 : db b_M_isPlain 8 (.if_icmp .gt 7) 7 15 11 := ⟨by decide +kernel, by decide, rfl⟩
theorem d_M_isPlain_11 : dc b_M_isPlain 11 (.iconst 1) 1 12 := ⟨by decide +kernel, rfl⟩
theorem d_M_isPlain_12 : db b_M_isPlain 12 (.goto 4) 4 16 15 := ⟨by decide +kernel, by decide, rfl⟩
theorem d_M_isPlain_15 : dc b_M_isPlain 15 (.iconst 0) 1 16 := ⟨by decide +kernel, rfl⟩
theorem d_M_isPlain_16 : dc b_M_isPlain 16 (.ireturn) 1 17 := ⟨by decide +kernel, rfl⟩
set_option maxRecDepth 100000 in
def f_M_isPlain (S : gS) (d : gD) (v0 : Int32) : Option (Int32) :=
  if v0 < 1 then (
    some 0)
  else (
    if 6 < v0 then (
      some 0)
    else (
      some 1))
set_option maxRecDepth 100000 in
set_option maxHeartbeats 4000000 in
theorem c_M_isPlain (l : Launch) (G : gG) {S : gS} {d : gD} {v0 : Int32} {r : Int32} (h : f_M_isPlain S d v0 = some r) : GM l G y_M_isPlain b_M_isPlain 1 (some (.boolean)) 0 0 0 0 [.inl v0] S d (some (.int r)) S d := by
  refine GM.of (by decide) (Nat.le_of_ble_eq_true rfl) ?_
  intro X hl0 hG0 hR0 hE0
  have hE : gE X b_M_isPlain 1 "StandInMill" (some (.boolean)) "isPlain" 0 0 := hE0
  unfold f_M_isPlain at h
  refine gw.less (lv' := [some (.int v0)]) (And.intro rfl trivial) ?_
  refine g_iload_n (i := 0) hE d_M_isPlain_0 rfl rfl ?_
  refine g_iconst hE d_M_isPlain_1 ki_1 ?_
  refine g_icmp_lt hE d_M_isPlain_2 (fun c2 => ?_) (fun c2 => ?_)
  · replace h := if_t c2 h
    refine g_iconst hE d_M_isPlain_15 ki_0 ?_
    cases h
    exact g_zret hE (Or.inl rfl) d_M_isPlain_16 rfl rfl
  · replace h := if_f c2 h
    refine g_iload_n (i := 0) hE d_M_isPlain_5 rfl rfl ?_
    refine g_bipush hE d_M_isPlain_6 kb_6 ?_
    refine g_icmp_gt hE d_M_isPlain_8 (fun c1 => ?_) (fun c1 => ?_)
    · replace h := if_t c1 h
      refine g_iconst hE d_M_isPlain_15 ki_0 ?_
      cases h
      exact g_zret hE (Or.inl rfl) d_M_isPlain_16 rfl rfl
    · replace h := if_f c1 h
      refine g_iconst hE d_M_isPlain_11 ki_1 ?_
      refine g_goto hE d_M_isPlain_12 ?_
      cases h
      exact g_zret hE (Or.inr rfl) d_M_isPlain_16 rfl rfl
theorem d_Ty_isThere_0 : dc b_Ty_isThere 0 (.iload_n 1) 1 1 := ⟨by decide +kernel, rfl⟩
theorem d_Ty_isThere_1 : dc b_Ty_isThere 1 (.invokestatic 31) 3 4 := ⟨by decide +kernel, rfl⟩
theorem d_Ty_isThere_4 : db b_Ty_isThere 4 (.ifCond .ne 23) 23 27 7 := ⟨by decide +kernel, by decide, rfl⟩
theorem d_Ty_isThere_7 : dc b_Ty_isThere 7 (.iload_n 1) 1 8 := ⟨by decide +kernel, rfl⟩
theorem d_Ty_isThere_8 : dc b_Ty_isThere 8 (.bipush 47) 2 10 := ⟨by decide +kernel, rfl⟩
theorem d_Ty_isThere_10 : dc b_Ty_isThere 10 (.invokestatic 34) 3 13 := ⟨by decide +kernel, rfl⟩
theorem d_Ty_isThere_13 : db b_Ty_isThere 13 (.ifCond .eq 18) 18 31 16 := ⟨by decide +kernel, by decide, rfl⟩
theorem d_Ty_isThere_16 : dc b_Ty_isThere 16 (.aload_n 0) 1 17 := ⟨by decide +kernel, rfl⟩
theorem d_Ty_isThere_17 : dc b_Ty_isThere 17 (.getfield 11) 3 20 := ⟨by decide +kernel, rfl⟩
theorem d_Ty_isThere_20 : dc b_Ty_isThere 20 (.iload_n 1) 1 21 := ⟨by decide +kernel, rfl⟩
theorem d_Ty_isThere_21 : dc b_Ty_isThere 21 (.laload) 1 22 := ⟨by decide +kernel, rfl⟩
theorem d_Ty_isThere_22 : dc b_Ty_isThere 22 (.lconst 0) 1 23 := ⟨by decide +kernel, rfl⟩
theorem d_Ty_isThere_23 : dc b_Ty_isThere 23 (.lcmp) 1 24 := ⟨by decide +kernel, rfl⟩
theorem d_Ty_isThere_24 : db b_Ty_isThere 24 (.ifCond .eq 7) 7 31 27 := ⟨by decide +kernel, by decide, rfl⟩
theorem d_Ty_isThere_27 : dc b_Ty_isThere 27 (.iconst 1) 1 28 := ⟨by decide +kernel, rfl⟩
theorem d_Ty_isThere_28 : db b_Ty_isThere 28 (.goto 4) 4 32 31 := ⟨by decide +kernel, by decide, rfl⟩
theorem d_Ty_isThere_31 : dc b_Ty_isThere 31 (.iconst 0) 1 32 := ⟨by decide +kernel, rfl⟩
theorem d_Ty_isThere_32 : dc b_Ty_isThere 32 (.ireturn) 1 33 := ⟨by decide +kernel, rfl⟩
def f_Ty_isThere_J27 (S : gS) (d : gD) (o : Nat) : Option (Int32) :=
  some 1
set_option maxRecDepth 100000 in
set_option maxHeartbeats 4000000 in
theorem w_Ty_isThere_J27 {X : GX} (hE : gE X b_Ty_isThere 2 "StandInMill$Types" (some (.boolean)) "isThere" 1 21) {S : gS} {d : gD} {o : Nat} {r : Int32} :
    ∀ (_ : Unit), f_Ty_isThere_J27 S d o = some r → gw X 0 0 (gQ X (some (.int r)) S d 0 0) S d 27 [some (va_rf (some o)), none] [] := by
  intro _ h
  unfold f_Ty_isThere_J27 at h
  refine g_iconst hE d_Ty_isThere_27 ki_1 ?_
  refine g_goto hE d_Ty_isThere_28 ?_
  cases h
  exact g_zret hE (Or.inr rfl) d_Ty_isThere_32 rfl rfl
set_option maxRecDepth 100000 in
def f_Ty_isThere (S : gS) (d : gD) (o : Nat) (v1 : Int32) : Option (Int32) :=
  bd (f_M_isPlain S d v1) fun x1 =>
  if x1 = 0 then (
    bd (f_M_isWithin S d v1 47) fun x3 =>
    if x3 = 0 then (
      some 0)
    else (
      kd S o 8 <|
      lt_ (sP S o 0) fun x6 =>
      nn x6 fun a7 =>
      kd S a7 51 <|
      gi v1 (sN S a7) <|
      lt_ (dL d a7 v1.toNatClampNeg) fun x10 =>
      if (lg_cmp x10 0) = 0 then (
        some 0)
      else (
        f_Ty_isThere_J27 S d o)))
  else (
    f_Ty_isThere_J27 S d o)
set_option maxRecDepth 100000 in
set_option maxHeartbeats 4000000 in
theorem c_Ty_isThere (l : Launch) (G : gG) {S : gS} {d : gD} {o : Nat} {v1 : Int32} {r : Int32} (h : f_Ty_isThere S d o v1 = some r) : GM l G y_Ty_isThere b_Ty_isThere 2 (some (.boolean)) 1 21 0 0 [.inr (.inr (some o)), .inl v1] S d (some (.int r)) S d := by
  refine GM.of (by decide) (Nat.le_of_ble_eq_true rfl) ?_
  intro X hl0 hG0 hR0 hE0
  have hE : gE X b_Ty_isThere 2 "StandInMill$Types" (some (.boolean)) "isThere" 1 21 := hE0
  unfold f_Ty_isThere at h
  refine gw.less (lv' := [some (va_rf (some o)), some (.int v1)]) (And.intro rfl (And.intro rfl trivial)) ?_
  refine g_iload_n (i := 1) hE d_Ty_isThere_0 rfl rfl ?_
  obtain ⟨x1, e2, h⟩ := bd_s h
  refine g_callSN (av := [.inl v1]) (stk := [.int x1]) [] hE (c_M_isPlain (xl X) (xG X) e2) ky_M_isPlain ⟨Nat.le_of_ble_eq_true rfl, Nat.le_of_ble_eq_true rfl⟩ nm_2 m_130 rfl d_Ty_isThere_1 rfl rfl ct_0 (Nat.zero_le _) (Nat.zero_le _) ?_
  refine gw.cs (c2 := 0) (s2 := 0) rfl rfl ?_
  refine g_if_ne hE d_Ty_isThere_4 (fun c13 => ?_) (fun c13 => ?_)
  · replace h := if_f c13 h
    exact gw.less (lv' := [some (va_rf (some o)), none]) (And.intro rfl trivial) (w_Ty_isThere_J27 hE () h)
  · replace h := if_t c13 h
    refine g_iload_n (i := 1) hE d_Ty_isThere_7 rfl rfl ?_
    refine g_bipush hE d_Ty_isThere_8 kb_47 ?_
    obtain ⟨x3, e4, h⟩ := bd_s h
    refine g_callSN (av := [.inl v1, .inl 47]) (stk := [.int x3]) [] hE (c_M_isWithin (xl X) (xG X) e4) ky_M_isWithin ⟨Nat.le_of_ble_eq_true rfl, Nat.le_of_ble_eq_true rfl⟩ nm_1 m_74 rfl d_Ty_isThere_10 rfl rfl ct_0 (Nat.zero_le _) (Nat.zero_le _) ?_
    refine gw.cs (c2 := 0) (s2 := 0) rfl rfl ?_
    refine g_if_eq hE d_Ty_isThere_13 (fun c12 => ?_) (fun c12 => ?_)
    · replace h := if_t c12 h
      refine g_iconst hE d_Ty_isThere_31 ki_0 ?_
      cases h
      exact g_zret hE (Or.inl rfl) d_Ty_isThere_32 rfl rfl
    · replace h := if_f c12 h
      refine g_aload_n (i := 0) hE d_Ty_isThere_16 rfl rfl ?_
      obtain ⟨k5, h⟩ := kd_s h
      refine g_getR 0 hE kc_Ty k5 (Nat.le_of_ble_eq_true rfl) rfl m_4 d_Ty_isThere_17 (fun x6 e => ?_)
      replace h := lt_i e h; clear e
      refine g_iload_n (i := 1) hE d_Ty_isThere_20 rfl rfl ?_
      obtain ⟨a7, rfl, h⟩ := nn_s h
      obtain ⟨k8, h⟩ := kd_s h
      obtain ⟨g9, h⟩ := gi_s h
      refine g_lald hE k8 g9 d_Ty_isThere_21 (fun x10 e => ?_)
      replace h := lt_i e h; clear e
      refine g_lconst (v := 0) hE d_Ty_isThere_22 rfl ?_
      refine g_lcmp hE d_Ty_isThere_23 ?_
      refine g_if_eq hE d_Ty_isThere_24 (fun c11 => ?_) (fun c11 => ?_)
      · replace h := if_t c11 h
        refine g_iconst hE d_Ty_isThere_31 ki_0 ?_
        cases h
        exact g_zret hE (Or.inl rfl) d_Ty_isThere_32 rfl rfl
      · replace h := if_f c11 h
        exact gw.less (lv' := [some (va_rf (some o)), none]) (And.intro rfl trivial) (w_Ty_isThere_J27 hE () h)
theorem d_M_isResult_0 : dc b_M_isResult 0 (.iload_n 1) 1 1 := ⟨by decide +kernel, rfl⟩
theorem d_M_isResult_1 : db b_M_isResult 1 (.ifCond .eq 14) 14 15 4 := ⟨by decide +kernel, by decide, rfl⟩
theorem d_M_isResult_4 : dc b_M_isResult 4 (.aload_n 0) 1 5 := ⟨by decide +kernel, rfl⟩
theorem d_M_isResult_5 : dc b_M_isResult 5 (.getfield 10) 3 8 := ⟨by decide +kernel, rfl⟩
theorem d_M_isResult_8 : dc b_M_isResult 8 (.iload_n 1) 1 9 := ⟨by decide +kernel, rfl⟩
theorem d_M_isResult_9 : dc b_M_isResult 9 (.invokevirtual 305) 3 12 := ⟨by decide +kernel, rfl⟩
theorem d_M_isResult_12 : db b_M_isResult 12 (.ifCond .eq 7) 7 19 15 := ⟨by decide +kernel, by decide, rfl⟩
theorem d_M_isResult_15 : dc b_M_isResult 15 (.iconst 1) 1 16 := ⟨by decide +kernel, rfl⟩
theorem d_M_isResult_16 : db b_M_isResult 16 (.goto 4) 4 20 19 := ⟨by decide +kernel, by decide, rfl⟩
theorem d_M_isResult_19 : dc b_M_isResult 19 (.iconst 0) 1 20 := ⟨by decide +kernel, rfl⟩
theorem d_M_isResult_20 : dc b_M_isResult 20 (.ireturn) 1 21 := ⟨by decide +kernel, rfl⟩
def f_M_isResult_J15 (S : gS) (d : gD) (o : Nat) : Option (Int32) :=
  some 1
set_option maxRecDepth 100000 in
set_option maxHeartbeats 4000000 in
theorem w_M_isResult_J15 {X : GX} (hE : gE X b_M_isResult 2 "StandInMill" (some (.boolean)) "isResult" 2 42) {S : gS} {d : gD} {o : Nat} {r : Int32} :
    ∀ (_ : Unit), f_M_isResult_J15 S d o = some r → gw X 0 0 (gQ X (some (.int r)) S d 0 0) S d 15 [some (va_rf (some o)), none] [] := by
  intro _ h
  unfold f_M_isResult_J15 at h
  refine g_iconst hE d_M_isResult_15 ki_1 ?_
  refine g_goto hE d_M_isResult_16 ?_
  cases h
  exact g_zret hE (Or.inr rfl) d_M_isResult_20 rfl rfl
set_option maxRecDepth 100000 in
def f_M_isResult (S : gS) (d : gD) (o : Nat) (v1 : Int32) : Option (Int32) :=
  if v1 = 0 then (
    f_M_isResult_J15 S d o)
  else (
    kd S o 1 <|
    lt_ (sP S o 0) fun x2 =>
    nn x2 fun a3 =>
    kd S a3 8 <|
    bd (f_Ty_isThere S d a3 v1) fun x5 =>
    if x5 = 0 then (
      some 0)
    else (
      f_M_isResult_J15 S d o))
set_option maxRecDepth 100000 in
set_option maxHeartbeats 4000000 in
theorem c_M_isResult (l : Launch) (G : gG) {S : gS} {d : gD} {o : Nat} {v1 : Int32} {r : Int32} (h : f_M_isResult S d o v1 = some r) : GM l G y_M_isResult b_M_isResult 2 (some (.boolean)) 2 42 0 0 [.inr (.inr (some o)), .inl v1] S d (some (.int r)) S d := by
  refine GM.of (by decide) (Nat.le_of_ble_eq_true rfl) ?_
  intro X hl0 hG0 hR0 hE0
  have hE : gE X b_M_isResult 2 "StandInMill" (some (.boolean)) "isResult" 2 42 := hE0
  unfold f_M_isResult at h
  refine gw.less (lv' := [some (va_rf (some o)), some (.int v1)]) (And.intro rfl (And.intro rfl trivial)) ?_
  refine g_iload_n (i := 1) hE d_M_isResult_0 rfl rfl ?_
  refine g_if_eq hE d_M_isResult_1 (fun c8 => ?_) (fun c8 => ?_)
  · replace h := if_t c8 h
    exact gw.less (lv' := [some (va_rf (some o)), none]) (And.intro rfl trivial) (w_M_isResult_J15 hE () h)
  · replace h := if_f c8 h
    refine g_aload_n (i := 0) hE d_M_isResult_4 rfl rfl ?_
    obtain ⟨k1, h⟩ := kd_s h
    refine g_getR 0 hE kc_M k1 (Nat.le_of_ble_eq_true rfl) rfl m_41 d_M_isResult_5 (fun x2 e => ?_)
    replace h := lt_i e h; clear e
    refine g_iload_n (i := 1) hE d_M_isResult_8 rfl rfl ?_
    obtain ⟨a3, rfl, h⟩ := nn_s h
    obtain ⟨k4, h⟩ := kd_s h
    obtain ⟨x5, e6, h⟩ := bd_s h
    refine g_callV (av := [.inr (.inr (some a3)), .inl v1]) (as := [.inl v1]) (stk := [.int x5]) [] hE (c_Ty_isThere (xl X) (xG X) e6) ky_Ty_isThere ⟨Nat.le_of_ble_eq_true rfl, Nat.le_of_ble_eq_true rfl⟩ rfl kc_Ty k4 m_131 m_132 m_133 rfl d_M_isResult_9 rfl rfl ct_0 (Nat.zero_le _) (Nat.zero_le _) ?_
    refine gw.cs (c2 := 0) (s2 := 0) rfl rfl ?_
    refine g_if_eq hE d_M_isResult_12 (fun c7 => ?_) (fun c7 => ?_)
    · replace h := if_t c7 h
      refine g_iconst hE d_M_isResult_19 ki_0 ?_
      cases h
      exact g_zret hE (Or.inl rfl) d_M_isResult_20 rfl rfl
    · replace h := if_f c7 h
      exact gw.less (lv' := [some (va_rf (some o)), none]) (And.intro rfl trivial) (w_M_isResult_J15 hE () h)
theorem d_M_lengthOf_0 : dc b_M_lengthOf 0 (.iconst 0) 1 1 := ⟨by decide +kernel, rfl⟩
theorem d_M_lengthOf_1 : dc b_M_lengthOf 1 (.istore_n 1) 1 2 := ⟨by decide +kernel, rfl⟩
theorem d_M_lengthOf_2 : dc b_M_lengthOf 2 (.iload_n 1) 1 3 := ⟨by decide +kernel, rfl⟩
theorem d_M_lengthOf_3 : dc b_M_lengthOf 3 (.iconst 4) 1 4 := ⟨by decide +kernel, rfl⟩
theorem d_M_lengthOf_4 : db b_M_lengthOf 4 (.if_icmp .ge 17) 17 21 7 := ⟨by decide +kernel, by decide, rfl⟩
theorem d_M_lengthOf_7 : dc b_M_lengthOf 7 (.iload_n 0) 1 8 := ⟨by decide +kernel, rfl⟩
theorem d_M_lengthOf_8 : dc b_M_lengthOf 8 (.iload_n 1) 1 9 := ⟨by decide +kernel, rfl⟩
theorem d_M_lengthOf_9 : dc b_M_lengthOf 9 (.invokestatic 274) 3 12 := ⟨by decide +kernel, rfl⟩
theorem d_M_lengthOf_12 : db b_M_lengthOf 12 (.ifCond .eq 9) 9 21 15 := ⟨by decide +kernel, by decide, rfl⟩
theorem d_M_lengthOf_15 : dc b_M_lengthOf 15 (.iinc 1 1) 3 18 := ⟨by decide +kernel, rfl⟩
theorem d_M_lengthOf_18 : db b_M_lengthOf 18 (.goto (-16)) (-16) 2 21 := ⟨by decide +kernel, by decide, rfl⟩
theorem d_M_lengthOf_21 : dc b_M_lengthOf 21 (.iload_n 1) 1 22 := ⟨by decide +kernel, rfl⟩
theorem d_M_lengthOf_22 : dc b_M_lengthOf 22 (.ireturn) 1 23 := ⟨by decide +kernel, rfl⟩
def f_M_lengthOf_B2 (S : gS) (d : gD) (kb : Int32 → Int32 → Option (Int32)) (v0 : Int32) (v1 : Int32) : Option (Int32) :=
  if 4 ≤ v1 then (
    some v1)
  else (
    bd (f_M_byteOf S d v0 v1) fun x1 =>
    if x1 = 0 then (
      some v1)
    else (
      kb v0 (v1 + 1)))
set_option maxRecDepth 100000 in
set_option maxHeartbeats 4000000 in
theorem w_M_lengthOf_B2 {X : GX} (hE : gE X b_M_lengthOf 2 "StandInMill" (some (.int)) "lengthOf" 1 21) {S : gS} {d : gD} {r : Int32} {kb : Int32 → Int32 → Option (Int32)} (hkb : ∀ (v0 : Int32) (v1 : Int32), kb v0 v1 = some r → gw X 0 0 (gQ X (some (.int r)) S d 0 0) S d 2 [some (.int v0), some (.int v1)] []) :
    ∀ (v0 : Int32) (v1 : Int32), f_M_lengthOf_B2 S d kb v0 v1 = some r → gw X 0 0 (gQ X (some (.int r)) S d 0 0) S d 2 [some (.int v0), some (.int v1)] [] := by
  intro v0 v1 h
  unfold f_M_lengthOf_B2 at h
  refine g_iload_n (i := 1) hE d_M_lengthOf_2 rfl rfl ?_
  refine g_iconst hE d_M_lengthOf_3 ki_4 ?_
  refine g_icmp_ge hE d_M_lengthOf_4 (fun c4 => ?_) (fun c4 => ?_)
  · replace h := if_t c4 h
    refine g_iload_n (i := 1) hE d_M_lengthOf_21 rfl rfl ?_
    cases h
    exact g_iret hE d_M_lengthOf_22 rfl rfl
  · replace h := if_f c4 h
    refine g_iload_n (i := 0) hE d_M_lengthOf_7 rfl rfl ?_
    refine g_iload_n (i := 1) hE d_M_lengthOf_8 rfl rfl ?_
    obtain ⟨x1, e2, h⟩ := bd_s h
    refine g_callS (av := [.inl v0, .inl v1]) (stk := [.int x1]) [] hE (c_M_byteOf (xl X) (xG X) e2) ky_M_byteOf ⟨Nat.le_of_ble_eq_true rfl, Nat.le_of_ble_eq_true rfl⟩ m_128 m_129 rfl d_M_lengthOf_9 rfl rfl ct_0 (Nat.zero_le _) (Nat.zero_le _) ?_
    refine gw.cs (c2 := 0) (s2 := 0) rfl rfl ?_
    refine g_if_eq hE d_M_lengthOf_12 (fun c3 => ?_) (fun c3 => ?_)
    · replace h := if_t c3 h
      refine g_iload_n (i := 1) hE d_M_lengthOf_21 rfl rfl ?_
      cases h
      exact g_iret hE d_M_lengthOf_22 rfl rfl
    · replace h := if_f c3 h
      refine g_iinc (i := 1) (lv' := [some (.int v0), some (.int (v1 + 1))]) hE d_M_lengthOf_15 ki_1 rfl (Nat.le_of_ble_eq_true rfl) ⟨rfl, Nat.le_of_ble_eq_true rfl⟩ (lvp_i rfl) ?_
      refine g_goto hE d_M_lengthOf_18 ?_
      exact gw.less (lv' := [some (.int v0), some (.int (v1 + 1))]) (And.intro rfl (And.intro rfl trivial)) (hkb v0 (v1 + 1) h)
theorem w_M_lengthOf_L2 {X : GX} (hE : gE X b_M_lengthOf 2 "StandInMill" (some (.int)) "lengthOf" 1 21) {S : gS} {d : gD} {r : Int32} : ∀ (n : Nat) (v0 : Int32) (v1 : Int32), itr (f_M_lengthOf_B2 S d) (fun _ _ => none) n v0 v1 = some r → gw X 0 0 (gQ X (some (.int r)) S d 0 0) S d 2 [some (.int v0), some (.int v1)] [] := by
  intro n
  induction n with
  | zero => intro v0 v1 h; cases h
  | succ n ih => exact w_M_lengthOf_B2 hE ih
set_option maxRecDepth 100000 in
def f_M_lengthOf (S : gS) (d : gD) (v0 : Int32) : Option (Int32) :=
  itr (f_M_lengthOf_B2 S d) (fun _ _ => none) fu v0 0
set_option maxRecDepth 100000 in
set_option maxHeartbeats 4000000 in
theorem c_M_lengthOf (l : Launch) (G : gG) {S : gS} {d : gD} {v0 : Int32} {r : Int32} (h : f_M_lengthOf S d v0 = some r) : GM l G y_M_lengthOf b_M_lengthOf 2 (some (.int)) 1 21 0 0 [.inl v0] S d (some (.int r)) S d := by
  refine GM.of (by decide) (Nat.le_of_ble_eq_true rfl) ?_
  intro X hl0 hG0 hR0 hE0
  have hE : gE X b_M_lengthOf 2 "StandInMill" (some (.int)) "lengthOf" 1 21 := hE0
  unfold f_M_lengthOf at h
  refine gw.less (lv' := [some (.int v0), none]) (And.intro rfl trivial) ?_
  refine g_iconst hE d_M_lengthOf_0 ki_0 ?_
  refine g_istore_n (i := 1) (lv' := [some (.int v0), some (.int 0)]) hE d_M_lengthOf_1 rfl (Nat.le_of_ble_eq_true rfl) ⟨rfl, Nat.le_of_ble_eq_true rfl⟩ (lvp_i rfl) ?_
  exact gw.less (lv' := [some (.int v0), some (.int 0)]) (And.intro rfl (And.intro rfl trivial)) (w_M_lengthOf_L2 hE fu v0 0 h)
theorem d_M_areParameters_0 : dc b_M_areParameters 0 (.iconst 0) 1 1 := ⟨by decide +kernel, rfl⟩
theorem d_M_areParameters_1 : dc b_M_areParameters 1 (.istore_n 2) 1 2 := ⟨by decide +kernel, rfl⟩
theorem d_M_areParameters_2 : dc b_M_areParameters 2 (.iload_n 2) 1 3 := ⟨by decide +kernel, rfl⟩
theorem d_M_areParameters_3 : dc b_M_areParameters 3 (.iload_n 1) 1 4 := ⟨by decide +kernel, rfl⟩
theorem d_M_areParameters_4 : dc b_M_areParameters 4 (.invokestatic 308) 3 7 := ⟨by decide +kernel, rfl⟩
theorem d_M_areParameters_7 : db b_M_areParameters 7 (.if_icmp .ge 26) 26 33 10 := ⟨by decide +kernel, by decide, rfl⟩
theorem d_M_areParameters_10 : dc b_M_areParameters 10 (.aload_n 0) 1 11 := ⟨by decide +kernel, rfl⟩
theorem d_M_areParameters_11 : dc b_M_areParameters 11 (.getfield 10) 3 14 := ⟨by decide +kernel, rfl⟩
theorem d_M_areParameters_14 : dc b_M_areParameters 14 (.iload_n 1) 1 15 := ⟨by decide +kernel, rfl⟩
theorem d_M_areParameters_15 : dc b_M_areParameters 15 (.iload_n 2) 1 16 := ⟨by decide +kernel, rfl⟩
theorem d_M_areParameters_16 : dc b_M_areParameters 16 (.invokestatic 274) 3 19 := ⟨by decide +kernel, rfl⟩
theorem d_M_areParameters_19 : dc b_M_areParameters 19 (.invokevirtual 305) 3 22 := ⟨by decide +kernel, rfl⟩
theorem d_M_areParameters_22 : db b_M_areParameters 22 (.ifCond .ne 5) 5 27 25 := ⟨by decide +kernel, by decide, rfl⟩
theorem d_M_areParameters_25 : dc b_M_areParameters 25 (.iconst 0) 1 26 := ⟨by decide +kernel, rfl⟩
theorem d_M_areParameters_26 : dc b_M_areParameters 26 (.ireturn) 1 27 := ⟨by decide +kernel, rfl⟩
theorem d_M_areParameters_27 : dc b_M_areParameters 27 (.iinc 2 1) 3 30 := ⟨by decide +kernel, rfl⟩
theorem d_M_areParameters_30 : db b_M_areParameters 30 (.goto (-28)) (-28) 2 33 := ⟨by decide +kernel, by decide, rfl⟩
theorem d_M_areParameters_33 : dc b_M_areParameters 33 (.iconst 1) 1 34 := ⟨by decide +kernel, rfl⟩
theorem d_M_areParameters_34 : dc b_M_areParameters 34 (.ireturn) 1 35 := ⟨by decide +kernel, rfl⟩
def f_M_areParameters_B2 (S : gS) (d : gD) (o : Nat) (kb : Int32 → Int32 → Option (Int32)) (v1 : Int32) (v2 : Int32) : Option (Int32) :=
  bd (f_M_lengthOf S d v1) fun x1 =>
  if x1 ≤ v2 then (
    some 1)
  else (
    kd S o 1 <|
    lt_ (sP S o 0) fun x4 =>
    bd (f_M_byteOf S d v1 v2) fun x5 =>
    nn x4 fun a7 =>
    kd S a7 8 <|
    bd (f_Ty_isThere S d a7 x5) fun x9 =>
    if x9 = 0 then (
      some 0)
    else (
      kb v1 (v2 + 1)))
set_option maxRecDepth 100000 in
set_option maxHeartbeats 4000000 in
theorem w_M_areParameters_B2 {X : GX} (hE : gE X b_M_areParameters 3 "StandInMill" (some (.boolean)) "areParameters" 2 42) {S : gS} {d : gD} {o : Nat} {r : Int32} {kb : Int32 → Int32 → Option (Int32)} (hkb : ∀ (v1 : Int32) (v2 : Int32), kb v1 v2 = some r → gw X 0 0 (gQ X (some (.int r)) S d 0 0) S d 2 [some (va_rf (some o)), some (.int v1), some (.int v2)] []) :
    ∀ (v1 : Int32) (v2 : Int32), f_M_areParameters_B2 S d o kb v1 v2 = some r → gw X 0 0 (gQ X (some (.int r)) S d 0 0) S d 2 [some (va_rf (some o)), some (.int v1), some (.int v2)] [] := by
  intro v1 v2 h
  unfold f_M_areParameters_B2 at h
  refine g_iload_n (i := 2) hE d_M_areParameters_2 rfl rfl ?_
  refine g_iload_n (i := 1) hE d_M_areParameters_3 rfl rfl ?_
  obtain ⟨x1, e2, h⟩ := bd_s h
  refine g_callS (av := [.inl v1]) (stk := [.int x1, .int v2]) [.int v2] hE (c_M_lengthOf (xl X) (xG X) e2) ky_M_lengthOf ⟨Nat.le_of_ble_eq_true rfl, Nat.le_of_ble_eq_true rfl⟩ m_134 m_135 rfl d_M_areParameters_4 rfl rfl (Nat.le_trans (ct_i ct_n) (Nat.le_of_ble_eq_true rfl)) (Nat.zero_le _) (Nat.zero_le _) ?_
  refine gw.cs (c2 := 0) (s2 := 0) rfl rfl ?_
  refine g_icmp_ge hE d_M_areParameters_7 (fun c12 => ?_) (fun c12 => ?_)
  · replace h := if_t c12 h
    refine g_iconst hE d_M_areParameters_33 ki_1 ?_
    cases h
    exact g_zret hE (Or.inr rfl) d_M_areParameters_34 rfl rfl
  · replace h := if_f c12 h
    refine g_aload_n (i := 0) hE d_M_areParameters_10 rfl rfl ?_
    obtain ⟨k3, h⟩ := kd_s h
    refine g_getR 0 hE kc_M k3 (Nat.le_of_ble_eq_true rfl) rfl m_41 d_M_areParameters_11 (fun x4 e => ?_)
    replace h := lt_i e h; clear e
    refine g_iload_n (i := 1) hE d_M_areParameters_14 rfl rfl ?_
    refine g_iload_n (i := 2) hE d_M_areParameters_15 rfl rfl ?_
    obtain ⟨x5, e6, h⟩ := bd_s h
    refine g_callS (av := [.inl v1, .inl v2]) (stk := [.int x5, va_rf x4]) [va_rf x4] hE (c_M_byteOf (xl X) (xG X) e6) ky_M_byteOf ⟨Nat.le_of_ble_eq_true rfl, Nat.le_of_ble_eq_true rfl⟩ m_128 m_129 rfl d_M_areParameters_16 rfl rfl (Nat.le_trans (ct_r ct_n) (Nat.le_of_ble_eq_true rfl)) (Nat.zero_le _) (Nat.zero_le _) ?_
    refine gw.cs (c2 := 0) (s2 := 0) rfl rfl ?_
    obtain ⟨a7, rfl, h⟩ := nn_s h
    obtain ⟨k8, h⟩ := kd_s h
    obtain ⟨x9, e10, h⟩ := bd_s h
    refine g_callV (av := [.inr (.inr (some a7)), .inl x5]) (as := [.inl x5]) (stk := [.int x9]) [] hE (c_Ty_isThere (xl X) (xG X) e10) ky_Ty_isThere ⟨Nat.le_of_ble_eq_true rfl, Nat.le_of_ble_eq_true rfl⟩ rfl kc_Ty k8 m_131 m_132 m_133 rfl d_M_areParameters_19 rfl rfl ct_0 (Nat.zero_le _) (Nat.zero_le _) ?_
    refine gw.cs (c2 := 0) (s2 := 0) rfl rfl ?_
    refine g_if_ne hE d_M_areParameters_22 (fun c11 => ?_) (fun c11 => ?_)
    · replace h := if_f c11 h
      refine g_iinc (i := 2) (lv' := [some (va_rf (some o)), some (.int v1), some (.int (v2 + 1))]) hE d_M_areParameters_27 ki_1 rfl (Nat.le_of_ble_eq_true rfl) ⟨rfl, Nat.le_of_ble_eq_true rfl⟩ (lvp_i rfl) ?_
      refine g_goto hE d_M_areParameters_30 ?_
      exact gw.less (lv' := [some (va_rf (some o)), some (.int v1), some (.int (v2 + 1))]) (And.intro rfl (And.intro rfl (And.intro rfl trivial))) (hkb v1 (v2 + 1) h)
    · replace h := if_t c11 h
      refine g_iconst hE d_M_areParameters_25 ki_0 ?_
      cases h
      exact g_zret hE (Or.inl rfl) d_M_areParameters_26 rfl rfl
theorem w_M_areParameters_L2 {X : GX} (hE : gE X b_M_areParameters 3 "StandInMill" (some (.boolean)) "areParameters" 2 42) {S : gS} {d : gD} {o : Nat} {r : Int32} : ∀ (n : Nat) (v1 : Int32) (v2 : Int32), itr (f_M_areParameters_B2 S d o) (fun _ _ => none) n v1 v2 = some r → gw X 0 0 (gQ X (some (.int r)) S d 0 0) S d 2 [some (va_rf (some o)), some (.int v1), some (.int v2)] [] := by
  intro n
  induction n with
  | zero => intro v1 v2 h; cases h
  | succ n ih => exact w_M_areParameters_B2 hE ih
set_option maxRecDepth 100000 in
def f_M_areParameters (S : gS) (d : gD) (o : Nat) (v1 : Int32) : Option (Int32) :=
  itr (f_M_areParameters_B2 S d o) (fun _ _ => none) fu v1 0
set_option maxRecDepth 100000 in
set_option maxHeartbeats 4000000 in
theorem c_M_areParameters (l : Launch) (G : gG) {S : gS} {d : gD} {o : Nat} {v1 : Int32} {r : Int32} (h : f_M_areParameters S d o v1 = some r) : GM l G y_M_areParameters b_M_areParameters 3 (some (.boolean)) 2 42 0 0 [.inr (.inr (some o)), .inl v1] S d (some (.int r)) S d := by
  refine GM.of (by decide) (Nat.le_of_ble_eq_true rfl) ?_
  intro X hl0 hG0 hR0 hE0
  have hE : gE X b_M_areParameters 3 "StandInMill" (some (.boolean)) "areParameters" 2 42 := hE0
  unfold f_M_areParameters at h
  refine gw.less (lv' := [some (va_rf (some o)), some (.int v1), none]) (And.intro rfl (And.intro rfl trivial)) ?_
  refine g_iconst hE d_M_areParameters_0 ki_0 ?_
  refine g_istore_n (i := 2) (lv' := [some (va_rf (some o)), some (.int v1), some (.int 0)]) hE d_M_areParameters_1 rfl (Nat.le_of_ble_eq_true rfl) ⟨rfl, Nat.le_of_ble_eq_true rfl⟩ (lvp_i rfl) ?_
  exact gw.less (lv' := [some (va_rf (some o)), some (.int v1), some (.int 0)]) (And.intro rfl (And.intro rfl (And.intro rfl trivial))) (w_M_areParameters_L2 hE fu v1 0 h)
theorem d_Fc_hasOwn_0 : dc b_Fc_hasOwn 0 (.iconst 0) 1 1 := ⟨by decide +kernel, rfl⟩
theorem d_Fc_hasOwn_1 : dc b_Fc_hasOwn 1 (.istore_n 3) 1 2 := ⟨by decide +kernel, rfl⟩
theorem d_Fc_hasOwn_2 : dc b_Fc_hasOwn 2 (.iload_n 3) 1 3 := ⟨by decide +kernel, rfl⟩
theorem d_Fc_hasOwn_3 : dc b_Fc_hasOwn 3 (.aload_n 0) 1 4 := ⟨by decide +kernel, rfl⟩
theorem d_Fc_hasOwn_4 : dc b_Fc_hasOwn 4 (.getfield 41) 3 7 := ⟨by decide +kernel, rfl⟩
theorem d_Fc_hasOwn_7 : db b_Fc_hasOwn 7 (.if_icmp .ge 37) 37 44 10 := ⟨by decide +kernel, by decide, rfl⟩
theorem d_Fc_hasOwn_10 : dc b_Fc_hasOwn 10 (.aload_n 0) 1 11 := ⟨by decide +kernel, rfl⟩
theorem d_Fc_hasOwn_11 : dc b_Fc_hasOwn 11 (.getfield 17) 3 14 := ⟨by decide +kernel, rfl⟩
theorem d_Fc_hasOwn_14 : dc b_Fc_hasOwn 14 (.iload_n 3) 1 15 := ⟨by decide +kernel, rfl⟩
theorem d_Fc_hasOwn_15 : dc b_Fc_hasOwn 15 (.aaload) 1 16 := ⟨by decide +kernel, rfl⟩
theorem d_Fc_hasOwn_16 : dc b_Fc_hasOwn 16 (.getfield 44) 3 19 := ⟨by decide +kernel, rfl⟩
theorem d_Fc_hasOwn_19 : dc b_Fc_hasOwn 19 (.iload_n 1) 1 20 := ⟨by decide +kernel, rfl⟩
theorem d_Fc_hasOwn_20 : db b_Fc_hasOwn 20 (.if_icmp .ne 18) 18 38 23 := ⟨by decide +kernel, by decide, rfl⟩
theorem d_Fc_hasOwn_23 : dc b_Fc_hasOwn 23 (.aload_n 0) 1 24 := ⟨by decide +kernel, rfl⟩
theorem d_Fc_hasOwn_24 : dc b_Fc_hasOwn 24 (.getfield 17) 3 27 := ⟨by decide +kernel, rfl⟩
theorem d_Fc_hasOwn_27 : dc b_Fc_hasOwn 27 (.iload_n 3) 1 28 := ⟨by decide +kernel, rfl⟩
theorem d_Fc_hasOwn_28 : dc b_Fc_hasOwn 28 (.aaload) 1 29 := ⟨by decide +kernel, rfl⟩
theorem d_Fc_hasOwn_29 : dc b_Fc_hasOwn 29 (.getfield 45) 3 32 := ⟨by decide +kernel, rfl⟩
theorem d_Fc_hasOwn_32 : dc b_Fc_hasOwn 32 (.iload_n 2) 1 33 := ⟨by decide +kernel, rfl⟩
theorem d_Fc_hasOwn_33 : db b_Fc_hasOwn 33 (.if_icmp .ne 5) 5 38 36 := ⟨by decide +kernel, by decide, rfl⟩
theorem d_Fc_hasOwn_36 : dc b_Fc_hasOwn 36 (.iconst 1) 1 37 := ⟨by decide +kernel, rfl⟩
theorem d_Fc_hasOwn_37 : dc b_Fc_hasOwn 37 (.ireturn) 1 38 := ⟨by decide +kernel, rfl⟩
theorem d_Fc_hasOwn_38 : dc b_Fc_hasOwn 38 (.iinc 3 1) 3 41 := ⟨by decide +kernel, rfl⟩
theorem d_Fc_hasOwn_41 : db b_Fc_hasOwn 41 (.goto (-39)) (-39) 2 44 := ⟨by decide +kernel, by decide, rfl⟩
theorem d_Fc_hasOwn_44 : dc b_Fc_hasOwn 44 (.iconst 0) 1 45 := ⟨by decide +kernel, rfl⟩
theorem d_Fc_hasOwn_45 : dc b_Fc_hasOwn 45 (.ireturn) 1 46 := ⟨by decide +kernel, rfl⟩
def f_Fc_hasOwn_J38 (S : gS) (d : gD) (o : Nat) (kb : Int32 → Int32 → Int32 → Option (Int32)) (v1 : Int32) (v2 : Int32) (v3 : Int32) : Option (Int32) :=
  kb v1 v2 (v3 + 1)
set_option maxRecDepth 100000 in
set_option maxHeartbeats 4000000 in
theorem w_Fc_hasOwn_J38 {X : GX} (hE : gE X b_Fc_hasOwn 4 "StandInMill$Face" (some (.boolean)) "hasOwn" 0 0) {S : gS} {d : gD} {o : Nat} {r : Int32} {kb : Int32 → Int32 → Int32 → Option (Int32)} (hkb : ∀ (v1 : Int32) (v2 : Int32) (v3 : Int32), kb v1 v2 v3 = some r → gw X 0 0 (gQ X (some (.int r)) S d 0 0) S d 2 [some (va_rf (some o)), some (.int v1), some (.int v2), some (.int v3)] []) :
    ∀ (v1 : Int32) (v2 : Int32) (v3 : Int32), f_Fc_hasOwn_J38 S d o kb v1 v2 v3 = some r → gw X 0 0 (gQ X (some (.int r)) S d 0 0) S d 38 [some (va_rf (some o)), some (.int v1), some (.int v2), some (.int v3)] [] := by
  intro v1 v2 v3 h
  unfold f_Fc_hasOwn_J38 at h
  refine g_iinc (i := 3) (lv' := [some (va_rf (some o)), some (.int v1), some (.int v2), some (.int (v3 + 1))]) hE d_Fc_hasOwn_38 ki_1 rfl (Nat.le_of_ble_eq_true rfl) ⟨rfl, Nat.le_of_ble_eq_true rfl⟩ (lvp_i rfl) ?_
  refine g_goto hE d_Fc_hasOwn_41 ?_
  exact gw.less (lv' := [some (va_rf (some o)), some (.int v1), some (.int v2), some (.int (v3 + 1))]) (And.intro rfl (And.intro rfl (And.intro rfl (And.intro rfl trivial)))) (hkb v1 v2 (v3 + 1) h)
def f_Fc_hasOwn_B2 (S : gS) (d : gD) (o : Nat) (kb : Int32 → Int32 → Int32 → Option (Int32)) (v1 : Int32) (v2 : Int32) (v3 : Int32) : Option (Int32) :=
  kd S o 4 <|
  lt_ (dI d o 7) fun x2 =>
  if x2 ≤ v3 then (
    some 0)
  else (
    lt_ (sP S o 6) fun x3 =>
    nn x3 fun a4 =>
    kd S a4 61 <|
    gi v3 (sN S a4) <|
    lt_ (sP S a4 v3.toNatClampNeg) fun x7 =>
    nn x7 fun a8 =>
    kd S a8 5 <|
    lt_ (dI d a8 2) fun x10 =>
    if x10 = v1 then (
      lt_ (sP S o 6) fun x11 =>
      nn x11 fun a12 =>
      kd S a12 61 <|
      gi v3 (sN S a12) <|
      lt_ (sP S a12 v3.toNatClampNeg) fun x15 =>
      nn x15 fun a16 =>
      kd S a16 5 <|
      lt_ (dI d a16 3) fun x18 =>
      if x18 = v2 then (
        some 1)
      else (
        f_Fc_hasOwn_J38 S d o kb v1 v2 v3))
    else (
      f_Fc_hasOwn_J38 S d o kb v1 v2 v3))
set_option maxRecDepth 100000 in
set_option maxHeartbeats 4000000 in
theorem w_Fc_hasOwn_B2 {X : GX} (hE : gE X b_Fc_hasOwn 4 "StandInMill$Face" (some (.boolean)) "hasOwn" 0 0) {S : gS} {d : gD} {o : Nat} {r : Int32} {kb : Int32 → Int32 → Int32 → Option (Int32)} (hkb : ∀ (v1 : Int32) (v2 : Int32) (v3 : Int32), kb v1 v2 v3 = some r → gw X 0 0 (gQ X (some (.int r)) S d 0 0) S d 2 [some (va_rf (some o)), some (.int v1), some (.int v2), some (.int v3)] []) :
    ∀ (v1 : Int32) (v2 : Int32) (v3 : Int32), f_Fc_hasOwn_B2 S d o kb v1 v2 v3 = some r → gw X 0 0 (gQ X (some (.int r)) S d 0 0) S d 2 [some (va_rf (some o)), some (.int v1), some (.int v2), some (.int v3)] [] := by
  intro v1 v2 v3 h
  unfold f_Fc_hasOwn_B2 at h
  refine g_iload_n (i := 3) hE d_Fc_hasOwn_2 rfl rfl ?_
  refine g_aload_n (i := 0) hE d_Fc_hasOwn_3 rfl rfl ?_
  obtain ⟨k1, h⟩ := kd_s h
  refine g_getI 7 hE kc_Fc k1 (Nat.le_of_ble_eq_true rfl) rfl m_136 d_Fc_hasOwn_4 (fun x2 e => ?_)
  replace h := lt_i e h; clear e
  refine g_icmp_ge hE d_Fc_hasOwn_7 (fun c21 => ?_) (fun c21 => ?_)
  · replace h := if_t c21 h
    refine g_iconst hE d_Fc_hasOwn_44 ki_0 ?_
    cases h
    exact g_zret hE (Or.inl rfl) d_Fc_hasOwn_45 rfl rfl
  · replace h := if_f c21 h
    refine g_aload_n (i := 0) hE d_Fc_hasOwn_10 rfl rfl ?_
    refine g_getR 6 hE kc_Fc k1 (Nat.le_of_ble_eq_true rfl) rfl m_91 d_Fc_hasOwn_11 (fun x3 e => ?_)
    replace h := lt_i e h; clear e
    refine g_iload_n (i := 3) hE d_Fc_hasOwn_14 rfl rfl ?_
    obtain ⟨a4, rfl, h⟩ := nn_s h
    obtain ⟨k5, h⟩ := kd_s h
    obtain ⟨g6, h⟩ := gi_s h
    refine g_aald hE k5 (by decide) rfl (fun _ => rfl) g6 d_Fc_hasOwn_15 (fun x7 e => ?_)
    replace h := lt_i e h; clear e
    obtain ⟨a8, rfl, h⟩ := nn_s h
    obtain ⟨k9, h⟩ := kd_s h
    refine g_getIN 2 hE kc_Om k9 (Nat.le_of_ble_eq_true rfl) rfl nf_4 d_Fc_hasOwn_16 (fun x10 e => ?_)
    replace h := lt_i e h; clear e
    refine g_iload_n (i := 1) hE d_Fc_hasOwn_19 rfl rfl ?_
    refine g_icmp_ne hE d_Fc_hasOwn_20 (fun c20 => ?_) (fun c20 => ?_)
    · replace h := if_f c20 h
      exact gw.less (lv' := [some (va_rf (some o)), some (.int v1), some (.int v2), some (.int v3)]) (And.intro rfl (And.intro rfl (And.intro rfl (And.intro rfl trivial)))) (w_Fc_hasOwn_J38 hE hkb v1 v2 v3 h)
    · replace h := if_t c20 h
      refine g_aload_n (i := 0) hE d_Fc_hasOwn_23 rfl rfl ?_
      refine g_getR 6 hE kc_Fc k1 (Nat.le_of_ble_eq_true rfl) rfl m_91 d_Fc_hasOwn_24 (fun x11 e => ?_)
      replace h := lt_i e h; clear e
      refine g_iload_n (i := 3) hE d_Fc_hasOwn_27 rfl rfl ?_
      obtain ⟨a12, rfl, h⟩ := nn_s h
      obtain ⟨k13, h⟩ := kd_s h
      obtain ⟨g14, h⟩ := gi_s h
      refine g_aald hE k13 (by decide) rfl (fun _ => rfl) g14 d_Fc_hasOwn_28 (fun x15 e => ?_)
      replace h := lt_i e h; clear e
      obtain ⟨a16, rfl, h⟩ := nn_s h
      obtain ⟨k17, h⟩ := kd_s h
      refine g_getIN 3 hE kc_Om k17 (Nat.le_of_ble_eq_true rfl) rfl nf_5 d_Fc_hasOwn_29 (fun x18 e => ?_)
      replace h := lt_i e h; clear e
      refine g_iload_n (i := 2) hE d_Fc_hasOwn_32 rfl rfl ?_
      refine g_icmp_ne hE d_Fc_hasOwn_33 (fun c19 => ?_) (fun c19 => ?_)
      · replace h := if_f c19 h
        exact gw.less (lv' := [some (va_rf (some o)), some (.int v1), some (.int v2), some (.int v3)]) (And.intro rfl (And.intro rfl (And.intro rfl (And.intro rfl trivial)))) (w_Fc_hasOwn_J38 hE hkb v1 v2 v3 h)
      · replace h := if_t c19 h
        refine g_iconst hE d_Fc_hasOwn_36 ki_1 ?_
        cases h
        exact g_zret hE (Or.inr rfl) d_Fc_hasOwn_37 rfl rfl
theorem w_Fc_hasOwn_L2 {X : GX} (hE : gE X b_Fc_hasOwn 4 "StandInMill$Face" (some (.boolean)) "hasOwn" 0 0) {S : gS} {d : gD} {o : Nat} {r : Int32} : ∀ (n : Nat) (v1 : Int32) (v2 : Int32) (v3 : Int32), itr (f_Fc_hasOwn_B2 S d o) (fun _ _ _ => none) n v1 v2 v3 = some r → gw X 0 0 (gQ X (some (.int r)) S d 0 0) S d 2 [some (va_rf (some o)), some (.int v1), some (.int v2), some (.int v3)] [] := by
  intro n
  induction n with
  | zero => intro v1 v2 v3 h; cases h
  | succ n ih => exact w_Fc_hasOwn_B2 hE ih
set_option maxRecDepth 100000 in
def f_Fc_hasOwn (S : gS) (d : gD) (o : Nat) (v1 : Int32) (v2 : Int32) : Option (Int32) :=
  itr (f_Fc_hasOwn_B2 S d o) (fun _ _ _ => none) fu v1 v2 0
set_option maxRecDepth 100000 in
set_option maxHeartbeats 4000000 in
theorem c_Fc_hasOwn (l : Launch) (G : gG) {S : gS} {d : gD} {o : Nat} {v1 : Int32} {v2 : Int32} {r : Int32} (h : f_Fc_hasOwn S d o v1 v2 = some r) : GM l G y_Fc_hasOwn b_Fc_hasOwn 4 (some (.boolean)) 0 0 0 0 [.inr (.inr (some o)), .inl v1, .inl v2] S d (some (.int r)) S d := by
  refine GM.of (by decide) (Nat.le_of_ble_eq_true rfl) ?_
  intro X hl0 hG0 hR0 hE0
  have hE : gE X b_Fc_hasOwn 4 "StandInMill$Face" (some (.boolean)) "hasOwn" 0 0 := hE0
  unfold f_Fc_hasOwn at h
  refine gw.less (lv' := [some (va_rf (some o)), some (.int v1), some (.int v2), none]) (And.intro rfl (And.intro rfl (And.intro rfl trivial))) ?_
  refine g_iconst hE d_Fc_hasOwn_0 ki_0 ?_
  refine g_istore_n (i := 3) (lv' := [some (va_rf (some o)), some (.int v1), some (.int v2), some (.int 0)]) hE d_Fc_hasOwn_1 rfl (Nat.le_of_ble_eq_true rfl) ⟨rfl, Nat.le_of_ble_eq_true rfl⟩ (lvp_i rfl) ?_
  exact gw.less (lv' := [some (va_rf (some o)), some (.int v1), some (.int v2), some (.int 0)]) (And.intro rfl (And.intro rfl (And.intro rfl (And.intro rfl trivial)))) (w_Fc_hasOwn_L2 hE fu v1 v2 0 h)
theorem d_Fc_addOwn_0 : dc b_Fc_addOwn 0 (.aload_n 0) 1 1 := ⟨by decide +kernel, rfl⟩
theorem d_Fc_addOwn_1 : dc b_Fc_addOwn 1 (.getfield 41) 3 4 := ⟨by decide +kernel, rfl⟩
theorem d_Fc_addOwn_4 : dc b_Fc_addOwn 4 (.aload_n 0) 1 5 := ⟨by decide +kernel, rfl⟩
theorem d_Fc_addOwn_5 : dc b_Fc_addOwn 5 (.getfield 17) 3 8 := ⟨by decide +kernel, rfl⟩
theorem d_Fc_addOwn_8 : dc b_Fc_addOwn 8 (.arraylength) 1 9 := ⟨by decide +kernel, rfl⟩
theorem d_Fc_addOwn_9 : db b_Fc_addOwn 9 (.if_icmp .ge 23) 23 32 12 := ⟨by decide +kernel, by decide, rfl⟩
theorem d_Fc_addOwn_12 : dc b_Fc_addOwn 12 (.aload_n 0) 1 13 := ⟨by decide +kernel, rfl⟩
theorem d_Fc_addOwn_13 : dc b_Fc_addOwn 13 (.getfield 17) 3 16 := ⟨by decide +kernel, rfl⟩
theorem d_Fc_addOwn_16 : dc b_Fc_addOwn 16 (.aload_n 0) 1 17 := ⟨by decide +kernel, rfl⟩
theorem d_Fc_addOwn_17 : dc b_Fc_addOwn 17 (.getfield 41) 3 20 := ⟨by decide +kernel, rfl⟩
theorem d_Fc_addOwn_20 : dc b_Fc_addOwn 20 (.aload_n 1) 1 21 := ⟨by decide +kernel, rfl⟩
theorem d_Fc_addOwn_21 : dc b_Fc_addOwn 21 (.aastore) 1 22 := ⟨by decide +kernel, rfl⟩
theorem d_Fc_addOwn_22 : dc b_Fc_addOwn 22 (.aload_n 0) 1 23 := ⟨by decide +kernel, rfl⟩
theorem d_Fc_addOwn_23 : dc b_Fc_addOwn 23 (.dup) 1 24 := ⟨by decide +kernel, rfl⟩
theorem d_Fc_addOwn_24 : dc b_Fc_addOwn 24 (.getfield 41) 3 27 := ⟨by decide +kernel, rfl⟩
theorem d_Fc_addOwn_27 : dc b_Fc_addOwn 27 (.iconst 1) 1 28 := ⟨by decide +kernel, rfl⟩
theorem d_Fc_addOwn_28 : dc b_Fc_addOwn 28 (.iadd) 1 29 := ⟨by decide +kernel, rfl⟩
theorem d_Fc_addOwn_29 : dc b_Fc_addOwn 29 (.putfield 41) 3 32 := ⟨by decide +kernel, rfl⟩
theorem d_Fc_addOwn_32 : dc b_Fc_addOwn 32 (.return_) 1 33 := ⟨by decide +kernel, rfl⟩
set_option maxRecDepth 100000 in
def f_Fc_addOwn (S : gS) (d : gD) (o : Nat) (v1 : Option Nat) : Option (Unit × gS × gD) :=
  kd S o 4 <|
  lt_ (dI d o 7) fun x2 =>
  lt_ (sP S o 6) fun x3 =>
  nn x3 fun a4 =>
  kd S a4 61 <|
  if (Int32.ofNat (sN S a4)) ≤ x2 then (
    some ((), S, d))
  else (
    lt_ (sP S o 6) fun x6 =>
    lt_ (dI d o 7) fun x7 =>
    nn x6 fun a8 =>
    kd S a8 61 <|
    gi x7 (sN S a8) <|
    nn v1 fun a12 =>
    kd S a12 5 <|
    lt_ (wP S a8 x7.toNatClampNeg (some a12)) fun S11 =>
    lt_ (dI d o 7) fun x14 =>
    lt_ (wI d o 7 (x14 + 1)) fun d15 =>
    some ((), S11, d15))
set_option maxRecDepth 100000 in
set_option maxHeartbeats 4000000 in
theorem c_Fc_addOwn (l : Launch) (G : gG) {S : gS} {d : gD} {o : Nat} {v1 : Option Nat} {r : Unit} {d' : gD} {S' : gS} (h : f_Fc_addOwn S d o v1 = some (r, S', d')) : GM l G y_Fc_addOwn b_Fc_addOwn 2 none 0 0 0 0 [.inr (.inr (some o)), .inr (.inr v1)] S d (none) S' d' := by
  refine GM.of (by decide) (Nat.le_of_ble_eq_true rfl) ?_
  intro X hl0 hG0 hR0 hE0
  have hE : gE X b_Fc_addOwn 2 "StandInMill$Face" none "addOwn" 0 0 := hE0
  unfold f_Fc_addOwn at h
  refine gw.less (lv' := [some (va_rf (some o)), some (va_rf v1)]) (And.intro rfl (And.intro rfl trivial)) ?_
  refine g_aload_n (i := 0) hE d_Fc_addOwn_0 rfl rfl ?_
  obtain ⟨k1, h⟩ := kd_s h
  refine g_getI 7 hE kc_Fc k1 (Nat.le_of_ble_eq_true rfl) rfl m_136 d_Fc_addOwn_1 (fun x2 e => ?_)
  replace h := lt_i e h; clear e
  refine g_aload_n (i := 0) hE d_Fc_addOwn_4 rfl rfl ?_
  refine g_getR 6 hE kc_Fc k1 (Nat.le_of_ble_eq_true rfl) rfl m_91 d_Fc_addOwn_5 (fun x3 e => ?_)
  replace h := lt_i e h; clear e
  obtain ⟨a4, rfl, h⟩ := nn_s h
  obtain ⟨k5, h⟩ := kd_s h
  refine g_alen hE k5 (by decide) d_Fc_addOwn_8 ?_
  refine g_icmp_ge hE d_Fc_addOwn_9 (fun c16 => ?_) (fun c16 => ?_)
  · replace h := if_t c16 h
    cases h
    exact g_vret hE d_Fc_addOwn_32 rfl rfl
  · replace h := if_f c16 h
    refine g_aload_n (i := 0) hE d_Fc_addOwn_12 rfl rfl ?_
    refine g_getR 6 hE kc_Fc k1 (Nat.le_of_ble_eq_true rfl) rfl m_91 d_Fc_addOwn_13 (fun x6 e => ?_)
    replace h := lt_i e h; clear e
    refine g_aload_n (i := 0) hE d_Fc_addOwn_16 rfl rfl ?_
    refine g_getI 7 hE kc_Fc k1 (Nat.le_of_ble_eq_true rfl) rfl m_136 d_Fc_addOwn_17 (fun x7 e => ?_)
    replace h := lt_i e h; clear e
    refine g_aload_n (i := 1) hE d_Fc_addOwn_20 rfl rfl ?_
    obtain ⟨a8, rfl, h⟩ := nn_s h
    obtain ⟨k9, h⟩ := kd_s h
    obtain ⟨g10, h⟩ := gi_s h
    obtain ⟨a12, rfl, h⟩ := nn_s h
    obtain ⟨k13, h⟩ := kd_s h
    refine g_aast hE k9 (by decide) (fun _ => rfl) rfl kc_Om k13 g10 d_Fc_addOwn_21 (fun S11 e => ?_)
    replace k1 : sK S11 o = 4 := by rw [← e]; exact k1
    replace k5 : sK S11 a4 = 61 := by rw [← e]; exact k5
    replace k9 : sK S11 a8 = 61 := by rw [← e]; exact k9
    replace k13 : sK S11 a12 = 5 := by rw [← e]; exact k13
    replace h := lt_i e h; clear e
    refine g_aload_n (i := 0) hE d_Fc_addOwn_22 rfl rfl ?_
    refine g_dupr hE d_Fc_addOwn_23 ?_
    refine g_getI 7 hE kc_Fc k1 (Nat.le_of_ble_eq_true rfl) rfl m_136 d_Fc_addOwn_24 (fun x14 e => ?_)
    replace h := lt_i e h; clear e
    refine g_iconst hE d_Fc_addOwn_27 ki_1 ?_
    refine g_iadd hE d_Fc_addOwn_28 ?_
    refine g_putI 7 hE kc_Fc k1 (Nat.le_of_ble_eq_true rfl) rfl m_136 rfl (by decide +kernel) d_Fc_addOwn_29 (fun d15 e => ?_)
    replace h := lt_i e h; clear e
    cases h
    exact g_vret hE d_Fc_addOwn_32 rfl rfl
theorem d_M_method_0 : dc b_M_method 0 (.iload_n 3) 1 1 := ⟨by decide +kernel, rfl⟩
theorem d_M_method_1 : dc b_M_method 1 (.sipush 255) 3 4 := ⟨by decide +kernel, rfl⟩
theorem d_M_method_4 : dc b_M_method 4 (.iand) 1 5 := ⟨by decide +kernel, rfl⟩
theorem d_M_method_5 : dc b_M_method 5 (.istore 4) 2 7 := ⟨by decide +kernel, rfl⟩
theorem d_M_method_7 : dc b_M_method 7 (.iload_n 3) 1 8 := ⟨by decide +kernel, rfl⟩
theorem d_M_method_8 : dc b_M_method 8 (.bipush 8) 2 10 := ⟨by decide +kernel, rfl⟩
theorem d_M_method_10 : dc b_M_method 10 (.iushr) 1 11 := ⟨by decide +kernel, rfl⟩
theorem d_M_method_11 : dc b_M_method 11 (.invokestatic 141) 3 14 := ⟨by decide +kernel, rfl⟩
theorem d_M_method_14 : dc b_M_method 14 (.istore 5) 2 16 := ⟨by decide +kernel, rfl⟩
theorem d_M_method_16 : dc b_M_method 16 (.aload_n 0) 1 17 := ⟨by decide +kernel, rfl⟩
theorem d_M_method_17 : dc b_M_method 17 (.getfield 112) 3 20 := ⟨by decide +kernel, rfl⟩
theorem d_M_method_20 : db b_M_method 20 (.ifCond .gt 20) 20 40 23 := ⟨by decide +kernel, by decide, rfl⟩
theorem d_M_method_23 : dc b_M_method 23 (.aload_n 0) 1 24 := ⟨by decide +kernel, rfl⟩
theorem d_M_method_24 : dc b_M_method 24 (.iload_n 1) 1 25 := ⟨by decide +kernel, rfl⟩
theorem d_M_method_25 : dc b_M_method 25 (.invokevirtual 115) 3 28 := ⟨by decide +kernel, rfl⟩
theorem d_M_method_28 : db b_M_method 28 (.ifCond .eq 12) 12 40 31 := ⟨by decide +kernel, by decide, rfl⟩
theorem d_M_method_31 : dc b_M_method 31 (.iload_n 2) 1 32 := ⟨by decide +kernel, rfl⟩
theorem d_M_method_32 : dc b_M_method 32 (.bipush 29) 2 34 := ⟨by decide +kernel, rfl⟩
theorem d_M_method_34 : dc b_M_method 34 (.invokestatic 94) 3 37 := ⟨by decide +kernel, rfl⟩
theorem d_M_method_37 : db b_M_method 37 (.ifCond .ne 5) 5 42 40 := ⟨by decide +kernel, by decide, rfl⟩
theorem d_M_method_40 : dc b_M_method 40 (.iconst (-1)) 1 41 := ⟨by decide +kernel, rfl⟩
theorem d_M_method_41 : dc b_M_method 41 (.ireturn) 1 42 := ⟨by decide +kernel, rfl⟩
theorem d_M_method_42 : dc b_M_method 42 (.aload_n 0) 1 43 := ⟨by decide +kernel, rfl⟩
theorem d_M_method_43 : dc b_M_method 43 (.iload 4) 2 45 := ⟨by decide +kernel, rfl⟩
theorem d_M_method_45 : dc b_M_method 45 (.invokevirtual 144) 3 48 := ⟨by decide +kernel, rfl⟩
theorem d_M_method_48 : db b_M_method 48 (.ifCond .eq 12) 12 60 51 := ⟨by decide +kernel, by decide, rfl⟩
theorem d_M_method_51 : dc b_M_method 51 (.aload_n 0) 1 52 := ⟨by decide +kernel, rfl⟩
theorem d_M_method_52 : dc b_M_method 52 (.iload 5) 2 54 := ⟨by decide +kernel, rfl⟩
theorem d_M_method_54 : dc b_M_method 54 (.invokevirtual 147) 3 57 := ⟨by decide +kernel, rfl⟩
theorem d_M_method_57 : db b_M_method 57 (.ifCond .ne 5) 5 62 60 := ⟨by decide +kernel, by decide, rfl⟩
theorem d_M_method_60 : dc b_M_method 60 (.iconst (-1)) 1 61 := ⟨by decide +kernel, rfl⟩
theorem d_M_method_61 : dc b_M_method 61 (.ireturn) 1 62 := ⟨by decide +kernel, rfl⟩
theorem d_M_method_62 : dc b_M_method 62 (.aload_n 0) 1 63 := ⟨by decide +kernel, rfl⟩
theorem d_M_method_63 : dc b_M_method 63 (.getfield 22) 3 66 := ⟨by decide +kernel, rfl⟩
theorem d_M_method_66 : dc b_M_method 66 (.iload_n 1) 1 67 := ⟨by decide +kernel, rfl⟩
theorem d_M_method_67 : dc b_M_method 67 (.bipush 24) 2 69 := ⟨by decide +kernel, rfl⟩
theorem d_M_method_69 : dc b_M_method 69 (.isub) 1 70 := ⟨by decide +kernel, rfl⟩
theorem d_M_method_70 : dc b_M_method 70 (.aaload) 1 71 := ⟨by decide +kernel, rfl⟩
theorem d_M_method_71 : dc b_M_method 71 (.astore 6) 2 73 := ⟨by decide +kernel, rfl⟩
theorem d_M_method_73 : dc b_M_method 73 (.aload 6) 2 75 := ⟨by decide +kernel, rfl⟩
theorem d_M_method_75 : dc b_M_method 75 (.getfield 150) 3 78 := ⟨by decide +kernel, rfl⟩
theorem d_M_method_78 : dc b_M_method 78 (.bipush 6) 2 80 := ⟨by decide +kernel, rfl⟩
theorem d_M_method_80 : db b_M_method 80 (.if_icmp .eq 14) 14 94 83 := ⟨by decide +kernel, by decide, rfl⟩
theorem d_M_method_83 : dc b_M_method 83 (.aload 6) 2 85 := ⟨by decide +kernel, rfl⟩
theorem d_M_method_85 : dc b_M_method 85 (.iload_n 2) 1 86 := ⟨by decide +kernel, rfl⟩
theorem d_M_method_86 : dc b_M_method 86 (.iload 5) 2 88 := ⟨by decide +kernel, rfl⟩
theorem d_M_method_88 : dc b_M_method 88 (.invokevirtual 153) 3 91 := ⟨by decide +kernel, rfl⟩
theorem d_M_method_91 : db b_M_method 91 (.ifCond .eq 5) 5 96 94 := ⟨by decide +kernel, by decide, rfl⟩
theorem d_M_method_94 : dc b_M_method 94 (.iconst (-1)) 1 95 := ⟨by decide +kernel, rfl⟩
theorem d_M_method_95 : dc b_M_method 95 (.ireturn) 1 96 := ⟨by decide +kernel, rfl⟩
theorem d_M_method_96 : dc b_M_method 96 (.aload 6) 2 98 := ⟨by decide +kernel, rfl⟩
theorem d_M_method_98 : dc b_M_method 98 (.new 33) 3 101 := ⟨by decide +kernel, rfl⟩
theorem d_M_method_101 : dc b_M_method 101 (.dup) 1 102 := ⟨by decide +kernel, rfl⟩
theorem d_M_method_102 : dc b_M_method 102 (.iload_n 1) 1 103 := ⟨by decide +kernel, rfl⟩
theorem d_M_method_103 : dc b_M_method 103 (.aload 6) 2 105 := ⟨by decide +kernel, rfl⟩
theorem d_M_method_105 : dc b_M_method 105 (.getfield 150) 3 108 := ⟨by decide +kernel, rfl⟩
theorem d_M_method_108 : dc b_M_method 108 (.iload_n 2) 1 109 := ⟨by decide +kernel, rfl⟩
theorem d_M_method_109 : dc b_M_method 109 (.iload 5) 2 111 := ⟨by decide +kernel, rfl⟩
theorem d_M_method_111 : dc b_M_method 111 (.iload 4) 2 113 := ⟨by decide +kernel, rfl⟩
theorem d_M_method_113 : dc b_M_method 113 (.invokespecial 77) 3 116 := ⟨by decide +kernel, rfl⟩
theorem d_M_method_116 : dc b_M_method 116 (.invokevirtual 156) 3 119 := ⟨by decide +kernel, rfl⟩
theorem d_M_method_119 : dc b_M_method 119 (.aload_n 0) 1 120 := ⟨by decide +kernel, rfl⟩
theorem d_M_method_120 : dc b_M_method 120 (.iconst 0) 1 121 := ⟨by decide +kernel, rfl⟩
theorem d_M_method_121 : dc b_M_method 121 (.putfield 137) 3 124 := ⟨by decide +kernel, rfl⟩
theorem d_M_method_124 : dc b_M_method 124 (.aload 6) 2 126 := ⟨by decide +kernel, rfl⟩
theorem d_M_method_126 : dc b_M_method 126 (.getfield 150) 3 129 := ⟨by decide +kernel, rfl⟩
theorem d_M_method_129 : dc b_M_method 129 (.iconst 1) 1 130 := ⟨by decide +kernel, rfl⟩
theorem d_M_method_130 : dc b_M_method 130 (.isub) 1 131 := ⟨by decide +kernel, rfl⟩
theorem d_M_method_131 : dc b_M_method 131 (.ireturn) 1 132 := ⟨by decide +kernel, rfl⟩
set_option maxRecDepth 100000 in
def f_M_method (S : gS) (d : gD) (o : Nat) (v1 : Int32) (v2 : Int32) (v3 : Int32) : Option ((Int32 × gS × gD) × Nat × Nat) :=
  bd (f_M_cutAtZero S d ((Int32.toUInt32 v3 >>> (Int32.toUInt32 8 &&& Int32.toUInt32 31)).toInt32)) fun x1 =>
  kd S o 1 <|
  lt_ (dI d o 10) fun x4 =>
  if 0 < x4 then (
    some (((-1), S, d), 0, 0))
  else (
    bd (f_M_isFace S d o v1) fun x5 =>
    if x5 = 0 then (
      some (((-1), S, d), 0, 0))
    else (
      bd (f_M_isWithin S d v2 29) fun x7 =>
      if x7 = 0 then (
        some (((-1), S, d), 0, 0))
      else (
        bd (f_M_isResult S d o (v3 &&& 255)) fun x9 =>
        if x9 = 0 then (
          some (((-1), S, d), 0, 0))
        else (
          bd (f_M_areParameters S d o x1) fun x11 =>
          if x11 = 0 then (
            some (((-1), S, d), 0, 0))
          else (
            lt_ (sP S o 3) fun x13 =>
            nn x13 fun a14 =>
            kd S a14 60 <|
            gi (v1 - 24) (sN S a14) <|
            lt_ (sP S a14 (v1 - 24 : Int32).toNatClampNeg) fun x17 =>
            nn x17 fun a18 =>
            kd S a18 4 <|
            lt_ (dI d a18 7) fun x20 =>
            if x20 = 6 then (
              some (((-1), S, d), 0, 0))
            else (
              bd (f_Fc_hasOwn S d a18 v2 x1) fun x21 =>
              if x21 = 0 then (
                ac 1 6 <|
                lt_ (nS S 5 0) fun S23 =>
                lt_ (nD S d) fun d24 =>
                lt_ (sZ S) fun a25 =>
                kd S23 a18 4 <|
                lt_ (dI d24 a18 7) fun x30 =>
                bdA (f_Om_init S23 d24 a25 v1 x30 v2 x1 (v3 &&& 255)) fun _ S33 d34 =>
                kd S33 a18 4 <|
                bdP (f_Fc_addOwn S33 d34 a18 (some a25)) fun _ S42 d43 =>
                kd S42 o 1 <|
                lt_ (wI d43 o 13 0) fun d46 =>
                kd S42 a18 4 <|
                lt_ (dI d46 a18 7) fun x48 =>
                some ((x48 - 1, S42, d46), 0, 0))
              else (
                some (((-1), S, d), 0, 0))))))))
set_option maxRecDepth 100000 in
set_option maxHeartbeats 4000000 in
theorem c_M_method (l : Launch) (G : gG) {S : gS} {d : gD} {o : Nat} {v1 : Int32} {v2 : Int32} {v3 : Int32} {r : Int32} {d' : gD} {S' : gS} {dc ds : Nat} (h : f_M_method S d o v1 v2 v3 = some ((r, S', d'), dc, ds)) : GM l G y_M_method b_M_method 7 (some (.int)) 3 66 dc ds [.inr (.inr (some o)), .inl v1, .inl v2, .inl v3] S d (some (.int r)) S' d' := by
  refine GM.of (by decide) (Nat.le_of_ble_eq_true rfl) ?_
  intro X hl0 hG0 hR0 hE0
  have hE : gE X b_M_method 7 "StandInMill" (some (.int)) "method" 3 66 := hE0
  have hmc : (xR X).cells = dc := by rw [hR0]
  have hms : (xR X).slots = ds := by rw [hR0]
  obtain ⟨mc, emc⟩ : ∃ z, z = dc := ⟨_, rfl⟩
  obtain ⟨ms, ems⟩ : ∃ z, z = ds := ⟨_, rfl⟩
  rw [← emc] at hmc
  rw [← ems] at hms
  have hc : 0 + dc = mc := by omega
  have hs : 0 + ds = ms := by omega
  show gw X 0 0 (gQ X _ _ _ dc ds) _ _ _ _ _
  rw [← emc, ← ems]
  clear hR0 emc ems
  unfold f_M_method at h
  refine gw.less (lv' := [some (va_rf (some o)), some (.int v1), some (.int v2), some (.int v3), none, none, none]) (And.intro rfl (And.intro rfl (And.intro rfl (And.intro rfl trivial)))) ?_
  refine g_iload_n (i := 3) hE d_M_method_0 rfl rfl ?_
  refine g_sipush hE d_M_method_1 ks_255 ?_
  refine g_iand hE d_M_method_4 ?_
  refine g_istore (i := 4) (lv' := [some (va_rf (some o)), some (.int v1), some (.int v2), some (.int v3), some (.int (v3 &&& 255)), none, none]) hE d_M_method_5 (Nat.le_of_ble_eq_true rfl) ⟨rfl, Nat.le_of_ble_eq_true rfl⟩ (lvp_i rfl) ?_
  refine g_iload_n (i := 3) hE d_M_method_7 rfl rfl ?_
  refine g_bipush hE d_M_method_8 kb_8 ?_
  refine g_iushr hE d_M_method_10 ?_
  obtain ⟨x1, e2, h⟩ := bd_s h
  refine g_callS (av := [.inl ((Int32.toUInt32 v3 >>> (Int32.toUInt32 8 &&& Int32.toUInt32 31)).toInt32)]) (stk := [.int x1]) [] hE (c_M_cutAtZero (xl X) (xG X) e2) ky_M_cutAtZero ⟨Nat.le_of_ble_eq_true rfl, Nat.le_of_ble_eq_true rfl⟩ m_137 m_138 rfl d_M_method_11 rfl rfl ct_0 (cnt_room0 hmc hc) (cnt_room0 hms hs) ?_
  refine gw.cs (c2 := 0) (s2 := 0) rfl rfl ?_
  refine g_istore (i := 5) (lv' := [some (va_rf (some o)), some (.int v1), some (.int v2), some (.int v3), some (.int (v3 &&& 255)), some (.int x1), none]) hE d_M_method_14 (Nat.le_of_ble_eq_true rfl) ⟨rfl, Nat.le_of_ble_eq_true rfl⟩ (lvp_i rfl) ?_
  refine g_aload_n (i := 0) hE d_M_method_16 rfl rfl ?_
  obtain ⟨k3, h⟩ := kd_s h
  refine g_getI 10 hE kc_M k3 (Nat.le_of_ble_eq_true rfl) rfl m_111 d_M_method_17 (fun x4 e => ?_)
  replace h := lt_i e h; clear e
  refine g_if_gt hE d_M_method_20 (fun c55 => ?_) (fun c55 => ?_)
  · replace h := if_t c55 h
    refine g_iconst hE d_M_method_40 ki_m1 ?_
    cases h
    exact g_iret hE d_M_method_41 hc hs
  · replace h := if_f c55 h
    refine g_aload_n (i := 0) hE d_M_method_23 rfl rfl ?_
    refine g_iload_n (i := 1) hE d_M_method_24 rfl rfl ?_
    obtain ⟨x5, e6, h⟩ := bd_s h
    refine g_callV (av := [.inr (.inr (some o)), .inl v1]) (as := [.inl v1]) (stk := [.int x5]) [] hE (c_M_isFace (xl X) (xG X) e6) ky_M_isFace ⟨Nat.le_of_ble_eq_true rfl, Nat.le_of_ble_eq_true rfl⟩ rfl kc_M k3 m_112 m_113 m_114 rfl d_M_method_25 rfl rfl ct_0 (cnt_room0 hmc hc) (cnt_room0 hms hs) ?_
    refine gw.cs (c2 := 0) (s2 := 0) rfl rfl ?_
    refine g_if_eq hE d_M_method_28 (fun c54 => ?_) (fun c54 => ?_)
    · replace h := if_t c54 h
      refine g_iconst hE d_M_method_40 ki_m1 ?_
      cases h
      exact g_iret hE d_M_method_41 hc hs
    · replace h := if_f c54 h
      refine g_iload_n (i := 2) hE d_M_method_31 rfl rfl ?_
      refine g_bipush hE d_M_method_32 kb_29 ?_
      obtain ⟨x7, e8, h⟩ := bd_s h
      refine g_callS (av := [.inl v2, .inl 29]) (stk := [.int x7]) [] hE (c_M_isWithin (xl X) (xG X) e8) ky_M_isWithin ⟨Nat.le_of_ble_eq_true rfl, Nat.le_of_ble_eq_true rfl⟩ m_73 m_74 rfl d_M_method_34 rfl rfl ct_0 (cnt_room0 hmc hc) (cnt_room0 hms hs) ?_
      refine gw.cs (c2 := 0) (s2 := 0) rfl rfl ?_
      refine g_if_ne hE d_M_method_37 (fun c53 => ?_) (fun c53 => ?_)
      · replace h := if_f c53 h
        refine g_aload_n (i := 0) hE d_M_method_42 rfl rfl ?_
        refine g_iload (i := 4) hE d_M_method_43 rfl ?_
        obtain ⟨x9, e10, h⟩ := bd_s h
        refine g_callV (av := [.inr (.inr (some o)), .inl (v3 &&& 255)]) (as := [.inl (v3 &&& 255)]) (stk := [.int x9]) [] hE (c_M_isResult (xl X) (xG X) e10) ky_M_isResult ⟨Nat.le_of_ble_eq_true rfl, Nat.le_of_ble_eq_true rfl⟩ rfl kc_M k3 m_139 m_140 m_141 rfl d_M_method_45 rfl rfl ct_0 (cnt_room0 hmc hc) (cnt_room0 hms hs) ?_
        refine gw.cs (c2 := 0) (s2 := 0) rfl rfl ?_
        refine g_if_eq hE d_M_method_48 (fun c52 => ?_) (fun c52 => ?_)
        · replace h := if_t c52 h
          refine g_iconst hE d_M_method_60 ki_m1 ?_
          cases h
          exact g_iret hE d_M_method_61 hc hs
        · replace h := if_f c52 h
          refine g_aload_n (i := 0) hE d_M_method_51 rfl rfl ?_
          refine g_iload (i := 5) hE d_M_method_52 rfl ?_
          obtain ⟨x11, e12, h⟩ := bd_s h
          refine g_callV (av := [.inr (.inr (some o)), .inl x1]) (as := [.inl x1]) (stk := [.int x11]) [] hE (c_M_areParameters (xl X) (xG X) e12) ky_M_areParameters ⟨Nat.le_of_ble_eq_true rfl, Nat.le_of_ble_eq_true rfl⟩ rfl kc_M k3 m_142 m_143 m_144 rfl d_M_method_54 rfl rfl ct_0 (cnt_room0 hmc hc) (cnt_room0 hms hs) ?_
          refine gw.cs (c2 := 0) (s2 := 0) rfl rfl ?_
          refine g_if_ne hE d_M_method_57 (fun c51 => ?_) (fun c51 => ?_)
          · replace h := if_f c51 h
            refine g_aload_n (i := 0) hE d_M_method_62 rfl rfl ?_
            refine g_getR 3 hE kc_M k3 (Nat.le_of_ble_eq_true rfl) rfl m_44 d_M_method_63 (fun x13 e => ?_)
            replace h := lt_i e h; clear e
            refine g_iload_n (i := 1) hE d_M_method_66 rfl rfl ?_
            refine g_bipush hE d_M_method_67 kb_24 ?_
            refine g_isub hE d_M_method_69 ?_
            obtain ⟨a14, rfl, h⟩ := nn_s h
            obtain ⟨k15, h⟩ := kd_s h
            obtain ⟨g16, h⟩ := gi_s h
            refine g_aald hE k15 (by decide) rfl (fun _ => rfl) g16 d_M_method_70 (fun x17 e => ?_)
            replace h := lt_i e h; clear e
            refine g_astore (i := 6) (lv' := [some (va_rf (some o)), some (.int v1), some (.int v2), some (.int v3), some (.int (v3 &&& 255)), some (.int x1), some (va_rf x17)]) hE d_M_method_71 (Nat.le_of_ble_eq_true rfl) ⟨rfl, Nat.le_of_ble_eq_true rfl⟩ (lvp_i rfl) ?_
            refine g_aload (i := 6) hE d_M_method_73 rfl ?_
            obtain ⟨a18, rfl, h⟩ := nn_s h
            obtain ⟨k19, h⟩ := kd_s h
            refine g_getIN 7 hE kc_Fc k19 (Nat.le_of_ble_eq_true rfl) rfl nf_6 d_M_method_75 (fun x20 e => ?_)
            replace h := lt_i e h; clear e
            refine g_bipush hE d_M_method_78 kb_6 ?_
            refine g_icmp_eq hE d_M_method_80 (fun c50 => ?_) (fun c50 => ?_)
            · replace h := if_t c50 h
              refine g_iconst hE d_M_method_94 ki_m1 ?_
              cases h
              exact g_iret hE d_M_method_95 hc hs
            · replace h := if_f c50 h
              refine g_aload (i := 6) hE d_M_method_83 rfl ?_
              refine g_iload_n (i := 2) hE d_M_method_85 rfl rfl ?_
              refine g_iload (i := 5) hE d_M_method_86 rfl ?_
              obtain ⟨x21, e22, h⟩ := bd_s h
              refine g_callV (av := [.inr (.inr (some a18)), .inl v2, .inl x1]) (as := [.inl v2, .inl x1]) (stk := [.int x21]) [] hE (c_Fc_hasOwn (xl X) (xG X) e22) ky_Fc_hasOwn ⟨Nat.le_of_ble_eq_true rfl, Nat.le_of_ble_eq_true rfl⟩ rfl kc_Fc k19 m_145 m_146 m_147 rfl d_M_method_88 rfl rfl ct_0 (cnt_room0 hmc hc) (cnt_room0 hms hs) ?_
              refine gw.cs (c2 := 0) (s2 := 0) rfl rfl ?_
              refine g_if_eq hE d_M_method_91 (fun c49 => ?_) (fun c49 => ?_)
              · replace h := if_t c49 h
                refine g_aload (i := 6) hE d_M_method_96 rfl ?_
                obtain ⟨dc0, ds0, h, hc0, hs0⟩ := ac_s h
                refine g_new hE kc_Om kn_Om m_47 m_67 m_68 (cnt_room hmc hc hc0) (cnt_room hms hs hs0) d_M_method_98 (fun S23 d24 a25 e1 e2 e3 => ?_)
                have k26 : sK S23 a25 = 5 := by rw [← e1, ← e3]; exact nS_new
                replace h := lt_i e1 h; replace h := lt_i e2 h; replace h := lt_i e3 h; clear e1 e2 e3
                refine gw.gen (fun c27 s28 ec es => ?_)
                replace hc := cnt_step hc hc0 ec; replace hs := cnt_step hs hs0 es; clear hc0 hs0 ec es
                refine g_dupr hE d_M_method_101 ?_
                refine g_iload_n (i := 1) hE d_M_method_102 rfl rfl ?_
                refine g_aload (i := 6) hE d_M_method_103 rfl ?_
                obtain ⟨k29, h⟩ := kd_s h
                refine g_getIN 7 hE kc_Fc k29 (Nat.le_of_ble_eq_true rfl) rfl nf_6 d_M_method_105 (fun x30 e => ?_)
                replace h := lt_i e h; clear e
                refine g_iload_n (i := 2) hE d_M_method_108 rfl rfl ?_
                refine g_iload (i := 5) hE d_M_method_109 rfl ?_
                refine g_iload (i := 4) hE d_M_method_111 rfl ?_
                obtain ⟨x31, S33, d34, n35, n36, dc0, ds0, e32, h, hc0, hs0⟩ := bdA_s h
                refine g_callI (av := [.inr (.inr (some a25)), .inl v1, .inl x30, .inl v2, .inl x1, .inl (v3 &&& 255)]) (as := [.inl v1, .inl x30, .inl v2, .inl x1, .inl (v3 &&& 255)]) (stk := [va_rf (some a25), va_rf (some a18)]) [va_rf (some a25), va_rf (some a18)] hE (c_Om_init (xl X) (xG X) e32) ky_Om_init ⟨Nat.le_of_ble_eq_true rfl, Nat.le_of_ble_eq_true rfl⟩ rfl m_69 m_70 rfl rfl d_M_method_113 rfl rfl (Nat.le_trans (ct_r (ct_r ct_n)) (Nat.le_of_ble_eq_true rfl)) (cnt_room hmc hc hc0) (cnt_room hms hs hs0) ?_
                refine gw.gen (fun c37 s38 ec es => ?_)
                replace hc := cnt_step hc hc0 ec; replace hs := cnt_step hs hs0 es; clear hc0 hs0 ec es
                obtain ⟨k39, h⟩ := kd_s h
                obtain ⟨x40, S42, d43, e41, h⟩ := bdP_s h
                refine g_callV (av := [.inr (.inr (some a18)), .inr (.inr (some a25))]) (as := [.inr (.inr (some a25))]) (stk := []) [] hE (c_Fc_addOwn (xl X) (xG X) e41) ky_Fc_addOwn ⟨Nat.le_of_ble_eq_true rfl, Nat.le_of_ble_eq_true rfl⟩ rfl kc_Fc k39 m_148 m_149 m_150 rfl d_M_method_116 rfl rfl ct_0 (cnt_room0 hmc hc) (cnt_room0 hms hs) ?_
                refine gw.cs (c2 := c37) (s2 := s38) rfl rfl ?_
                refine g_aload_n (i := 0) hE d_M_method_119 rfl rfl ?_
                refine g_iconst hE d_M_method_120 ki_0 ?_
                obtain ⟨k44, h⟩ := kd_s h
                refine g_putZ 13 hE kc_M k44 (Nat.le_of_ble_eq_true rfl) rfl m_127 rfl (by decide +kernel) (Or.inl rfl) d_M_method_121 (fun d46 e => ?_)
                replace h := lt_i e h; clear e
                refine g_aload (i := 6) hE d_M_method_124 rfl ?_
                obtain ⟨k47, h⟩ := kd_s h
                refine g_getIN 7 hE kc_Fc k47 (Nat.le_of_ble_eq_true rfl) rfl nf_6 d_M_method_126 (fun x48 e => ?_)
                replace h := lt_i e h; clear e
                refine g_iconst hE d_M_method_129 ki_1 ?_
                refine g_isub hE d_M_method_130 ?_
                cases h
                exact g_iret hE d_M_method_131 hc hs
              · replace h := if_f c49 h
                refine g_iconst hE d_M_method_94 ki_m1 ?_
                cases h
                exact g_iret hE d_M_method_95 hc hs
          · replace h := if_t c51 h
            refine g_iconst hE d_M_method_60 ki_m1 ?_
            cases h
            exact g_iret hE d_M_method_61 hc hs
      · replace h := if_t c53 h
        refine g_iconst hE d_M_method_40 ki_m1 ?_
        cases h
        exact g_iret hE d_M_method_41 hc hs
