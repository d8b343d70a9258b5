theorem d_M_find_0 : dc b_M_find 0 (.aload_n 0) 1 1 := ⟨by decide +kernel, rfl⟩
theorem d_M_find_1 : dc b_M_find 1 (.iload_n 1) 1 2 := ⟨by decide +kernel, rfl⟩
theorem d_M_find_2 : dc b_M_find 2 (.invokevirtual 86) 3 5 := ⟨by decide +kernel, rfl⟩
theorem d_M_find_5 : db b_M_find 5 (.ifCond .eq 13) 13 18 8 := ⟨by decide +kernel, by decide, rfl⟩
theorem d_M_find_8 : dc b_M_find 8 (.aload_n 0) 1 9 := ⟨by decide +kernel, rfl⟩
theorem d_M_find_9 : dc b_M_find 9 (.iload_n 1) 1 10 := ⟨by decide +kernel, rfl⟩
theorem d_M_find_10 : dc b_M_find 10 (.iload_n 2) 1 11 := ⟨by decide +kernel, rfl⟩
theorem d_M_find_11 : dc b_M_find 11 (.iload_n 3) 1 12 := ⟨by decide +kernel, rfl⟩
theorem d_M_find_12 : dc b_M_find 12 (.invokevirtual 98) 3 15 := ⟨by decide +kernel, rfl⟩
theorem d_M_find_15 : db b_M_find 15 (.goto 4) 4 19 18 := ⟨by decide +kernel, by decide, rfl⟩
theorem d_M_find_18 : dc b_M_find 18 (.iconst (-1)) 1 19 := ⟨by decide +kernel, rfl⟩
theorem d_M_find_19 : dc b_M_find 19 (.ireturn) 1 20 := ⟨by decide +kernel, rfl⟩
set_option maxRecDepth 100000 in
def f_M_find (S : gS) (d : gD) (o : Nat) (v1 : Int32) (v2 : Int32) (v3 : Int32) : Option (Int32) :=
  kd S o 1 <|
  bd (f_M_isLoader S d o v1) fun x2 =>
  if x2 = 0 then (
    some (-1))
  else (
    bd (f_M_faceFoundBy S d o v1 v2 v3) fun x4 =>
    some x4)
set_option maxRecDepth 100000 in
set_option maxHeartbeats 4000000 in
theorem c_M_find (l : Launch) (G : gG) {S : gS} {d : gD} {o : Nat} {v1 : Int32} {v2 : Int32} {v3 : Int32} {r : Int32} (h : f_M_find S d o v1 v2 v3 = some r) : GM l G y_M_find b_M_find 4 (some (.int)) 2 51 0 0 [.inr (.inr (some o)), .inl v1, .inl v2, .inl v3] S d (some (.int r)) S d := by
  refine GM.of (by decide) (Nat.le_of_ble_eq_true rfl) ?_
  intro X hl0 hG0 hR0 hE0
  have hE : gE X b_M_find 4 "StandInMill" (some (.int)) "find" 2 51 := hE0
  unfold f_M_find at h
  refine gw.less (lv' := [some (va_rf (some o)), some (.int v1), some (.int v2), some (.int v3)]) (And.intro rfl (And.intro rfl (And.intro rfl (And.intro rfl trivial)))) ?_
  refine g_aload_n (i := 0) hE d_M_find_0 rfl rfl ?_
  refine g_iload_n (i := 1) hE d_M_find_1 rfl rfl ?_
  obtain ⟨k1, h⟩ := kd_s h
  obtain ⟨x2, e3, h⟩ := bd_s h
  refine g_callV (av := [.inr (.inr (some o)), .inl v1]) (as := [.inl v1]) (stk := [.int x2]) [] hE (c_M_isLoader (xl X) (xG X) e3) ky_M_isLoader ⟨Nat.le_of_ble_eq_true rfl, Nat.le_of_ble_eq_true rfl⟩ rfl kc_M k1 m_75 m_76 m_77 rfl d_M_find_2 rfl rfl ct_0 (Nat.zero_le _) (Nat.zero_le _) ?_
  refine gw.cs (c2 := 0) (s2 := 0) rfl rfl ?_
  refine g_if_eq hE d_M_find_5 (fun c6 => ?_) (fun c6 => ?_)
  · replace h := if_t c6 h
    refine g_iconst hE d_M_find_18 ki_m1 ?_
    cases h
    exact g_iret hE d_M_find_19 rfl rfl
  · replace h := if_f c6 h
    refine g_aload_n (i := 0) hE d_M_find_8 rfl rfl ?_
    refine g_iload_n (i := 1) hE d_M_find_9 rfl rfl ?_
    refine g_iload_n (i := 2) hE d_M_find_10 rfl rfl ?_
    refine g_iload_n (i := 3) hE d_M_find_11 rfl rfl ?_
    obtain ⟨x4, e5, h⟩ := bd_s h
    refine g_callV (av := [.inr (.inr (some o)), .inl v1, .inl v2, .inl v3]) (as := [.inl v1, .inl v2, .inl v3]) (stk := [.int x4]) [] hE (c_M_faceFoundBy (xl X) (xG X) e5) ky_M_faceFoundBy ⟨Nat.le_of_ble_eq_true rfl, Nat.le_of_ble_eq_true rfl⟩ rfl kc_M k1 m_97 m_98 m_99 rfl d_M_find_12 rfl rfl ct_0 (Nat.zero_le _) (Nat.zero_le _) ?_
    refine gw.cs (c2 := 0) (s2 := 0) rfl rfl ?_
    refine g_goto hE d_M_find_15 ?_
    cases h
    exact g_iret hE d_M_find_19 rfl rfl
theorem d_M_areFaces_0 : dc b_M_areFaces 0 (.iconst 0) 1 1 := ⟨by decide +kernel, rfl⟩
theorem d_M_areFaces_1 : dc b_M_areFaces 1 (.istore_n 2) 1 2 := ⟨by decide +kernel, rfl⟩
theorem d_M_areFaces_2 : dc b_M_areFaces 2 (.iload_n 2) 1 3 := ⟨by decide +kernel, rfl⟩
theorem d_M_areFaces_3 : dc b_M_areFaces 3 (.iload_n 1) 1 4 := ⟨by decide +kernel, rfl⟩
theorem d_M_areFaces_4 : dc b_M_areFaces 4 (.invokestatic 308) 3 7 := ⟨by decide +kernel, rfl⟩
theorem d_M_areFaces_7 : db b_M_areFaces 7 (.if_icmp .ge 23) 23 30 10 := ⟨by decide +kernel, by decide, rfl⟩
theorem d_M_areFaces_10 : dc b_M_areFaces 10 (.aload_n 0) 1 11 := ⟨by decide +kernel, rfl⟩
theorem d_M_areFaces_11 : dc b_M_areFaces 11 (.iload_n 1) 1 12 := ⟨by decide +kernel, rfl⟩
theorem d_M_areFaces_12 : dc b_M_areFaces 12 (.iload_n 2) 1 13 := ⟨by decide +kernel, rfl⟩
theorem d_M_areFaces_13 : dc b_M_areFaces 13 (.invokestatic 274) 3 16 := ⟨by decide +kernel, rfl⟩
theorem d_M_areFaces_16 : dc b_M_areFaces 16 (.invokevirtual 115) 3 19 := ⟨by decide +kernel, rfl⟩
theorem d_M_areFaces_19 : db b_M_areFaces 19 (.ifCond .ne 5) 5 24 22 := ⟨by decide +kernel, by decide, rfl⟩
theorem d_M_areFaces_22 : dc b_M_areFaces 22 (.iconst 0) 1 23 := ⟨by decide +kernel, rfl⟩
theorem d_M_areFaces_23 : dc b_M_areFaces 23 (.ireturn) 1 24 := ⟨by decide +kernel, rfl⟩
theorem d_M_areFaces_24 : dc b_M_areFaces 24 (.iinc 2 1) 3 27 := ⟨by decide +kernel, rfl⟩
theorem d_M_areFaces_27 : db b_M_areFaces 27 (.goto (-25)) (-25) 2 30 := ⟨by decide +kernel, by decide, rfl⟩
theorem d_M_areFaces_30 : dc b_M_areFaces 30 (.iconst 1) 1 31 := ⟨by decide +kernel, rfl⟩
theorem d_M_areFaces_31 : dc b_M_areFaces 31 (.ireturn) 1 32 := ⟨by decide +kernel, rfl⟩
def f_M_areFaces_B2 (S : gS) (d : gD) (o : Nat) (kb : Int32 → Int32 → Option (Int32)) (v1 : Int32) (v2 : Int32) : Option (Int32) :=
  bd (f_M_lengthOf S d v1) fun x1 =>
  if x1 ≤ v2 then (
    some 1)
  else (
    bd (f_M_byteOf S d v1 v2) fun x3 =>
    kd S o 1 <|
    bd (f_M_isFace S d o x3) fun x6 =>
    if x6 = 0 then (
      some 0)
    else (
      kb v1 (v2 + 1)))
set_option maxRecDepth 100000 in
set_option maxHeartbeats 4000000 in
theorem w_M_areFaces_B2 {X : GX} (hE : gE X b_M_areFaces 3 "StandInMill" (some (.boolean)) "areFaces" 2 42) {S : gS} {d : gD} {o : Nat} {r : Int32} {kb : Int32 → Int32 → Option (Int32)} (hkb : ∀ (v1 : Int32) (v2 : Int32), kb v1 v2 = some r → gw X 0 0 (gQ X (some (.int r)) S d 0 0) S d 2 [some (va_rf (some o)), some (.int v1), some (.int v2)] []) :
    ∀ (v1 : Int32) (v2 : Int32), f_M_areFaces_B2 S d o kb v1 v2 = some r → gw X 0 0 (gQ X (some (.int r)) S d 0 0) S d 2 [some (va_rf (some o)), some (.int v1), some (.int v2)] [] := by
  intro v1 v2 h
  unfold f_M_areFaces_B2 at h
  refine g_iload_n (i := 2) hE d_M_areFaces_2 rfl rfl ?_
  refine g_iload_n (i := 1) hE d_M_areFaces_3 rfl rfl ?_
  obtain ⟨x1, e2, h⟩ := bd_s h
  refine g_callS (av := [.inl v1]) (stk := [.int x1, .int v2]) [.int v2] hE (c_M_lengthOf (xl X) (xG X) e2) ky_M_lengthOf ⟨Nat.le_of_ble_eq_true rfl, Nat.le_of_ble_eq_true rfl⟩ m_134 m_135 rfl d_M_areFaces_4 rfl rfl (Nat.le_trans (ct_i ct_n) (Nat.le_of_ble_eq_true rfl)) (Nat.zero_le _) (Nat.zero_le _) ?_
  refine gw.cs (c2 := 0) (s2 := 0) rfl rfl ?_
  refine g_icmp_ge hE d_M_areFaces_7 (fun c9 => ?_) (fun c9 => ?_)
  · replace h := if_t c9 h
    refine g_iconst hE d_M_areFaces_30 ki_1 ?_
    cases h
    exact g_zret hE (Or.inr rfl) d_M_areFaces_31 rfl rfl
  · replace h := if_f c9 h
    refine g_aload_n (i := 0) hE d_M_areFaces_10 rfl rfl ?_
    refine g_iload_n (i := 1) hE d_M_areFaces_11 rfl rfl ?_
    refine g_iload_n (i := 2) hE d_M_areFaces_12 rfl rfl ?_
    obtain ⟨x3, e4, h⟩ := bd_s h
    refine g_callS (av := [.inl v1, .inl v2]) (stk := [.int x3, va_rf (some o)]) [va_rf (some o)] hE (c_M_byteOf (xl X) (xG X) e4) ky_M_byteOf ⟨Nat.le_of_ble_eq_true rfl, Nat.le_of_ble_eq_true rfl⟩ m_128 m_129 rfl d_M_areFaces_13 rfl rfl (Nat.le_trans (ct_r ct_n) (Nat.le_of_ble_eq_true rfl)) (Nat.zero_le _) (Nat.zero_le _) ?_
    refine gw.cs (c2 := 0) (s2 := 0) rfl rfl ?_
    obtain ⟨k5, h⟩ := kd_s h
    obtain ⟨x6, e7, h⟩ := bd_s h
    refine g_callV (av := [.inr (.inr (some o)), .inl x3]) (as := [.inl x3]) (stk := [.int x6]) [] hE (c_M_isFace (xl X) (xG X) e7) ky_M_isFace ⟨Nat.le_of_ble_eq_true rfl, Nat.le_of_ble_eq_true rfl⟩ rfl kc_M k5 m_112 m_113 m_114 rfl d_M_areFaces_16 rfl rfl ct_0 (Nat.zero_le _) (Nat.zero_le _) ?_
    refine gw.cs (c2 := 0) (s2 := 0) rfl rfl ?_
    refine g_if_ne hE d_M_areFaces_19 (fun c8 => ?_) (fun c8 => ?_)
    · replace h := if_f c8 h
      refine g_iinc (i := 2) (lv' := [some (va_rf (some o)), some (.int v1), some (.int (v2 + 1))]) hE d_M_areFaces_24 ki_1 rfl (Nat.le_of_ble_eq_true rfl) ⟨rfl, Nat.le_of_ble_eq_true rfl⟩ (lvp_i rfl) ?_
      refine g_goto hE d_M_areFaces_27 ?_
      exact gw.less (lv' := [some (va_rf (some o)), some (.int v1), some (.int (v2 + 1))]) (And.intro rfl (And.intro rfl (And.intro rfl trivial))) (hkb v1 (v2 + 1) h)
    · replace h := if_t c8 h
      refine g_iconst hE d_M_areFaces_22 ki_0 ?_
      cases h
      exact g_zret hE (Or.inl rfl) d_M_areFaces_23 rfl rfl
theorem w_M_areFaces_L2 {X : GX} (hE : gE X b_M_areFaces 3 "StandInMill" (some (.boolean)) "areFaces" 2 42) {S : gS} {d : gD} {o : Nat} {r : Int32} : ∀ (n : Nat) (v1 : Int32) (v2 : Int32), itr (f_M_areFaces_B2 S d o) (fun _ _ => none) n v1 v2 = some r → gw X 0 0 (gQ X (some (.int r)) S d 0 0) S d 2 [some (va_rf (some o)), some (.int v1), some (.int v2)] [] := by
  intro n
  induction n with
  | zero => intro v1 v2 h; cases h
  | succ n ih => exact w_M_areFaces_B2 hE ih
set_option maxRecDepth 100000 in
def f_M_areFaces (S : gS) (d : gD) (o : Nat) (v1 : Int32) : Option (Int32) :=
  itr (f_M_areFaces_B2 S d o) (fun _ _ => none) fu v1 0
set_option maxRecDepth 100000 in
set_option maxHeartbeats 4000000 in
theorem c_M_areFaces (l : Launch) (G : gG) {S : gS} {d : gD} {o : Nat} {v1 : Int32} {r : Int32} (h : f_M_areFaces S d o v1 = some r) : GM l G y_M_areFaces b_M_areFaces 3 (some (.boolean)) 2 42 0 0 [.inr (.inr (some o)), .inl v1] S d (some (.int r)) S d := by
  refine GM.of (by decide) (Nat.le_of_ble_eq_true rfl) ?_
  intro X hl0 hG0 hR0 hE0
  have hE : gE X b_M_areFaces 3 "StandInMill" (some (.boolean)) "areFaces" 2 42 := hE0
  unfold f_M_areFaces at h
  refine gw.less (lv' := [some (va_rf (some o)), some (.int v1), none]) (And.intro rfl (And.intro rfl trivial)) ?_
  refine g_iconst hE d_M_areFaces_0 ki_0 ?_
  refine g_istore_n (i := 2) (lv' := [some (va_rf (some o)), some (.int v1), some (.int 0)]) hE d_M_areFaces_1 rfl (Nat.le_of_ble_eq_true rfl) ⟨rfl, Nat.le_of_ble_eq_true rfl⟩ (lvp_i rfl) ?_
  exact gw.less (lv' := [some (va_rf (some o)), some (.int v1), some (.int 0)]) (And.intro rfl (And.intro rfl (And.intro rfl trivial))) (w_M_areFaces_L2 hE fu v1 0 h)
theorem d_M_standMadeFor_0 : dc b_M_standMadeFor 0 (.iconst 0) 1 1 := ⟨by decide +kernel, rfl⟩
theorem d_M_standMadeFor_1 : dc b_M_standMadeFor 1 (.istore_n 3) 1 2 := ⟨by decide +kernel, rfl⟩
theorem d_M_standMadeFor_2 : dc b_M_standMadeFor 2 (.iload_n 3) 1 3 := ⟨by decide +kernel, rfl⟩
theorem d_M_standMadeFor_3 : dc b_M_standMadeFor 3 (.aload_n 0) 1 4 := ⟨by decide +kernel, rfl⟩
theorem d_M_standMadeFor_4 : dc b_M_standMadeFor 4 (.getfield 112) 3 7 := ⟨by decide +kernel, rfl⟩
theorem d_M_standMadeFor_7 : db b_M_standMadeFor 7 (.if_icmp .ge 37) 37 44 10 := ⟨by decide +kernel, by decide, rfl⟩
theorem d_M_standMadeFor_10 : dc b_M_standMadeFor 10 (.aload_n 0) 1 11 := ⟨by decide +kernel, rfl⟩
theorem d_M_standMadeFor_11 : dc b_M_standMadeFor 11 (.getfield 41) 3 14 := ⟨by decide +kernel, rfl⟩
theorem d_M_standMadeFor_14 : dc b_M_standMadeFor 14 (.iload_n 3) 1 15 := ⟨by decide +kernel, rfl⟩
theorem d_M_standMadeFor_15 : dc b_M_standMadeFor 15 (.aaload) 1 16 := ⟨by decide +kernel, rfl⟩
theorem d_M_standMadeFor_16 : dc b_M_standMadeFor 16 (.getfield 248) 3 19 := ⟨by decide +kernel, rfl⟩
theorem d_M_standMadeFor_19 : dc b_M_standMadeFor 19 (.iload_n 1) 1 20 := ⟨by decide +kernel, rfl⟩
theorem d_M_standMadeFor_20 : db b_M_standMadeFor 20 (.if_icmp .ne 18) 18 38 23 := ⟨by decide +kernel, by decide, rfl⟩
theorem d_M_standMadeFor_23 : dc b_M_standMadeFor 23 (.aload_n 0) 1 24 := ⟨by decide +kernel, rfl⟩
theorem d_M_standMadeFor_24 : dc b_M_standMadeFor 24 (.getfield 41) 3 27 := ⟨by decide +kernel, rfl⟩
theorem d_M_standMadeFor_27 : dc b_M_standMadeFor 27 (.iload_n 3) 1 28 := ⟨by decide +kernel, rfl⟩
theorem d_M_standMadeFor_28 : dc b_M_standMadeFor 28 (.aaload) 1 29 := ⟨by decide +kernel, rfl⟩
theorem d_M_standMadeFor_29 : dc b_M_standMadeFor 29 (.getfield 316) 3 32 := ⟨by decide +kernel, rfl⟩
theorem d_M_standMadeFor_32 : dc b_M_standMadeFor 32 (.iload_n 2) 1 33 := ⟨by decide +kernel, rfl⟩
theorem d_M_standMadeFor_33 : db b_M_standMadeFor 33 (.if_icmp .ne 5) 5 38 36 := ⟨by decide +kernel, by decide, rfl⟩
theorem d_M_standMadeFor_36 : dc b_M_standMadeFor 36 (.iload_n 3) 1 37 := ⟨by decide +kernel, rfl⟩
theorem d_M_standMadeFor_37 : dc b_M_standMadeFor 37 (.ireturn) 1 38 := ⟨by decide +kernel, rfl⟩
theorem d_M_standMadeFor_38 : dc b_M_standMadeFor 38 (.iinc 3 1) 3 41 := ⟨by decide +kernel, rfl⟩
theorem d_M_standMadeFor_41 : db b_M_standMadeFor 41 (.goto (-39)) (-39) 2 44 := ⟨by decide +kernel, by decide, rfl⟩
theorem d_M_standMadeFor_44 : dc b_M_standMadeFor 44 (.iconst (-1)) 1 45 := ⟨by decide +kernel, rfl⟩
theorem d_M_standMadeFor_45 : dc b_M_standMadeFor 45 (.ireturn) 1 46 := ⟨by decide +kernel, rfl⟩
def f_M_standMadeFor_J38 (S : gS) (d : gD) (o : Nat) (kb : Int32 → Int32 → Int32 → Option (Int32)) (v1 : Int32) (v2 : Int32) (v3 : Int32) : Option (Int32) :=
  kb v1 v2 (v3 + 1)
set_option maxRecDepth 100000 in
set_option maxHeartbeats 4000000 in
theorem w_M_standMadeFor_J38 {X : GX} (hE : gE X b_M_standMadeFor 4 "StandInMill" (some (.int)) "standMadeFor" 0 0) {S : gS} {d : gD} {o : Nat} {r : Int32} {kb : Int32 → Int32 → Int32 → Option (Int32)} (hkb : ∀ (v1 : Int32) (v2 : Int32) (v3 : Int32), kb v1 v2 v3 = some r → gw X 0 0 (gQ X (some (.int r)) S d 0 0) S d 2 [some (va_rf (some o)), some (.int v1), some (.int v2), some (.int v3)] []) :
    ∀ (v1 : Int32) (v2 : Int32) (v3 : Int32), f_M_standMadeFor_J38 S d o kb v1 v2 v3 = some r → gw X 0 0 (gQ X (some (.int r)) S d 0 0) S d 38 [some (va_rf (some o)), some (.int v1), some (.int v2), some (.int v3)] [] := by
  intro v1 v2 v3 h
  unfold f_M_standMadeFor_J38 at h
  refine g_iinc (i := 3) (lv' := [some (va_rf (some o)), some (.int v1), some (.int v2), some (.int (v3 + 1))]) hE d_M_standMadeFor_38 ki_1 rfl (Nat.le_of_ble_eq_true rfl) ⟨rfl, Nat.le_of_ble_eq_true rfl⟩ (lvp_i rfl) ?_
  refine g_goto hE d_M_standMadeFor_41 ?_
  exact gw.less (lv' := [some (va_rf (some o)), some (.int v1), some (.int v2), some (.int (v3 + 1))]) (And.intro rfl (And.intro rfl (And.intro rfl (And.intro rfl trivial)))) (hkb v1 v2 (v3 + 1) h)
def f_M_standMadeFor_B2 (S : gS) (d : gD) (o : Nat) (kb : Int32 → Int32 → Int32 → Option (Int32)) (v1 : Int32) (v2 : Int32) (v3 : Int32) : Option (Int32) :=
  kd S o 1 <|
  lt_ (dI d o 10) fun x2 =>
  if x2 ≤ v3 then (
    some (-1))
  else (
    lt_ (sP S o 9) fun x3 =>
    nn x3 fun a4 =>
    kd S a4 62 <|
    gi v3 (sN S a4) <|
    lt_ (sP S a4 v3.toNatClampNeg) fun x7 =>
    nn x7 fun a8 =>
    kd S a8 6 <|
    lt_ (dI d a8 0) fun x10 =>
    if x10 = v1 then (
      lt_ (sP S o 9) fun x11 =>
      nn x11 fun a12 =>
      kd S a12 62 <|
      gi v3 (sN S a12) <|
      lt_ (sP S a12 v3.toNatClampNeg) fun x15 =>
      nn x15 fun a16 =>
      kd S a16 6 <|
      lt_ (dI d a16 1) fun x18 =>
      if x18 = v2 then (
        some v3)
      else (
        f_M_standMadeFor_J38 S d o kb v1 v2 v3))
    else (
      f_M_standMadeFor_J38 S d o kb v1 v2 v3))
set_option maxRecDepth 100000 in
set_option maxHeartbeats 4000000 in
theorem w_M_standMadeFor_B2 {X : GX} (hE : gE X b_M_standMadeFor 4 "StandInMill" (some (.int)) "standMadeFor" 0 0) {S : gS} {d : gD} {o : Nat} {r : Int32} {kb : Int32 → Int32 → Int32 → Option (Int32)} (hkb : ∀ (v1 : Int32) (v2 : Int32) (v3 : Int32), kb v1 v2 v3 = some r → gw X 0 0 (gQ X (some (.int r)) S d 0 0) S d 2 [some (va_rf (some o)), some (.int v1), some (.int v2), some (.int v3)] []) :
    ∀ (v1 : Int32) (v2 : Int32) (v3 : Int32), f_M_standMadeFor_B2 S d o kb v1 v2 v3 = some r → gw X 0 0 (gQ X (some (.int r)) S d 0 0) S d 2 [some (va_rf (some o)), some (.int v1), some (.int v2), some (.int v3)] [] := by
  intro v1 v2 v3 h
  unfold f_M_standMadeFor_B2 at h
  refine g_iload_n (i := 3) hE d_M_standMadeFor_2 rfl rfl ?_
  refine g_aload_n (i := 0) hE d_M_standMadeFor_3 rfl rfl ?_
  obtain ⟨k1, h⟩ := kd_s h
  refine g_getI 10 hE kc_M k1 (Nat.le_of_ble_eq_true rfl) rfl m_111 d_M_standMadeFor_4 (fun x2 e => ?_)
  replace h := lt_i e h; clear e
  refine g_icmp_ge hE d_M_standMadeFor_7 (fun c21 => ?_) (fun c21 => ?_)
  · replace h := if_t c21 h
    refine g_iconst hE d_M_standMadeFor_44 ki_m1 ?_
    cases h
    exact g_iret hE d_M_standMadeFor_45 rfl rfl
  · replace h := if_f c21 h
    refine g_aload_n (i := 0) hE d_M_standMadeFor_10 rfl rfl ?_
    refine g_getR 9 hE kc_M k1 (Nat.le_of_ble_eq_true rfl) rfl m_50 d_M_standMadeFor_11 (fun x3 e => ?_)
    replace h := lt_i e h; clear e
    refine g_iload_n (i := 3) hE d_M_standMadeFor_14 rfl rfl ?_
    obtain ⟨a4, rfl, h⟩ := nn_s h
    obtain ⟨k5, h⟩ := kd_s h
    obtain ⟨g6, h⟩ := gi_s h
    refine g_aald hE k5 (by decide) rfl (fun _ => rfl) g6 d_M_standMadeFor_15 (fun x7 e => ?_)
    replace h := lt_i e h; clear e
    obtain ⟨a8, rfl, h⟩ := nn_s h
    obtain ⟨k9, h⟩ := kd_s h
    refine g_getIN 0 hE kc_Si k9 (Nat.le_of_ble_eq_true rfl) rfl nf_10 d_M_standMadeFor_16 (fun x10 e => ?_)
    replace h := lt_i e h; clear e
    refine g_iload_n (i := 1) hE d_M_standMadeFor_19 rfl rfl ?_
    refine g_icmp_ne hE d_M_standMadeFor_20 (fun c20 => ?_) (fun c20 => ?_)
    · replace h := if_f c20 h
      exact gw.less (lv' := [some (va_rf (some o)), some (.int v1), some (.int v2), some (.int v3)]) (And.intro rfl (And.intro rfl (And.intro rfl (And.intro rfl trivial)))) (w_M_standMadeFor_J38 hE hkb v1 v2 v3 h)
    · replace h := if_t c20 h
      refine g_aload_n (i := 0) hE d_M_standMadeFor_23 rfl rfl ?_
      refine g_getR 9 hE kc_M k1 (Nat.le_of_ble_eq_true rfl) rfl m_50 d_M_standMadeFor_24 (fun x11 e => ?_)
      replace h := lt_i e h; clear e
      refine g_iload_n (i := 3) hE d_M_standMadeFor_27 rfl rfl ?_
      obtain ⟨a12, rfl, h⟩ := nn_s h
      obtain ⟨k13, h⟩ := kd_s h
      obtain ⟨g14, h⟩ := gi_s h
      refine g_aald hE k13 (by decide) rfl (fun _ => rfl) g14 d_M_standMadeFor_28 (fun x15 e => ?_)
      replace h := lt_i e h; clear e
      obtain ⟨a16, rfl, h⟩ := nn_s h
      obtain ⟨k17, h⟩ := kd_s h
      refine g_getIN 1 hE kc_Si k17 (Nat.le_of_ble_eq_true rfl) rfl nf_11 d_M_standMadeFor_29 (fun x18 e => ?_)
      replace h := lt_i e h; clear e
      refine g_iload_n (i := 2) hE d_M_standMadeFor_32 rfl rfl ?_
      refine g_icmp_ne hE d_M_standMadeFor_33 (fun c19 => ?_) (fun c19 => ?_)
      · replace h := if_f c19 h
        exact gw.less (lv' := [some (va_rf (some o)), some (.int v1), some (.int v2), some (.int v3)]) (And.intro rfl (And.intro rfl (And.intro rfl (And.intro rfl trivial)))) (w_M_standMadeFor_J38 hE hkb v1 v2 v3 h)
      · replace h := if_t c19 h
        refine g_iload_n (i := 3) hE d_M_standMadeFor_36 rfl rfl ?_
        cases h
        exact g_iret hE d_M_standMadeFor_37 rfl rfl
theorem w_M_standMadeFor_L2 {X : GX} (hE : gE X b_M_standMadeFor 4 "StandInMill" (some (.int)) "standMadeFor" 0 0) {S : gS} {d : gD} {o : Nat} {r : Int32} : ∀ (n : Nat) (v1 : Int32) (v2 : Int32) (v3 : Int32), itr (f_M_standMadeFor_B2 S d o) (fun _ _ _ => none) n v1 v2 v3 = some r → gw X 0 0 (gQ X (some (.int r)) S d 0 0) S d 2 [some (va_rf (some o)), some (.int v1), some (.int v2), some (.int v3)] [] := by
  intro n
  induction n with
  | zero => intro v1 v2 v3 h; cases h
  | succ n ih => exact w_M_standMadeFor_B2 hE ih
set_option maxRecDepth 100000 in
def f_M_standMadeFor (S : gS) (d : gD) (o : Nat) (v1 : Int32) (v2 : Int32) : Option (Int32) :=
  itr (f_M_standMadeFor_B2 S d o) (fun _ _ _ => none) fu v1 v2 0
set_option maxRecDepth 100000 in
set_option maxHeartbeats 4000000 in
theorem c_M_standMadeFor (l : Launch) (G : gG) {S : gS} {d : gD} {o : Nat} {v1 : Int32} {v2 : Int32} {r : Int32} (h : f_M_standMadeFor S d o v1 v2 = some r) : GM l G y_M_standMadeFor b_M_standMadeFor 4 (some (.int)) 0 0 0 0 [.inr (.inr (some o)), .inl v1, .inl v2] S d (some (.int r)) S d := by
  refine GM.of (by decide) (Nat.le_of_ble_eq_true rfl) ?_
  intro X hl0 hG0 hR0 hE0
  have hE : gE X b_M_standMadeFor 4 "StandInMill" (some (.int)) "standMadeFor" 0 0 := hE0
  unfold f_M_standMadeFor at h
  refine gw.less (lv' := [some (va_rf (some o)), some (.int v1), some (.int v2), none]) (And.intro rfl (And.intro rfl (And.intro rfl trivial))) ?_
  refine g_iconst hE d_M_standMadeFor_0 ki_0 ?_
  refine g_istore_n (i := 3) (lv' := [some (va_rf (some o)), some (.int v1), some (.int v2), some (.int 0)]) hE d_M_standMadeFor_1 rfl (Nat.le_of_ble_eq_true rfl) ⟨rfl, Nat.le_of_ble_eq_true rfl⟩ (lvp_i rfl) ?_
  exact gw.less (lv' := [some (va_rf (some o)), some (.int v1), some (.int v2), some (.int 0)]) (And.intro rfl (And.intro rfl (And.intro rfl (And.intro rfl trivial)))) (w_M_standMadeFor_L2 hE fu v1 v2 0 h)
theorem d_M_areVisible_0 : dc b_M_areVisible 0 (.iconst 0) 1 1 := ⟨by decide +kernel, rfl⟩
theorem d_M_areVisible_1 : dc b_M_areVisible 1 (.istore_n 3) 1 2 := ⟨by decide +kernel, rfl⟩
theorem d_M_areVisible_2 : dc b_M_areVisible 2 (.iload_n 3) 1 3 := ⟨by decide +kernel, rfl⟩
theorem d_M_areVisible_3 : dc b_M_areVisible 3 (.iload_n 1) 1 4 := ⟨by decide +kernel, rfl⟩
theorem d_M_areVisible_4 : dc b_M_areVisible 4 (.invokestatic 308) 3 7 := ⟨by decide +kernel, rfl⟩
theorem d_M_areVisible_7 : db b_M_areVisible 7 (.if_icmp .ge 24) 24 31 10 := ⟨by decide +kernel, by decide, rfl⟩
theorem d_M_areVisible_10 : dc b_M_areVisible 10 (.aload_n 0) 1 11 := ⟨by decide +kernel, rfl⟩
theorem d_M_areVisible_11 : dc b_M_areVisible 11 (.iload_n 1) 1 12 := ⟨by decide +kernel, rfl⟩
theorem d_M_areVisible_12 : dc b_M_areVisible 12 (.iload_n 3) 1 13 := ⟨by decide +kernel, rfl⟩
theorem d_M_areVisible_13 : dc b_M_areVisible 13 (.invokestatic 274) 3 16 := ⟨by decide +kernel, rfl⟩
theorem d_M_areVisible_16 : dc b_M_areVisible 16 (.iload_n 2) 1 17 := ⟨by decide +kernel, rfl⟩
theorem d_M_areVisible_17 : dc b_M_areVisible 17 (.invokevirtual 127) 3 20 := ⟨by decide +kernel, rfl⟩
theorem d_M_areVisible_20 : db b_M_areVisible 20 (.ifCond .ne 5) 5 25 23 := ⟨by decide +kernel, by decide, rfl⟩
theorem d_M_areVisible_23 : dc b_M_areVisible 23 (.iconst 0) 1 24 := ⟨by decide +kernel, rfl⟩
theorem d_M_areVisible_24 : dc b_M_areVisible 24 (.ireturn) 1 25 := ⟨by decide +kernel, rfl⟩
theorem d_M_areVisible_25 : dc b_M_areVisible 25 (.iinc 3 1) 3 28 := ⟨by decide +kernel, rfl⟩
theorem d_M_areVisible_28 : db b_M_areVisible 28 (.goto (-26)) (-26) 2 31 := ⟨by decide +kernel, by decide, rfl⟩
theorem d_M_areVisible_31 : dc b_M_areVisible 31 (.iconst 1) 1 32 := ⟨by decide +kernel, rfl⟩
theorem d_M_areVisible_32 : dc b_M_areVisible 32 (.ireturn) 1 33 := ⟨by decide +kernel, rfl⟩
def f_M_areVisible_B2 (S : gS) (d : gD) (o : Nat) (kb : Int32 → Int32 → Int32 → Option (Int32)) (v1 : Int32) (v2 : Int32) (v3 : Int32) : Option (Int32) :=
  bd (f_M_lengthOf S d v1) fun x1 =>
  if x1 ≤ v3 then (
    some 1)
  else (
    bd (f_M_byteOf S d v1 v3) fun x3 =>
    kd S o 1 <|
    bd (f_M_isVisible S d o x3 v2) fun x6 =>
    if x6 = 0 then (
      some 0)
    else (
      kb v1 v2 (v3 + 1)))
set_option maxRecDepth 100000 in
set_option maxHeartbeats 4000000 in
theorem w_M_areVisible_B2 {X : GX} (hE : gE X b_M_areVisible 4 "StandInMill" (some (.boolean)) "areVisible" 3 74) {S : gS} {d : gD} {o : Nat} {r : Int32} {kb : Int32 → Int32 → Int32 → Option (Int32)} (hkb : ∀ (v1 : Int32) (v2 : Int32) (v3 : Int32), kb v1 v2 v3 = some r → gw X 0 0 (gQ X (some (.int r)) S d 0 0) S d 2 [some (va_rf (some o)), some (.int v1), some (.int v2), some (.int v3)] []) :
    ∀ (v1 : Int32) (v2 : Int32) (v3 : Int32), f_M_areVisible_B2 S d o kb v1 v2 v3 = some r → gw X 0 0 (gQ X (some (.int r)) S d 0 0) S d 2 [some (va_rf (some o)), some (.int v1), some (.int v2), some (.int v3)] [] := by
  intro v1 v2 v3 h
  unfold f_M_areVisible_B2 at h
  refine g_iload_n (i := 3) hE d_M_areVisible_2 rfl rfl ?_
  refine g_iload_n (i := 1) hE d_M_areVisible_3 rfl rfl ?_
  obtain ⟨x1, e2, h⟩ := bd_s h
  refine g_callS (av := [.inl v1]) (stk := [.int x1, .int v3]) [.int v3] hE (c_M_lengthOf (xl X) (xG X) e2) ky_M_lengthOf ⟨Nat.le_of_ble_eq_true rfl, Nat.le_of_ble_eq_true rfl⟩ m_134 m_135 rfl d_M_areVisible_4 rfl rfl (Nat.le_trans (ct_i ct_n) (Nat.le_of_ble_eq_true rfl)) (Nat.zero_le _) (Nat.zero_le _) ?_
  refine gw.cs (c2 := 0) (s2 := 0) rfl rfl ?_
  refine g_icmp_ge hE d_M_areVisible_7 (fun c9 => ?_) (fun c9 => ?_)
  · replace h := if_t c9 h
    refine g_iconst hE d_M_areVisible_31 ki_1 ?_
    cases h
    exact g_zret hE (Or.inr rfl) d_M_areVisible_32 rfl rfl
  · replace h := if_f c9 h
    refine g_aload_n (i := 0) hE d_M_areVisible_10 rfl rfl ?_
    refine g_iload_n (i := 1) hE d_M_areVisible_11 rfl rfl ?_
    refine g_iload_n (i := 3) hE d_M_areVisible_12 rfl rfl ?_
    obtain ⟨x3, e4, h⟩ := bd_s h
    refine g_callS (av := [.inl v1, .inl v3]) (stk := [.int x3, va_rf (some o)]) [va_rf (some o)] hE (c_M_byteOf (xl X) (xG X) e4) ky_M_byteOf ⟨Nat.le_of_ble_eq_true rfl, Nat.le_of_ble_eq_true rfl⟩ m_128 m_129 rfl d_M_areVisible_13 rfl rfl (Nat.le_trans (ct_r ct_n) (Nat.le_of_ble_eq_true rfl)) (Nat.zero_le _) (Nat.zero_le _) ?_
    refine gw.cs (c2 := 0) (s2 := 0) rfl rfl ?_
    refine g_iload_n (i := 2) hE d_M_areVisible_16 rfl rfl ?_
    obtain ⟨k5, h⟩ := kd_s h
    obtain ⟨x6, e7, h⟩ := bd_s h
    refine g_callV (av := [.inr (.inr (some o)), .inl x3, .inl v2]) (as := [.inl x3, .inl v2]) (stk := [.int x6]) [] hE (c_M_isVisible (xl X) (xG X) e7) ky_M_isVisible ⟨Nat.le_of_ble_eq_true rfl, Nat.le_of_ble_eq_true rfl⟩ rfl kc_M k5 m_118 m_119 m_120 rfl d_M_areVisible_17 rfl rfl ct_0 (Nat.zero_le _) (Nat.zero_le _) ?_
    refine gw.cs (c2 := 0) (s2 := 0) rfl rfl ?_
    refine g_if_ne hE d_M_areVisible_20 (fun c8 => ?_) (fun c8 => ?_)
    · replace h := if_f c8 h
      refine g_iinc (i := 3) (lv' := [some (va_rf (some o)), some (.int v1), some (.int v2), some (.int (v3 + 1))]) hE d_M_areVisible_25 ki_1 rfl (Nat.le_of_ble_eq_true rfl) ⟨rfl, Nat.le_of_ble_eq_true rfl⟩ (lvp_i rfl) ?_
      refine g_goto hE d_M_areVisible_28 ?_
      exact gw.less (lv' := [some (va_rf (some o)), some (.int v1), some (.int v2), some (.int (v3 + 1))]) (And.intro rfl (And.intro rfl (And.intro rfl (And.intro rfl trivial)))) (hkb v1 v2 (v3 + 1) h)
    · replace h := if_t c8 h
      refine g_iconst hE d_M_areVisible_23 ki_0 ?_
      cases h
      exact g_zret hE (Or.inl rfl) d_M_areVisible_24 rfl rfl
theorem w_M_areVisible_L2 {X : GX} (hE : gE X b_M_areVisible 4 "StandInMill" (some (.boolean)) "areVisible" 3 74) {S : gS} {d : gD} {o : Nat} {r : Int32} : ∀ (n : Nat) (v1 : Int32) (v2 : Int32) (v3 : Int32), itr (f_M_areVisible_B2 S d o) (fun _ _ _ => none) n v1 v2 v3 = some r → gw X 0 0 (gQ X (some (.int r)) S d 0 0) S d 2 [some (va_rf (some o)), some (.int v1), some (.int v2), some (.int v3)] [] := by
  intro n
  induction n with
  | zero => intro v1 v2 v3 h; cases h
  | succ n ih => exact w_M_areVisible_B2 hE ih
set_option maxRecDepth 100000 in
def f_M_areVisible (S : gS) (d : gD) (o : Nat) (v1 : Int32) (v2 : Int32) : Option (Int32) :=
  itr (f_M_areVisible_B2 S d o) (fun _ _ _ => none) fu v1 v2 0
set_option maxRecDepth 100000 in
set_option maxHeartbeats 4000000 in
theorem c_M_areVisible (l : Launch) (G : gG) {S : gS} {d : gD} {o : Nat} {v1 : Int32} {v2 : Int32} {r : Int32} (h : f_M_areVisible S d o v1 v2 = some r) : GM l G y_M_areVisible b_M_areVisible 4 (some (.boolean)) 3 74 0 0 [.inr (.inr (some o)), .inl v1, .inl v2] S d (some (.int r)) S d := by
  refine GM.of (by decide) (Nat.le_of_ble_eq_true rfl) ?_
  intro X hl0 hG0 hR0 hE0
  have hE : gE X b_M_areVisible 4 "StandInMill" (some (.boolean)) "areVisible" 3 74 := hE0
  unfold f_M_areVisible at h
  refine gw.less (lv' := [some (va_rf (some o)), some (.int v1), some (.int v2), none]) (And.intro rfl (And.intro rfl (And.intro rfl trivial))) ?_
  refine g_iconst hE d_M_areVisible_0 ki_0 ?_
  refine g_istore_n (i := 3) (lv' := [some (va_rf (some o)), some (.int v1), some (.int v2), some (.int 0)]) hE d_M_areVisible_1 rfl (Nat.le_of_ble_eq_true rfl) ⟨rfl, Nat.le_of_ble_eq_true rfl⟩ (lvp_i rfl) ?_
  exact gw.less (lv' := [some (va_rf (some o)), some (.int v1), some (.int v2), some (.int 0)]) (And.intro rfl (And.intro rfl (And.intro rfl (And.intro rfl trivial)))) (w_M_areVisible_L2 hE fu v1 v2 0 h)
theorem d_M_hasTwice_0 : dc b_M_hasTwice 0 (.iconst 0) 1 1 := ⟨by decide +kernel, rfl⟩
theorem d_M_hasTwice_1 : dc b_M_hasTwice 1 (.istore_n 1) 1 2 := ⟨by decide +kernel, rfl⟩
theorem d_M_hasTwice_2 : dc b_M_hasTwice 2 (.iload_n 1) 1 3 := ⟨by decide +kernel, rfl⟩
theorem d_M_hasTwice_3 : dc b_M_hasTwice 3 (.iload_n 0) 1 4 := ⟨by decide +kernel, rfl⟩
theorem d_M_hasTwice_4 : dc b_M_hasTwice 4 (.invokestatic 308) 3 7 := ⟨by decide +kernel, rfl⟩
theorem d_M_hasTwice_7 : db b_M_hasTwice 7 (.if_icmp .ge 37) 37 44 10 := ⟨by decide +kernel, by decide, rfl⟩
theorem d_M_hasTwice_10 : dc b_M_hasTwice 10 (.iconst 0) 1 11 := ⟨by decide +kernel, rfl⟩
theorem d_M_hasTwice_11 : dc b_M_hasTwice 11 (.istore_n 2) 1 12 := ⟨by decide +kernel, rfl⟩
theorem d_M_hasTwice_12 : dc b_M_hasTwice 12 (.iload_n 2) 1 13 := ⟨by decide +kernel, rfl⟩
theorem d_M_hasTwice_13 : dc b_M_hasTwice 13 (.iload_n 1) 1 14 := ⟨by decide +kernel, rfl⟩
theorem d_M_hasTwice_14 : db b_M_hasTwice 14 (.if_icmp .ge 24) 24 38 17 := ⟨by decide +kernel, by decide, rfl⟩
theorem d_M_hasTwice_17 : dc b_M_hasTwice 17 (.iload_n 0) 1 18 := ⟨by decide +kernel, rfl⟩
theorem d_M_hasTwice_18 : dc b_M_hasTwice 18 (.iload_n 2) 1 19 := ⟨by decide +kernel, rfl⟩
theorem d_M_hasTwice_19 : dc b_M_hasTwice 19 (.invokestatic 274) 3 22 := ⟨by decide +kernel, rfl⟩
theorem d_M_hasTwice_22 : dc b_M_hasTwice 22 (.iload_n 0) 1 23 := ⟨by decide +kernel, rfl⟩
theorem d_M_hasTwice_23 : dc b_M_hasTwice 23 (.iload_n 1) 1 24 := ⟨by decide +kernel, rfl⟩
theorem d_M_hasTwice_24 : dc b_M_hasTwice 24 (.invokestatic 274) 3 27 := ⟨by decide +kernel, rfl⟩
theorem d_M_hasTwice_27 : db b_M_hasTwice 27 (.if_icmp .ne 5) 5 32 30 := ⟨by decide +kernel, by decide, rfl⟩
theorem d_M_hasTwice_30 : dc b_M_hasTwice 30 (.iconst 1) 1 31 := ⟨by decide +kernel, rfl⟩
theorem d_M_hasTwice_31 : dc b_M_hasTwice 31 (.ireturn) 1 32 := ⟨by decide +kernel, rfl⟩
theorem d_M_hasTwice_32 : dc b_M_hasTwice 32 (.iinc 2 1) 3 35 := ⟨by decide +kernel, rfl⟩
theorem d_M_hasTwice_35 : db b_M_hasTwice 35 (.goto (-23)) (-23) 12 38 := ⟨by decide +kernel, by decide, rfl⟩
theorem d_M_hasTwice_38 : dc b_M_hasTwice 38 (.iinc 1 1) 3 41 := ⟨by decide +kernel, rfl⟩
theorem d_M_hasTwice_41 : db b_M_hasTwice 41 (.goto (-39)) (-39) 2 44 := ⟨by decide +kernel, by decide, rfl⟩
theorem d_M_hasTwice_44 : dc b_M_hasTwice 44 (.iconst 0) 1 45 := ⟨by decide +kernel, rfl⟩
theorem d_M_hasTwice_45 : dc b_M_hasTwice 45 (.ireturn) 1 46 := ⟨by decide +kernel, rfl⟩
def f_M_hasTwice_B12 (S : gS) (d : gD) (kx38 : Int32 → Int32 → Option (Int32)) (kb : Int32 → Int32 → Int32 → Option (Int32)) (v0 : Int32) (v1 : Int32) (v2 : Int32) : Option (Int32) :=
  if v1 ≤ v2 then (
    kx38 v0 v1)
  else (
    bd (f_M_byteOf S d v0 v2) fun x1 =>
    bd (f_M_byteOf S d v0 v1) fun x3 =>
    if x1 = x3 then (
      some 1)
    else (
      kb v0 v1 (v2 + 1)))
set_option maxRecDepth 100000 in
set_option maxHeartbeats 4000000 in
theorem w_M_hasTwice_B12 {X : GX} (hE : gE X b_M_hasTwice 3 "StandInMill" (some (.boolean)) "hasTwice" 2 42) {S : gS} {d : gD} {r : Int32} {kb : Int32 → Int32 → Int32 → Option (Int32)} {kx38 : Int32 → Int32 → Option (Int32)} (hkb : ∀ (v0 : Int32) (v1 : Int32) (v2 : Int32), kb v0 v1 v2 = some r → gw X 0 0 (gQ X (some (.int r)) S d 0 0) S d 12 [some (.int v0), some (.int v1), some (.int v2)] []) (hkx38 : ∀ (v0 : Int32) (v1 : Int32), kx38 v0 v1 = some r → gw X 0 0 (gQ X (some (.int r)) S d 0 0) S d 38 [some (.int v0), some (.int v1), none] []) :
    ∀ (v0 : Int32) (v1 : Int32) (v2 : Int32), f_M_hasTwice_B12 S d kx38 kb v0 v1 v2 = some r → gw X 0 0 (gQ X (some (.int r)) S d 0 0) S d 12 [some (.int v0), some (.int v1), some (.int v2)] [] := by
  intro v0 v1 v2 h
  unfold f_M_hasTwice_B12 at h
  refine g_iload_n (i := 2) hE d_M_hasTwice_12 rfl rfl ?_
  refine g_iload_n (i := 1) hE d_M_hasTwice_13 rfl rfl ?_
  refine g_icmp_ge hE d_M_hasTwice_14 (fun c6 => ?_) (fun c6 => ?_)
  · replace h := if_t c6 h
    exact gw.less (lv' := [some (.int v0), some (.int v1), none]) (And.intro rfl (And.intro rfl trivial)) (hkx38 v0 v1 h)
  · replace h := if_f c6 h
    refine g_iload_n (i := 0) hE d_M_hasTwice_17 rfl rfl ?_
    refine g_iload_n (i := 2) hE d_M_hasTwice_18 rfl rfl ?_
    obtain ⟨x1, e2, h⟩ := bd_s h
    refine g_callS (av := [.inl v0, .inl v2]) (stk := [.int x1]) [] hE (c_M_byteOf (xl X) (xG X) e2) ky_M_byteOf ⟨Nat.le_of_ble_eq_true rfl, Nat.le_of_ble_eq_true rfl⟩ m_128 m_129 rfl d_M_hasTwice_19 rfl rfl ct_0 (Nat.zero_le _) (Nat.zero_le _) ?_
    refine gw.cs (c2 := 0) (s2 := 0) rfl rfl ?_
    refine g_iload_n (i := 0) hE d_M_hasTwice_22 rfl rfl ?_
    refine g_iload_n (i := 1) hE d_M_hasTwice_23 rfl rfl ?_
    obtain ⟨x3, e4, h⟩ := bd_s h
    refine g_callS (av := [.inl v0, .inl v1]) (stk := [.int x3, .int x1]) [.int x1] hE (c_M_byteOf (xl X) (xG X) e4) ky_M_byteOf ⟨Nat.le_of_ble_eq_true rfl, Nat.le_of_ble_eq_true rfl⟩ m_128 m_129 rfl d_M_hasTwice_24 rfl rfl (Nat.le_trans (ct_i ct_n) (Nat.le_of_ble_eq_true rfl)) (Nat.zero_le _) (Nat.zero_le _) ?_
    refine gw.cs (c2 := 0) (s2 := 0) rfl rfl ?_
    refine g_icmp_ne hE d_M_hasTwice_27 (fun c5 => ?_) (fun c5 => ?_)
    · replace h := if_f c5 h
      refine g_iinc (i := 2) (lv' := [some (.int v0), some (.int v1), some (.int (v2 + 1))]) hE d_M_hasTwice_32 ki_1 rfl (Nat.le_of_ble_eq_true rfl) ⟨rfl, Nat.le_of_ble_eq_true rfl⟩ (lvp_i rfl) ?_
      refine g_goto hE d_M_hasTwice_35 ?_
      exact gw.less (lv' := [some (.int v0), some (.int v1), some (.int (v2 + 1))]) (And.intro rfl (And.intro rfl (And.intro rfl trivial))) (hkb v0 v1 (v2 + 1) h)
    · replace h := if_t c5 h
      refine g_iconst hE d_M_hasTwice_30 ki_1 ?_
      cases h
      exact g_zret hE (Or.inr rfl) d_M_hasTwice_31 rfl rfl
theorem w_M_hasTwice_L12 {X : GX} (hE : gE X b_M_hasTwice 3 "StandInMill" (some (.boolean)) "hasTwice" 2 42) {S : gS} {d : gD} {r : Int32} {kx38 : Int32 → Int32 → Option (Int32)} (hkx38 : ∀ (v0 : Int32) (v1 : Int32), kx38 v0 v1 = some r → gw X 0 0 (gQ X (some (.int r)) S d 0 0) S d 38 [some (.int v0), some (.int v1), none] []) : ∀ (n : Nat) (v0 : Int32) (v1 : Int32) (v2 : Int32), itr (f_M_hasTwice_B12 S d kx38) (fun _ _ _ => none) n v0 v1 v2 = some r → gw X 0 0 (gQ X (some (.int r)) S d 0 0) S d 12 [some (.int v0), some (.int v1), some (.int v2)] [] := by
  intro n
  induction n with
  | zero => intro v0 v1 v2 h; cases h
  | succ n ih => exact w_M_hasTwice_B12 hE ih hkx38
def f_M_hasTwice_J38 (S : gS) (d : gD) (kb : Int32 → Int32 → Option (Int32)) (v0 : Int32) (v1 : Int32) : Option (Int32) :=
  kb v0 (v1 + 1)
set_option maxRecDepth 100000 in
set_option maxHeartbeats 4000000 in
theorem w_M_hasTwice_J38 {X : GX} (hE : gE X b_M_hasTwice 3 "StandInMill" (some (.boolean)) "hasTwice" 2 42) {S : gS} {d : gD} {r : Int32} {kb : Int32 → Int32 → Option (Int32)} (hkb : ∀ (v0 : Int32) (v1 : Int32), kb v0 v1 = some r → gw X 0 0 (gQ X (some (.int r)) S d 0 0) S d 2 [some (.int v0), some (.int v1), none] []) :
    ∀ (v0 : Int32) (v1 : Int32), f_M_hasTwice_J38 S d kb v0 v1 = some r → gw X 0 0 (gQ X (some (.int r)) S d 0 0) S d 38 [some (.int v0), some (.int v1), none] [] := by
  intro v0 v1 h
  unfold f_M_hasTwice_J38 at h
  refine g_iinc (i := 1) (lv' := [some (.int v0), some (.int (v1 + 1)), none]) hE d_M_hasTwice_38 ki_1 rfl (Nat.le_of_ble_eq_true rfl) ⟨rfl, Nat.le_of_ble_eq_true rfl⟩ (lvp_i rfl) ?_
  refine g_goto hE d_M_hasTwice_41 ?_
  exact gw.less (lv' := [some (.int v0), some (.int (v1 + 1)), none]) (And.intro rfl (And.intro rfl trivial)) (hkb v0 (v1 + 1) h)
def f_M_hasTwice_B2 (S : gS) (d : gD) (kb : Int32 → Int32 → Option (Int32)) (v0 : Int32) (v1 : Int32) : Option (Int32) :=
  bd (f_M_lengthOf S d v0) fun x1 =>
  if x1 ≤ v1 then (
    some 0)
  else (
    itr (f_M_hasTwice_B12 S d (f_M_hasTwice_J38 S d kb)) (fun _ _ _ => none) fu v0 v1 0)
set_option maxRecDepth 100000 in
set_option maxHeartbeats 4000000 in
theorem w_M_hasTwice_B2 {X : GX} (hE : gE X b_M_hasTwice 3 "StandInMill" (some (.boolean)) "hasTwice" 2 42) {S : gS} {d : gD} {r : Int32} {kb : Int32 → Int32 → Option (Int32)} (hkb : ∀ (v0 : Int32) (v1 : Int32), kb v0 v1 = some r → gw X 0 0 (gQ X (some (.int r)) S d 0 0) S d 2 [some (.int v0), some (.int v1), none] []) :
    ∀ (v0 : Int32) (v1 : Int32), f_M_hasTwice_B2 S d kb v0 v1 = some r → gw X 0 0 (gQ X (some (.int r)) S d 0 0) S d 2 [some (.int v0), some (.int v1), none] [] := by
  intro v0 v1 h
  unfold f_M_hasTwice_B2 at h
  refine g_iload_n (i := 1) hE d_M_hasTwice_2 rfl rfl ?_
  refine g_iload_n (i := 0) hE d_M_hasTwice_3 rfl rfl ?_
  obtain ⟨x1, e2, h⟩ := bd_s h
  refine g_callS (av := [.inl v0]) (stk := [.int x1, .int v1]) [.int v1] hE (c_M_lengthOf (xl X) (xG X) e2) ky_M_lengthOf ⟨Nat.le_of_ble_eq_true rfl, Nat.le_of_ble_eq_true rfl⟩ m_134 m_135 rfl d_M_hasTwice_4 rfl rfl (Nat.le_trans (ct_i ct_n) (Nat.le_of_ble_eq_true rfl)) (Nat.zero_le _) (Nat.zero_le _) ?_
  refine gw.cs (c2 := 0) (s2 := 0) rfl rfl ?_
  refine g_icmp_ge hE d_M_hasTwice_7 (fun c3 => ?_) (fun c3 => ?_)
  · replace h := if_t c3 h
    refine g_iconst hE d_M_hasTwice_44 ki_0 ?_
    cases h
    exact g_zret hE (Or.inl rfl) d_M_hasTwice_45 rfl rfl
  · replace h := if_f c3 h
    refine g_iconst hE d_M_hasTwice_10 ki_0 ?_
    refine g_istore_n (i := 2) (lv' := [some (.int v0), some (.int v1), some (.int 0)]) hE d_M_hasTwice_11 rfl (Nat.le_of_ble_eq_true rfl) ⟨rfl, Nat.le_of_ble_eq_true rfl⟩ (lvp_i rfl) ?_
    exact gw.less (lv' := [some (.int v0), some (.int v1), some (.int 0)]) (And.intro rfl (And.intro rfl (And.intro rfl trivial))) (w_M_hasTwice_L12 hE (w_M_hasTwice_J38 hE hkb) fu v0 v1 0 h)
theorem w_M_hasTwice_L2 {X : GX} (hE : gE X b_M_hasTwice 3 "StandInMill" (some (.boolean)) "hasTwice" 2 42) {S : gS} {d : gD} {r : Int32} : ∀ (n : Nat) (v0 : Int32) (v1 : Int32), itr (f_M_hasTwice_B2 S d) (fun _ _ => none) n v0 v1 = some r → gw X 0 0 (gQ X (some (.int r)) S d 0 0) S d 2 [some (.int v0), some (.int v1), none] [] := by
  intro n
  induction n with
  | zero => intro v0 v1 h; cases h
  | succ n ih => exact w_M_hasTwice_B2 hE ih
set_option maxRecDepth 100000 in
def f_M_hasTwice (S : gS) (d : gD) (v0 : Int32) : Option (Int32) :=
  itr (f_M_hasTwice_B2 S d) (fun _ _ => none) fu v0 0
set_option maxRecDepth 100000 in
set_option maxHeartbeats 4000000 in
theorem c_M_hasTwice (l : Launch) (G : gG) {S : gS} {d : gD} {v0 : Int32} {r : Int32} (h : f_M_hasTwice S d v0 = some r) : GM l G y_M_hasTwice b_M_hasTwice 3 (some (.boolean)) 2 42 0 0 [.inl v0] S d (some (.int r)) S d := by
  refine GM.of (by decide) (Nat.le_of_ble_eq_true rfl) ?_
  intro X hl0 hG0 hR0 hE0
  have hE : gE X b_M_hasTwice 3 "StandInMill" (some (.boolean)) "hasTwice" 2 42 := hE0
  unfold f_M_hasTwice at h
  refine gw.less (lv' := [some (.int v0), none, none]) (And.intro rfl trivial) ?_
  refine g_iconst hE d_M_hasTwice_0 ki_0 ?_
  refine g_istore_n (i := 1) (lv' := [some (.int v0), some (.int 0), none]) hE d_M_hasTwice_1 rfl (Nat.le_of_ble_eq_true rfl) ⟨rfl, Nat.le_of_ble_eq_true rfl⟩ (lvp_i rfl) ?_
  exact gw.less (lv' := [some (.int v0), some (.int 0), none]) (And.intro rfl (And.intro rfl trivial)) (w_M_hasTwice_L2 hE fu v0 0 h)
theorem d_M_packageOf_0 : dc b_M_packageOf 0 (.iconst 0) 1 1 := ⟨by decide +kernel, rfl⟩
theorem d_M_packageOf_1 : dc b_M_packageOf 1 (.istore_n 2) 1 2 := ⟨by decide +kernel, rfl⟩
theorem d_M_packageOf_2 : dc b_M_packageOf 2 (.iload_n 2) 1 3 := ⟨by decide +kernel, rfl⟩
theorem d_M_packageOf_3 : dc b_M_packageOf 3 (.iload_n 1) 1 4 := ⟨by decide +kernel, rfl⟩
theorem d_M_packageOf_4 : dc b_M_packageOf 4 (.invokestatic 308) 3 7 := ⟨by decide +kernel, rfl⟩
theorem d_M_packageOf_7 : db b_M_packageOf 7 (.if_icmp .ge 35) 35 42 10 := ⟨by decide +kernel, by decide, rfl⟩
theorem d_M_packageOf_10 : dc b_M_packageOf 10 (.aload_n 0) 1 11 := ⟨by decide +kernel, rfl⟩
theorem d_M_packageOf_11 : dc b_M_packageOf 11 (.getfield 22) 3 14 := ⟨by decide +kernel, rfl⟩
theorem d_M_packageOf_14 : dc b_M_packageOf 14 (.iload_n 1) 1 15 := ⟨by decide +kernel, rfl⟩
theorem d_M_packageOf_15 : dc b_M_packageOf 15 (.iload_n 2) 1 16 := ⟨by decide +kernel, rfl⟩
theorem d_M_packageOf_16 : dc b_M_packageOf 16 (.invokestatic 274) 3 19 := ⟨by decide +kernel, rfl⟩
theorem d_M_packageOf_19 : dc b_M_packageOf 19 (.bipush 24) 2 21 := ⟨by decide +kernel, rfl⟩
theorem d_M_packageOf_21 : dc b_M_packageOf 21 (.isub) 1 22 := ⟨by decide +kernel, rfl⟩
theorem d_M_packageOf_22 : dc b_M_packageOf 22 (.aaload) 1 23 := ⟨by decide +kernel, rfl⟩
theorem d_M_packageOf_23 : dc b_M_packageOf 23 (.astore_n 3) 1 24 := ⟨by decide +kernel, rfl⟩
theorem d_M_packageOf_24 : dc b_M_packageOf 24 (.aload_n 3) 1 25 := ⟨by decide +kernel, rfl⟩
theorem d_M_packageOf_25 : dc b_M_packageOf 25 (.getfield 336) 3 28 := ⟨by decide +kernel, rfl⟩
theorem d_M_packageOf_28 : db b_M_packageOf 28 (.ifCond .ne 8) 8 36 31 := ⟨by decide +kernel, by decide, rfl⟩
theorem d_M_packageOf_31 : dc b_M_packageOf 31 (.aload_n 3) 1 32 := ⟨by decide +kernel, rfl⟩
theorem d_M_packageOf_32 : dc b_M_packageOf 32 (.getfield 315) 3 35 := ⟨by decide +kernel, rfl⟩
theorem d_M_packageOf_35 : dc b_M_packageOf 35 (.ireturn) 1 36 := ⟨by decide +kernel, rfl⟩
theorem d_M_packageOf_36 : dc b_M_packageOf 36 (.iinc 2 1) 3 39 := ⟨by decide +kernel, rfl⟩
theorem d_M_packageOf_39 : db b_M_packageOf 39 (.goto (-37)) (-37) 2 42 := ⟨by decide +kernel, by decide, rfl⟩
theorem d_M_packageOf_42 : dc b_M_packageOf 42 (.iconst 4) 1 43 := ⟨by decide +kernel, rfl⟩
theorem d_M_packageOf_43 : dc b_M_packageOf 43 (.ireturn) 1 44 := ⟨by decide +kernel, rfl⟩
def f_M_packageOf_B2 (S : gS) (d : gD) (o : Nat) (kx31 : Option Nat → Option (Int32)) (kb : Int32 → Int32 → Option (Int32)) (v1 : Int32) (v2 : Int32) : Option (Int32) :=
  bd (f_M_lengthOf S d v1) fun x1 =>
  if x1 ≤ v2 then (
    some 4)
  else (
    kd S o 1 <|
    lt_ (sP S o 3) fun x4 =>
    bd (f_M_byteOf S d v1 v2) fun x5 =>
    nn x4 fun a7 =>
    kd S a7 60 <|
    gi (x5 - 24) (sN S a7) <|
    lt_ (sP S a7 (x5 - 24 : Int32).toNatClampNeg) fun x10 =>
    nn x10 fun a11 =>
    kd S a11 4 <|
    lt_ (dI d a11 3) fun x13 =>
    if x13 = 0 then (
      kx31 (some a11))
    else (
      kb v1 (v2 + 1)))
set_option maxRecDepth 100000 in
set_option maxHeartbeats 4000000 in
theorem w_M_packageOf_B2 {X : GX} (hE : gE X b_M_packageOf 4 "StandInMill" (some (.int)) "packageOf" 2 42) {S : gS} {d : gD} {o : Nat} {r : Int32} {kb : Int32 → Int32 → Option (Int32)} {kx31 : Option Nat → Option (Int32)} (hkb : ∀ (v1 : Int32) (v2 : Int32), kb v1 v2 = some r → gw X 0 0 (gQ X (some (.int r)) S d 0 0) S d 2 [some (va_rf (some o)), some (.int v1), some (.int v2), none] []) (hkx31 : ∀ (v3 : Option Nat), kx31 v3 = some r → gw X 0 0 (gQ X (some (.int r)) S d 0 0) S d 31 [some (va_rf (some o)), none, none, some (va_rf v3)] []) :
    ∀ (v1 : Int32) (v2 : Int32), f_M_packageOf_B2 S d o kx31 kb v1 v2 = some r → gw X 0 0 (gQ X (some (.int r)) S d 0 0) S d 2 [some (va_rf (some o)), some (.int v1), some (.int v2), none] [] := by
  intro v1 v2 h
  unfold f_M_packageOf_B2 at h
  refine g_iload_n (i := 2) hE d_M_packageOf_2 rfl rfl ?_
  refine g_iload_n (i := 1) hE d_M_packageOf_3 rfl rfl ?_
  obtain ⟨x1, e2, h⟩ := bd_s h
  refine g_callS (av := [.inl v1]) (stk := [.int x1, .int v2]) [.int v2] hE (c_M_lengthOf (xl X) (xG X) e2) ky_M_lengthOf ⟨Nat.le_of_ble_eq_true rfl, Nat.le_of_ble_eq_true rfl⟩ m_134 m_135 rfl d_M_packageOf_4 rfl rfl (Nat.le_trans (ct_i ct_n) (Nat.le_of_ble_eq_true rfl)) (Nat.zero_le _) (Nat.zero_le _) ?_
  refine gw.cs (c2 := 0) (s2 := 0) rfl rfl ?_
  refine g_icmp_ge hE d_M_packageOf_7 (fun c15 => ?_) (fun c15 => ?_)
  · replace h := if_t c15 h
    refine g_iconst hE d_M_packageOf_42 ki_4 ?_
    cases h
    exact g_iret hE d_M_packageOf_43 rfl rfl
  · replace h := if_f c15 h
    refine g_aload_n (i := 0) hE d_M_packageOf_10 rfl rfl ?_
    obtain ⟨k3, h⟩ := kd_s h
    refine g_getR 3 hE kc_M k3 (Nat.le_of_ble_eq_true rfl) rfl m_44 d_M_packageOf_11 (fun x4 e => ?_)
    replace h := lt_i e h; clear e
    refine g_iload_n (i := 1) hE d_M_packageOf_14 rfl rfl ?_
    refine g_iload_n (i := 2) hE d_M_packageOf_15 rfl rfl ?_
    obtain ⟨x5, e6, h⟩ := bd_s h
    refine g_callS (av := [.inl v1, .inl v2]) (stk := [.int x5, va_rf x4]) [va_rf x4] hE (c_M_byteOf (xl X) (xG X) e6) ky_M_byteOf ⟨Nat.le_of_ble_eq_true rfl, Nat.le_of_ble_eq_true rfl⟩ m_128 m_129 rfl d_M_packageOf_16 rfl rfl (Nat.le_trans (ct_r ct_n) (Nat.le_of_ble_eq_true rfl)) (Nat.zero_le _) (Nat.zero_le _) ?_
    refine gw.cs (c2 := 0) (s2 := 0) rfl rfl ?_
    refine g_bipush hE d_M_packageOf_19 kb_24 ?_
    refine g_isub hE d_M_packageOf_21 ?_
    obtain ⟨a7, rfl, h⟩ := nn_s h
    obtain ⟨k8, h⟩ := kd_s h
    obtain ⟨g9, h⟩ := gi_s h
    refine g_aald hE k8 (by decide) rfl (fun _ => rfl) g9 d_M_packageOf_22 (fun x10 e => ?_)
    replace h := lt_i e h; clear e
    refine g_astore_n (i := 3) (lv' := [some (va_rf (some o)), some (.int v1), some (.int v2), some (va_rf x10)]) hE d_M_packageOf_23 rfl (Nat.le_of_ble_eq_true rfl) ⟨rfl, Nat.le_of_ble_eq_true rfl⟩ (lvp_i rfl) ?_
    refine g_aload_n (i := 3) hE d_M_packageOf_24 rfl rfl ?_
    obtain ⟨a11, rfl, h⟩ := nn_s h
    obtain ⟨k12, h⟩ := kd_s h
    refine g_getIN 3 hE kc_Fc k12 (Nat.le_of_ble_eq_true rfl) rfl nf_12 d_M_packageOf_25 (fun x13 e => ?_)
    replace h := lt_i e h; clear e
    refine g_if_ne hE d_M_packageOf_28 (fun c14 => ?_) (fun c14 => ?_)
    · replace h := if_f c14 h
      refine g_iinc (i := 2) (lv' := [some (va_rf (some o)), some (.int v1), some (.int (v2 + 1)), some (va_rf (some a11))]) hE d_M_packageOf_36 ki_1 rfl (Nat.le_of_ble_eq_true rfl) ⟨rfl, Nat.le_of_ble_eq_true rfl⟩ (lvp_i rfl) ?_
      refine g_goto hE d_M_packageOf_39 ?_
      exact gw.less (lv' := [some (va_rf (some o)), some (.int v1), some (.int (v2 + 1)), none]) (And.intro rfl (And.intro rfl (And.intro rfl trivial))) (hkb v1 (v2 + 1) h)
    · replace h := if_t c14 h
      exact gw.less (lv' := [some (va_rf (some o)), none, none, some (va_rf (some a11))]) (And.intro rfl (And.intro rfl trivial)) (hkx31 (some a11) h)
theorem w_M_packageOf_L2 {X : GX} (hE : gE X b_M_packageOf 4 "StandInMill" (some (.int)) "packageOf" 2 42) {S : gS} {d : gD} {o : Nat} {r : Int32} {kx31 : Option Nat → Option (Int32)} (hkx31 : ∀ (v3 : Option Nat), kx31 v3 = some r → gw X 0 0 (gQ X (some (.int r)) S d 0 0) S d 31 [some (va_rf (some o)), none, none, some (va_rf v3)] []) : ∀ (n : Nat) (v1 : Int32) (v2 : Int32), itr (f_M_packageOf_B2 S d o kx31) (fun _ _ => none) n v1 v2 = some r → gw X 0 0 (gQ X (some (.int r)) S d 0 0) S d 2 [some (va_rf (some o)), some (.int v1), some (.int v2), none] [] := by
  intro n
  induction n with
  | zero => intro v1 v2 h; cases h
  | succ n ih => exact w_M_packageOf_B2 hE ih hkx31
def f_M_packageOf_J31 (S : gS) (d : gD) (o : Nat) (v3 : Option Nat) : Option (Int32) :=
  nn v3 fun a1 =>
  kd S a1 4 <|
  lt_ (dI d a1 2) fun x3 =>
  some x3
set_option maxRecDepth 100000 in
set_option maxHeartbeats 4000000 in
theorem w_M_packageOf_J31 {X : GX} (hE : gE X b_M_packageOf 4 "StandInMill" (some (.int)) "packageOf" 2 42) {S : gS} {d : gD} {o : Nat} {r : Int32} :
    ∀ (v3 : Option Nat), f_M_packageOf_J31 S d o v3 = some r → gw X 0 0 (gQ X (some (.int r)) S d 0 0) S d 31 [some (va_rf (some o)), none, none, some (va_rf v3)] [] := by
  intro v3 h
  unfold f_M_packageOf_J31 at h
  refine g_aload_n (i := 3) hE d_M_packageOf_31 rfl rfl ?_
  obtain ⟨a1, rfl, h⟩ := nn_s h
  obtain ⟨k2, h⟩ := kd_s h
  refine g_getIN 2 hE kc_Fc k2 (Nat.le_of_ble_eq_true rfl) rfl nf_2 d_M_packageOf_32 (fun x3 e => ?_)
  replace h := lt_i e h; clear e
  cases h
  exact g_iret hE d_M_packageOf_35 rfl rfl
set_option maxRecDepth 100000 in
def f_M_packageOf (S : gS) (d : gD) (o : Nat) (v1 : Int32) : Option (Int32) :=
  itr (f_M_packageOf_B2 S d o (f_M_packageOf_J31 S d o)) (fun _ _ => none) fu v1 0
set_option maxRecDepth 100000 in
set_option maxHeartbeats 4000000 in
theorem c_M_packageOf (l : Launch) (G : gG) {S : gS} {d : gD} {o : Nat} {v1 : Int32} {r : Int32} (h : f_M_packageOf S d o v1 = some r) : GM l G y_M_packageOf b_M_packageOf 4 (some (.int)) 2 42 0 0 [.inr (.inr (some o)), .inl v1] S d (some (.int r)) S d := by
  refine GM.of (by decide) (Nat.le_of_ble_eq_true rfl) ?_
  intro X hl0 hG0 hR0 hE0
  have hE : gE X b_M_packageOf 4 "StandInMill" (some (.int)) "packageOf" 2 42 := hE0
  unfold f_M_packageOf at h
  refine gw.less (lv' := [some (va_rf (some o)), some (.int v1), none, none]) (And.intro rfl (And.intro rfl trivial)) ?_
  refine g_iconst hE d_M_packageOf_0 ki_0 ?_
  refine g_istore_n (i := 2) (lv' := [some (va_rf (some o)), some (.int v1), some (.int 0), none]) hE d_M_packageOf_1 rfl (Nat.le_of_ble_eq_true rfl) ⟨rfl, Nat.le_of_ble_eq_true rfl⟩ (lvp_i rfl) ?_
  exact gw.less (lv' := [some (va_rf (some o)), some (.int v1), some (.int 0), none]) (And.intro rfl (And.intro rfl (And.intro rfl trivial))) (w_M_packageOf_L2 hE (w_M_packageOf_J31 hE) fu v1 0 h)
