theorem d_R_loader_0 : dc b_R_loader 0 (.aload_n 0) 1 1 := ⟨by decide +kernel, rfl⟩
theorem d_R_loader_1 : dc b_R_loader 1 (.iconst 0) 1 2 := ⟨by decide +kernel, rfl⟩
theorem d_R_loader_2 : dc b_R_loader 2 (.putfield 7) 3 5 := ⟨by decide +kernel, rfl⟩
theorem d_R_loader_5 : dc b_R_loader 5 (.iload_n 1) 1 6 := ⟨by decide +kernel, rfl⟩
theorem d_R_loader_6 : db b_R_loader 6 (.ifCond .lt 19) 19 25 9 := ⟨by decide +kernel, by decide, rfl⟩
theorem d_R_loader_9 : dc b_R_loader 9 (.iload_n 1) 1 10 := ⟨by decide +kernel, rfl⟩
theorem d_R_loader_10 : dc b_R_loader 10 (.aload_n 0) 1 11 := ⟨by decide +kernel, rfl⟩
theorem d_R_loader_11 : dc b_R_loader 11 (.getfield 13) 3 14 := ⟨by decide +kernel, rfl⟩
theorem d_R_loader_14 : db b_R_loader 14 (.if_icmp .ge 11) 11 25 17 := ⟨by decide +kernel, by decide, rfl⟩
theorem d_R_loader_17 : dc b_R_loader 17 (.aload_n 0) 1 18 := ⟨by decide +kernel, rfl⟩
theorem d_R_loader_18 : dc b_R_loader 18 (.getfield 13) 3 21 := ⟨by decide +kernel, rfl⟩
theorem d_R_loader_21 : dc b_R_loader 21 (.iconst 4) 1 22 := ⟨by decide +kernel, rfl⟩
theorem d_R_loader_22 : db b_R_loader 22 (.if_icmp .ne 5) 5 27 25 := ⟨by decide +kernel, by decide, rfl⟩
theorem d_R_loader_25 : dc b_R_loader 25 (.iconst (-1)) 1 26 := ⟨by decide +kernel, rfl⟩
theorem d_R_loader_26 : dc b_R_loader 26 (.ireturn) 1 27 := ⟨by decide +kernel, rfl⟩
theorem d_R_loader_27 : dc b_R_loader 27 (.aload_n 0) 1 28 := ⟨by decide +kernel, rfl⟩
theorem d_R_loader_28 : dc b_R_loader 28 (.getfield 16) 3 31 := ⟨by decide +kernel, rfl⟩
theorem d_R_loader_31 : dc b_R_loader 31 (.aload_n 0) 1 32 := ⟨by decide +kernel, rfl⟩
theorem d_R_loader_32 : dc b_R_loader 32 (.getfield 13) 3 35 := ⟨by decide +kernel, rfl⟩
theorem d_R_loader_35 : dc b_R_loader 35 (.iload_n 1) 1 36 := ⟨by decide +kernel, rfl⟩
theorem d_R_loader_36 : dc b_R_loader 36 (.iastore) 1 37 := ⟨by decide +kernel, rfl⟩
theorem d_R_loader_37 : dc b_R_loader 37 (.aload_n 0) 1 38 := ⟨by decide +kernel, rfl⟩
theorem d_R_loader_38 : dc b_R_loader 38 (.dup) 1 39 := ⟨by decide +kernel, rfl⟩
theorem d_R_loader_39 : dc b_R_loader 39 (.getfield 13) 3 42 := ⟨by decide +kernel, rfl⟩
theorem d_R_loader_42 : dc b_R_loader 42 (.iconst 1) 1 43 := ⟨by decide +kernel, rfl⟩
theorem d_R_loader_43 : dc b_R_loader 43 (.iadd) 1 44 := ⟨by decide +kernel, rfl⟩
theorem d_R_loader_44 : dc b_R_loader 44 (.putfield 13) 3 47 := ⟨by decide +kernel, rfl⟩
theorem d_R_loader_47 : dc b_R_loader 47 (.aload_n 0) 1 48 := ⟨by decide +kernel, rfl⟩
theorem d_R_loader_48 : dc b_R_loader 48 (.getfield 13) 3 51 := ⟨by decide +kernel, rfl⟩
theorem d_R_loader_51 : dc b_R_loader 51 (.iconst 1) 1 52 := ⟨by decide +kernel, rfl⟩
theorem d_R_loader_52 : dc b_R_loader 52 (.isub) 1 53 := ⟨by decide +kernel, rfl⟩
theorem d_R_loader_53 : dc b_R_loader 53 (.ireturn) 1 54 := ⟨by decide +kernel, rfl⟩
set_option maxRecDepth 100000 in
def f_R_loader (S : gS) (d : gD) (o : Nat) (v1 : Int32) : Option (Int32 × gD) :=
  kd S o 10 <|
  lt_ (wI d o 0 0) fun d2 =>
  if v1 < 0 then (
    some ((-1), d2))
  else (
    lt_ (dI d2 o 1) fun x3 =>
    if x3 ≤ v1 then (
      some ((-1), d2))
    else (
      lt_ (dI d2 o 1) fun x4 =>
      if x4 = 4 then (
        some ((-1), d2))
      else (
        lt_ (sP S o 2) fun x5 =>
        lt_ (dI d2 o 1) fun x6 =>
        nn x5 fun a7 =>
        kd S a7 50 <|
        gi x6 (sN S a7) <|
        lt_ (wI d2 a7 x6.toNatClampNeg v1) fun d10 =>
        lt_ (dI d10 o 1) fun x11 =>
        lt_ (wI d10 o 1 (x11 + 1)) fun d12 =>
        lt_ (dI d12 o 1) fun x13 =>
        some (x13 - 1, d12))))
set_option maxRecDepth 100000 in
set_option maxHeartbeats 4000000 in
theorem c_R_loader (l : Launch) (G : gG) {S : gS} {d : gD} {o : Nat} {v1 : Int32} {r : Int32} {d' : gD} (h : f_R_loader S d o v1 = some (r, d')) : GM l G y_R_loader b_R_loader 2 (some (.int)) 0 0 0 0 [.inr (.inr (some o)), .inl v1] S d (some (.int r)) S d' := by
  refine GM.of (by decide) (Nat.le_of_ble_eq_true rfl) ?_
  intro X hl0 hG0 hR0 hE0
  have hE : gE X b_R_loader 2 "StandInMillModel" (some (.int)) "loader" 0 0 := hE0
  unfold f_R_loader at h
  refine gw.less (lv' := [some (va_rf (some o)), some (.int v1)]) (And.intro rfl (And.intro rfl trivial)) ?_
  refine g_aload_n (i := 0) hE d_R_loader_0 rfl rfl ?_
  refine g_iconst hE d_R_loader_1 ki_0 ?_
  obtain ⟨k1, h⟩ := kd_s h
  refine g_putI 0 hE kc_R k1 (Nat.le_of_ble_eq_true rfl) rfl m_376 rfl (by decide +kernel) d_R_loader_2 (fun d2 e => ?_)
  replace h := lt_i e h; clear e
  refine g_iload_n (i := 1) hE d_R_loader_5 rfl rfl ?_
  refine g_if_lt hE d_R_loader_6 (fun c16 => ?_) (fun c16 => ?_)
  · replace h := if_t c16 h
    refine g_iconst hE d_R_loader_25 ki_m1 ?_
    cases h
    exact g_iret hE d_R_loader_26 rfl rfl
  · replace h := if_f c16 h
    refine g_iload_n (i := 1) hE d_R_loader_9 rfl rfl ?_
    refine g_aload_n (i := 0) hE d_R_loader_10 rfl rfl ?_
    refine g_getI 1 hE kc_R k1 (Nat.le_of_ble_eq_true rfl) rfl m_377 d_R_loader_11 (fun x3 e => ?_)
    replace h := lt_i e h; clear e
    refine g_icmp_ge hE d_R_loader_14 (fun c15 => ?_) (fun c15 => ?_)
    · replace h := if_t c15 h
      refine g_iconst hE d_R_loader_25 ki_m1 ?_
      cases h
      exact g_iret hE d_R_loader_26 rfl rfl
    · replace h := if_f c15 h
      refine g_aload_n (i := 0) hE d_R_loader_17 rfl rfl ?_
      refine g_getI 1 hE kc_R k1 (Nat.le_of_ble_eq_true rfl) rfl m_377 d_R_loader_18 (fun x4 e => ?_)
      replace h := lt_i e h; clear e
      refine g_iconst hE d_R_loader_21 ki_4 ?_
      refine g_icmp_ne hE d_R_loader_22 (fun c14 => ?_) (fun c14 => ?_)
      · replace h := if_f c14 h
        refine g_aload_n (i := 0) hE d_R_loader_27 rfl rfl ?_
        refine g_getR 2 hE kc_R k1 (Nat.le_of_ble_eq_true rfl) rfl m_378 d_R_loader_28 (fun x5 e => ?_)
        replace h := lt_i e h; clear e
        refine g_aload_n (i := 0) hE d_R_loader_31 rfl rfl ?_
        refine g_getI 1 hE kc_R k1 (Nat.le_of_ble_eq_true rfl) rfl m_377 d_R_loader_32 (fun x6 e => ?_)
        replace h := lt_i e h; clear e
        refine g_iload_n (i := 1) hE d_R_loader_35 rfl rfl ?_
        obtain ⟨a7, rfl, h⟩ := nn_s h
        obtain ⟨k8, h⟩ := kd_s h
        obtain ⟨g9, h⟩ := gi_s h
        refine g_iast hE k8 g9 d_R_loader_36 (fun d10 e => ?_)
        replace h := lt_i e h; clear e
        refine g_aload_n (i := 0) hE d_R_loader_37 rfl rfl ?_
        refine g_dupr hE d_R_loader_38 ?_
        refine g_getI 1 hE kc_R k1 (Nat.le_of_ble_eq_true rfl) rfl m_377 d_R_loader_39 (fun x11 e => ?_)
        replace h := lt_i e h; clear e
        refine g_iconst hE d_R_loader_42 ki_1 ?_
        refine g_iadd hE d_R_loader_43 ?_
        refine g_putI 1 hE kc_R k1 (Nat.le_of_ble_eq_true rfl) rfl m_377 rfl (by decide +kernel) d_R_loader_44 (fun d12 e => ?_)
        replace h := lt_i e h; clear e
        refine g_aload_n (i := 0) hE d_R_loader_47 rfl rfl ?_
        refine g_getI 1 hE kc_R k1 (Nat.le_of_ble_eq_true rfl) rfl m_377 d_R_loader_48 (fun x13 e => ?_)
        replace h := lt_i e h; clear e
        refine g_iconst hE d_R_loader_51 ki_1 ?_
        refine g_isub hE d_R_loader_52 ?_
        cases h
        exact g_iret hE d_R_loader_53 rfl rfl
      · replace h := if_t c14 h
        refine g_iconst hE d_R_loader_25 ki_m1 ?_
        cases h
        exact g_iret hE d_R_loader_26 rfl rfl
theorem d_R_type_0 : dc b_R_type 0 (.aload_n 0) 1 1 := ⟨by decide +kernel, rfl⟩
theorem d_R_type_1 : dc b_R_type 1 (.iconst 0) 1 2 := ⟨by decide +kernel, rfl⟩
theorem d_R_type_2 : dc b_R_type 2 (.putfield 7) 3 5 := ⟨by decide +kernel, rfl⟩
theorem d_R_type_5 : dc b_R_type 5 (.iload_n 1) 1 6 := ⟨by decide +kernel, rfl⟩
theorem d_R_type_6 : dc b_R_type 6 (.bipush 7) 2 8 := ⟨by decide +kernel, rfl⟩
theorem d_R_type_8 : db b_R_type 8 (.if_icmp .eq 11) 11 19 11 := ⟨by decide +kernel, by decide, rfl⟩
theorem d_R_type_11 : dc b_R_type 11 (.aload_n 0) 1 12 := ⟨by decide +kernel, rfl⟩
theorem d_R_type_12 : dc b_R_type 12 (.iload_n 1) 1 13 := ⟨by decide +kernel, rfl⟩
theorem d_R_type_13 : dc b_R_type 13 (.invokevirtual 161) 3 16 := ⟨by decide +kernel, rfl⟩
theorem d_R_type_16 : db b_R_type 16 (.ifCond .eq 12) 12 28 19 := ⟨by decide +kernel, by decide, rfl⟩
theorem d_R_type_19 : dc b_R_type 19 (.aload_n 0) 1 20 := ⟨by decide +kernel, rfl⟩
theorem d_R_type_20 : dc b_R_type 20 (.getfield 20) 3 23 := ⟨by decide +kernel, rfl⟩
theorem d_R_type_23 : dc b_R_type 23 (.bipush 24) 2 25 := ⟨by decide +kernel, rfl⟩
theorem d_R_type_25 : db b_R_type 25 (.if_icmp .ne 5) 5 30 28 := ⟨by decide +kernel, by decide, rfl⟩
theorem d_R_type_28 : dc b_R_type 28 (.iconst (-1)) 1 29 := ⟨by decide +kernel, rfl⟩
theorem d_R_type_29 : dc b_R_type 29 (.ireturn) 1 30 := ⟨by decide +kernel, rfl⟩
theorem d_R_type_30 : dc b_R_type 30 (.aload_n 0) 1 31 := ⟨by decide +kernel, rfl⟩
theorem d_R_type_31 : dc b_R_type 31 (.getfield 23) 3 34 := ⟨by decide +kernel, rfl⟩
theorem d_R_type_34 : dc b_R_type 34 (.aload_n 0) 1 35 := ⟨by decide +kernel, rfl⟩
theorem d_R_type_35 : dc b_R_type 35 (.getfield 20) 3 38 := ⟨by decide +kernel, rfl⟩
theorem d_R_type_38 : dc b_R_type 38 (.iload_n 1) 1 39 := ⟨by decide +kernel, rfl⟩
theorem d_R_type_39 : dc b_R_type 39 (.iastore) 1 40 := ⟨by decide +kernel, rfl⟩
theorem d_R_type_40 : dc b_R_type 40 (.aload_n 0) 1 41 := ⟨by decide +kernel, rfl⟩
theorem d_R_type_41 : dc b_R_type 41 (.dup) 1 42 := ⟨by decide +kernel, rfl⟩
theorem d_R_type_42 : dc b_R_type 42 (.getfield 20) 3 45 := ⟨by decide +kernel, rfl⟩
theorem d_R_type_45 : dc b_R_type 45 (.iconst 1) 1 46 := ⟨by decide +kernel, rfl⟩
theorem d_R_type_46 : dc b_R_type 46 (.iadd) 1 47 := ⟨by decide +kernel, rfl⟩
theorem d_R_type_47 : dc b_R_type 47 (.putfield 20) 3 50 := ⟨by decide +kernel, rfl⟩
theorem d_R_type_50 : dc b_R_type 50 (.aload_n 0) 1 51 := ⟨by decide +kernel, rfl⟩
theorem d_R_type_51 : dc b_R_type 51 (.getfield 20) 3 54 := ⟨by decide +kernel, rfl⟩
theorem d_R_type_54 : dc b_R_type 54 (.iconst 1) 1 55 := ⟨by decide +kernel, rfl⟩
theorem d_R_type_55 : dc b_R_type 55 (.isub) 1 56 := ⟨by decide +kernel, rfl⟩
theorem d_R_type_56 : dc b_R_type 56 (.ireturn) 1 57 := ⟨by decide +kernel, rfl⟩
def f_R_type_J19 (S : gS) (o : Nat) (d : gD) (v1 : Int32) : Option (Int32 × gD) :=
  kd S o 10 <|
  lt_ (dI d o 3) fun x2 =>
  if x2 = 24 then (
    some ((-1), d))
  else (
    lt_ (sP S o 4) fun x3 =>
    lt_ (dI d o 3) fun x4 =>
    nn x3 fun a5 =>
    kd S a5 50 <|
    gi x4 (sN S a5) <|
    lt_ (wI d a5 x4.toNatClampNeg v1) fun d8 =>
    lt_ (dI d8 o 3) fun x9 =>
    lt_ (wI d8 o 3 (x9 + 1)) fun d10 =>
    lt_ (dI d10 o 3) fun x11 =>
    some (x11 - 1, d10))
set_option maxRecDepth 100000 in
set_option maxHeartbeats 4000000 in
theorem w_R_type_J19 {X : GX} (hE : gE X b_R_type 2 "StandInMillModel" (some (.int)) "type" 1 21) {S : gS} {o : Nat} {r : Int32} {d' : gD} :
    ∀ (d : gD) (v1 : Int32), f_R_type_J19 S o d v1 = some (r, d') → gw X 0 0 (gQ X (some (.int r)) S d' 0 0) S d 19 [some (va_rf (some o)), some (.int v1)] [] := by
  intro d v1 h
  unfold f_R_type_J19 at h
  refine g_aload_n (i := 0) hE d_R_type_19 rfl rfl ?_
  obtain ⟨k1, h⟩ := kd_s h
  refine g_getI 3 hE kc_R k1 (Nat.le_of_ble_eq_true rfl) rfl m_379 d_R_type_20 (fun x2 e => ?_)
  replace h := lt_i e h; clear e
  refine g_bipush hE d_R_type_23 kb_24 ?_
  refine g_icmp_ne hE d_R_type_25 (fun c12 => ?_) (fun c12 => ?_)
  · replace h := if_f c12 h
    refine g_aload_n (i := 0) hE d_R_type_30 rfl rfl ?_
    refine g_getR 4 hE kc_R k1 (Nat.le_of_ble_eq_true rfl) rfl m_380 d_R_type_31 (fun x3 e => ?_)
    replace h := lt_i e h; clear e
    refine g_aload_n (i := 0) hE d_R_type_34 rfl rfl ?_
    refine g_getI 3 hE kc_R k1 (Nat.le_of_ble_eq_true rfl) rfl m_379 d_R_type_35 (fun x4 e => ?_)
    replace h := lt_i e h; clear e
    refine g_iload_n (i := 1) hE d_R_type_38 rfl rfl ?_
    obtain ⟨a5, rfl, h⟩ := nn_s h
    obtain ⟨k6, h⟩ := kd_s h
    obtain ⟨g7, h⟩ := gi_s h
    refine g_iast hE k6 g7 d_R_type_39 (fun d8 e => ?_)
    replace h := lt_i e h; clear e
    refine g_aload_n (i := 0) hE d_R_type_40 rfl rfl ?_
    refine g_dupr hE d_R_type_41 ?_
    refine g_getI 3 hE kc_R k1 (Nat.le_of_ble_eq_true rfl) rfl m_379 d_R_type_42 (fun x9 e => ?_)
    replace h := lt_i e h; clear e
    refine g_iconst hE d_R_type_45 ki_1 ?_
    refine g_iadd hE d_R_type_46 ?_
    refine g_putI 3 hE kc_R k1 (Nat.le_of_ble_eq_true rfl) rfl m_379 rfl (by decide +kernel) d_R_type_47 (fun d10 e => ?_)
    replace h := lt_i e h; clear e
    refine g_aload_n (i := 0) hE d_R_type_50 rfl rfl ?_
    refine g_getI 3 hE kc_R k1 (Nat.le_of_ble_eq_true rfl) rfl m_379 d_R_type_51 (fun x11 e => ?_)
    replace h := lt_i e h; clear e
    refine g_iconst hE d_R_type_54 ki_1 ?_
    refine g_isub hE d_R_type_55 ?_
    cases h
    exact g_iret hE d_R_type_56 rfl rfl
  · replace h := if_t c12 h
    refine g_iconst hE d_R_type_28 ki_m1 ?_
    cases h
    exact g_iret hE d_R_type_29 rfl rfl
set_option maxRecDepth 100000 in
def f_R_type (S : gS) (d : gD) (o : Nat) (v1 : Int32) : Option (Int32 × gD) :=
  kd S o 10 <|
  lt_ (wI d o 0 0) fun d2 =>
  if v1 = 7 then (
    f_R_type_J19 S o d2 v1)
  else (
    bd (f_R_isClass S d2 o v1) fun x3 =>
    if x3 = 0 then (
      some ((-1), d2))
    else (
      f_R_type_J19 S o d2 v1))
set_option maxRecDepth 100000 in
set_option maxHeartbeats 4000000 in
theorem c_R_type (l : Launch) (G : gG) {S : gS} {d : gD} {o : Nat} {v1 : Int32} {r : Int32} {d' : gD} (h : f_R_type S d o v1 = some (r, d')) : GM l G y_R_type b_R_type 2 (some (.int)) 1 21 0 0 [.inr (.inr (some o)), .inl v1] S d (some (.int r)) S d' := by
  refine GM.of (by decide) (Nat.le_of_ble_eq_true rfl) ?_
  intro X hl0 hG0 hR0 hE0
  have hE : gE X b_R_type 2 "StandInMillModel" (some (.int)) "type" 1 21 := hE0
  unfold f_R_type at h
  refine gw.less (lv' := [some (va_rf (some o)), some (.int v1)]) (And.intro rfl (And.intro rfl trivial)) ?_
  refine g_aload_n (i := 0) hE d_R_type_0 rfl rfl ?_
  refine g_iconst hE d_R_type_1 ki_0 ?_
  obtain ⟨k1, h⟩ := kd_s h
  refine g_putI 0 hE kc_R k1 (Nat.le_of_ble_eq_true rfl) rfl m_376 rfl (by decide +kernel) d_R_type_2 (fun d2 e => ?_)
  replace h := lt_i e h; clear e
  refine g_iload_n (i := 1) hE d_R_type_5 rfl rfl ?_
  refine g_bipush hE d_R_type_6 kb_7 ?_
  refine g_icmp_eq hE d_R_type_8 (fun c6 => ?_) (fun c6 => ?_)
  · replace h := if_t c6 h
    exact gw.less (lv' := [some (va_rf (some o)), some (.int v1)]) (And.intro rfl (And.intro rfl trivial)) (w_R_type_J19 hE d2 v1 h)
  · replace h := if_f c6 h
    refine g_aload_n (i := 0) hE d_R_type_11 rfl rfl ?_
    refine g_iload_n (i := 1) hE d_R_type_12 rfl rfl ?_
    obtain ⟨x3, e4, h⟩ := bd_s h
    refine g_callV (av := [.inr (.inr (some o)), .inl v1]) (as := [.inl v1]) (stk := [.int x3]) [] hE (c_R_isClass (xl X) (xG X) e4) ky_R_isClass ⟨Nat.le_of_ble_eq_true rfl, Nat.le_of_ble_eq_true rfl⟩ rfl kc_R k1 m_427 m_428 m_429 rfl d_R_type_13 rfl rfl ct_0 (Nat.zero_le _) (Nat.zero_le _) ?_
    refine gw.cs (c2 := 0) (s2 := 0) rfl rfl ?_
    refine g_if_eq hE d_R_type_16 (fun c5 => ?_) (fun c5 => ?_)
    · replace h := if_t c5 h
      refine g_iconst hE d_R_type_28 ki_m1 ?_
      cases h
      exact g_iret hE d_R_type_29 rfl rfl
    · replace h := if_f c5 h
      exact gw.less (lv' := [some (va_rf (some o)), some (.int v1)]) (And.intro rfl (And.intro rfl trivial)) (w_R_type_J19 hE d2 v1 h)
theorem d_R_face_0 : dc b_R_face 0 (.aload_n 0) 1 1 := ⟨by decide +kernel, rfl⟩
theorem d_R_face_1 : dc b_R_face 1 (.iconst 0) 1 2 := ⟨by decide +kernel, rfl⟩
theorem d_R_face_2 : dc b_R_face 2 (.putfield 7) 3 5 := ⟨by decide +kernel, rfl⟩
theorem d_R_face_5 : dc b_R_face 5 (.iload_n 1) 1 6 := ⟨by decide +kernel, rfl⟩
theorem d_R_face_6 : db b_R_face 6 (.ifCond .lt 30) 30 36 9 := ⟨by decide +kernel, by decide, rfl⟩
theorem d_R_face_9 : dc b_R_face 9 (.iload_n 1) 1 10 := ⟨by decide +kernel, rfl⟩
theorem d_R_face_10 : dc b_R_face 10 (.aload_n 0) 1 11 := ⟨by decide +kernel, rfl⟩
theorem d_R_face_11 : dc b_R_face 11 (.getfield 13) 3 14 := ⟨by decide +kernel, rfl⟩
theorem d_R_face_14 : db b_R_face 14 (.if_icmp .ge 22) 22 36 17 := ⟨by decide +kernel, by decide, rfl⟩
theorem d_R_face_17 : dc b_R_face 17 (.iload_n 2) 1 18 := ⟨by decide +kernel, rfl⟩
theorem d_R_face_18 : db b_R_face 18 (.ifCond .lt 18) 18 36 21 := ⟨by decide +kernel, by decide, rfl⟩
theorem d_R_face_21 : dc b_R_face 21 (.iload_n 2) 1 22 := ⟨by decide +kernel, rfl⟩
theorem d_R_face_22 : dc b_R_face 22 (.bipush 25) 2 24 := ⟨by decide +kernel, rfl⟩
theorem d_R_face_24 : db b_R_face 24 (.if_icmp .gt 12) 12 36 27 := ⟨by decide +kernel, by decide, rfl⟩
theorem d_R_face_27 : dc b_R_face 27 (.iload_n 3) 1 28 := ⟨by decide +kernel, rfl⟩
theorem d_R_face_28 : db b_R_face 28 (.ifCond .lt 8) 8 36 31 := ⟨by decide +kernel, by decide, rfl⟩
theorem d_R_face_31 : dc b_R_face 31 (.iload_n 3) 1 32 := ⟨by decide +kernel, rfl⟩
theorem d_R_face_32 : dc b_R_face 32 (.iconst 3) 1 33 := ⟨by decide +kernel, rfl⟩
theorem d_R_face_33 : db b_R_face 33 (.if_icmp .le 5) 5 38 36 := ⟨by decide +kernel, by decide, rfl⟩
theorem d_R_face_36 : dc b_R_face 36 (.iconst (-1)) 1 37 := ⟨by decide +kernel, rfl⟩
theorem d_R_face_37 : dc b_R_face 37 (.ireturn) 1 38 := ⟨by decide +kernel, rfl⟩
theorem d_R_face_38 : dc b_R_face 38 (.aload_n 0) 1 39 := ⟨by decide +kernel, rfl⟩
theorem d_R_face_39 : dc b_R_face 39 (.iload_n 1) 1 40 := ⟨by decide +kernel, rfl⟩
theorem d_R_face_40 : dc b_R_face 40 (.iload_n 2) 1 41 := ⟨by decide +kernel, rfl⟩
theorem d_R_face_41 : dc b_R_face 41 (.iload_n 3) 1 42 := ⟨by decide +kernel, rfl⟩
theorem d_R_face_42 : dc b_R_face 42 (.invokevirtual 177) 3 45 := ⟨by decide +kernel, rfl⟩
theorem d_R_face_45 : db b_R_face 45 (.ifCond .ge 12) 12 57 48 := ⟨by decide +kernel, by decide, rfl⟩
theorem d_R_face_48 : dc b_R_face 48 (.aload_n 0) 1 49 := ⟨by decide +kernel, rfl⟩
theorem d_R_face_49 : dc b_R_face 49 (.getfield 26) 3 52 := ⟨by decide +kernel, rfl⟩
theorem d_R_face_52 : dc b_R_face 52 (.bipush 12) 2 54 := ⟨by decide +kernel, rfl⟩
theorem d_R_face_54 : db b_R_face 54 (.if_icmp .ne 5) 5 59 57 := ⟨by decide +kernel, by decide, rfl⟩
theorem d_R_face_57 : dc b_R_face 57 (.iconst (-1)) 1 58 := ⟨by decide +kernel, rfl⟩
theorem d_R_face_58 : dc b_R_face 58 (.ireturn) 1 59 := ⟨by decide +kernel, rfl⟩
theorem d_R_face_59 : dc b_R_face 59 (.aload_n 0) 1 60 := ⟨by decide +kernel, rfl⟩
theorem d_R_face_60 : dc b_R_face 60 (.getfield 29) 3 63 := ⟨by decide +kernel, rfl⟩
theorem d_R_face_63 : dc b_R_face 63 (.aload_n 0) 1 64 := ⟨by decide +kernel, rfl⟩
theorem d_R_face_64 : dc b_R_face 64 (.getfield 26) 3 67 := ⟨by decide +kernel, rfl⟩
theorem d_R_face_67 : dc b_R_face 67 (.iload_n 1) 1 68 := ⟨by decide +kernel, rfl⟩
theorem d_R_face_68 : dc b_R_face 68 (.iastore) 1 69 := ⟨by decide +kernel, rfl⟩
theorem d_R_face_69 : dc b_R_face 69 (.aload_n 0) 1 70 := ⟨by decide +kernel, rfl⟩
theorem d_R_face_70 : dc b_R_face 70 (.getfield 32) 3 73 := ⟨by decide +kernel, rfl⟩
theorem d_R_face_73 : dc b_R_face 73 (.aload_n 0) 1 74 := ⟨by decide +kernel, rfl⟩
theorem d_R_face_74 : dc b_R_face 74 (.getfield 26) 3 77 := ⟨by decide +kernel, rfl⟩
theorem d_R_face_77 : dc b_R_face 77 (.iload_n 2) 1 78 := ⟨by decide +kernel, rfl⟩
theorem d_R_face_78 : dc b_R_face 78 (.iastore) 1 79 := ⟨by decide +kernel, rfl⟩
theorem d_R_face_79 : dc b_R_face 79 (.aload_n 0) 1 80 := ⟨by decide +kernel, rfl⟩
theorem d_R_face_80 : dc b_R_face 80 (.getfield 35) 3 83 := ⟨by decide +kernel, rfl⟩
theorem d_R_face_83 : dc b_R_face 83 (.aload_n 0) 1 84 := ⟨by decide +kernel, rfl⟩
theorem d_R_face_84 : dc b_R_face 84 (.getfield 26) 3 87 := ⟨by decide +kernel, rfl⟩
theorem d_R_face_87 : dc b_R_face 87 (.iload_n 3) 1 88 := ⟨by decide +kernel, rfl⟩
theorem d_R_face_88 : dc b_R_face 88 (.iastore) 1 89 := ⟨by decide +kernel, rfl⟩
theorem d_R_face_89 : dc b_R_face 89 (.aload_n 0) 1 90 := ⟨by decide +kernel, rfl⟩
theorem d_R_face_90 : dc b_R_face 90 (.getfield 38) 3 93 := ⟨by decide +kernel, rfl⟩
theorem d_R_face_93 : dc b_R_face 93 (.aload_n 0) 1 94 := ⟨by decide +kernel, rfl⟩
theorem d_R_face_94 : dc b_R_face 94 (.getfield 26) 3 97 := ⟨by decide +kernel, rfl⟩
theorem d_R_face_97 : dc b_R_face 97 (.iload 4) 2 99 := ⟨by decide +kernel, rfl⟩
theorem d_R_face_99 : dc b_R_face 99 (.bastore) 1 100 := ⟨by decide +kernel, rfl⟩
theorem d_R_face_100 : dc b_R_face 100 (.aload_n 0) 1 101 := ⟨by decide +kernel, rfl⟩
theorem d_R_face_101 : dc b_R_face 101 (.dup) 1 102 := ⟨by decide +kernel, rfl⟩
theorem d_R_face_102 : dc b_R_face 102 (.getfield 26) 3 105 := ⟨by decide +kernel, rfl⟩
theorem d_R_face_105 : dc b_R_face 105 (.iconst 1) 1 106 := ⟨by decide +kernel, rfl⟩
theorem d_R_face_106 : dc b_R_face 106 (.iadd) 1 107 := ⟨by decide +kernel, rfl⟩
theorem d_R_face_107 : dc b_R_face 107 (.putfield 26) 3 110 := ⟨by decide +kernel, rfl⟩
theorem d_R_face_110 : dc b_R_face 110 (.bipush 23) 2 112 := ⟨by decide +kernel, rfl⟩
theorem d_R_face_112 : dc b_R_face 112 (.aload_n 0) 1 113 := ⟨by decide +kernel, rfl⟩
theorem d_R_face_113 : dc b_R_face 113 (.getfield 26) 3 116 := ⟨by decide +kernel, rfl⟩
theorem d_R_face_116 : dc b_R_face 116 (.iadd) 1 117 := ⟨by decide +kernel, rfl⟩
theorem d_R_face_117 : dc b_R_face 117 (.ireturn) 1 118 := ⟨by decide +kernel, rfl⟩
set_option maxRecDepth 100000 in
def f_R_face (S : gS) (d : gD) (o : Nat) (v1 : Int32) (v2 : Int32) (v3 : Int32) (v4 : Int32) : Option (Int32 × gD) :=
  kd S o 10 <|
  lt_ (wI d o 0 0) fun d2 =>
  if v1 < 0 then (
    some ((-1), d2))
  else (
    lt_ (dI d2 o 1) fun x3 =>
    if x3 ≤ v1 then (
      some ((-1), d2))
    else (
      if v2 < 0 then (
        some ((-1), d2))
      else (
        if 25 < v2 then (
          some ((-1), d2))
        else (
          if v3 < 0 then (
            some ((-1), d2))
          else (
            if v3 ≤ 3 then (
              bd (f_R_finds S d2 o v1 v2 v3) fun x4 =>
              if 0 ≤ x4 then (
                some ((-1), d2))
              else (
                lt_ (dI d2 o 5) fun x6 =>
                if x6 = 12 then (
                  some ((-1), d2))
                else (
                  lt_ (sP S o 6) fun x7 =>
                  lt_ (dI d2 o 5) fun x8 =>
                  nn x7 fun a9 =>
                  kd S a9 50 <|
                  gi x8 (sN S a9) <|
                  lt_ (wI d2 a9 x8.toNatClampNeg v1) fun d12 =>
                  lt_ (sP S o 7) fun x13 =>
                  lt_ (dI d12 o 5) fun x14 =>
                  nn x13 fun a15 =>
                  kd S a15 50 <|
                  gi x14 (sN S a15) <|
                  lt_ (wI d12 a15 x14.toNatClampNeg v2) fun d18 =>
                  lt_ (sP S o 8) fun x19 =>
                  lt_ (dI d18 o 5) fun x20 =>
                  nn x19 fun a21 =>
                  kd S a21 50 <|
                  gi x20 (sN S a21) <|
                  lt_ (wI d18 a21 x20.toNatClampNeg v3) fun d24 =>
                  lt_ (sP S o 9) fun x25 =>
                  lt_ (dI d24 o 5) fun x26 =>
                  nn x25 fun a27 =>
                  kd S a27 53 <|
                  gi x26 (sN S a27) <|
                  lt_ (wI d24 a27 x26.toNatClampNeg (vp_nar .boolean v4)) fun d30 =>
                  lt_ (dI d30 o 5) fun x31 =>
                  lt_ (wI d30 o 5 (x31 + 1)) fun d32 =>
                  lt_ (dI d32 o 5) fun x33 =>
                  some (23 + x33, d32))))
            else (
              some ((-1), d2)))))))
set_option maxRecDepth 100000 in
set_option maxHeartbeats 4000000 in
theorem c_R_face (l : Launch) (G : gG) {S : gS} {d : gD} {o : Nat} {v1 : Int32} {v2 : Int32} {v3 : Int32} {v4 : Int32} {r : Int32} {d' : gD} (h : f_R_face S d o v1 v2 v3 v4 = some (r, d')) : GM l G y_R_face b_R_face 5 (some (.int)) 2 50 0 0 [.inr (.inr (some o)), .inl v1, .inl v2, .inl v3, .inl v4] S d (some (.int r)) S d' := by
  refine GM.of (by decide) (Nat.le_of_ble_eq_true rfl) ?_
  intro X hl0 hG0 hR0 hE0
  have hE : gE X b_R_face 5 "StandInMillModel" (some (.int)) "face" 2 50 := hE0
  unfold f_R_face at h
  refine gw.less (lv' := [some (va_rf (some o)), some (.int v1), some (.int v2), some (.int v3), some (.int v4)]) (And.intro rfl (And.intro rfl (And.intro rfl (And.intro rfl (And.intro rfl trivial))))) ?_
  refine g_aload_n (i := 0) hE d_R_face_0 rfl rfl ?_
  refine g_iconst hE d_R_face_1 ki_0 ?_
  obtain ⟨k1, h⟩ := kd_s h
  refine g_putI 0 hE kc_R k1 (Nat.le_of_ble_eq_true rfl) rfl m_376 rfl (by decide +kernel) d_R_face_2 (fun d2 e => ?_)
  replace h := lt_i e h; clear e
  refine g_iload_n (i := 1) hE d_R_face_5 rfl rfl ?_
  refine g_if_lt hE d_R_face_6 (fun c41 => ?_) (fun c41 => ?_)
  · replace h := if_t c41 h
    refine g_iconst hE d_R_face_36 ki_m1 ?_
    cases h
    exact g_iret hE d_R_face_37 rfl rfl
  · replace h := if_f c41 h
    refine g_iload_n (i := 1) hE d_R_face_9 rfl rfl ?_
    refine g_aload_n (i := 0) hE d_R_face_10 rfl rfl ?_
    refine g_getI 1 hE kc_R k1 (Nat.le_of_ble_eq_true rfl) rfl m_377 d_R_face_11 (fun x3 e => ?_)
    replace h := lt_i e h; clear e
    refine g_icmp_ge hE d_R_face_14 (fun c40 => ?_) (fun c40 => ?_)
    · replace h := if_t c40 h
      refine g_iconst hE d_R_face_36 ki_m1 ?_
      cases h
      exact g_iret hE d_R_face_37 rfl rfl
    · replace h := if_f c40 h
      refine g_iload_n (i := 2) hE d_R_face_17 rfl rfl ?_
      refine g_if_lt hE d_R_face_18 (fun c39 => ?_) (fun c39 => ?_)
      · replace h := if_t c39 h
        refine g_iconst hE d_R_face_36 ki_m1 ?_
        cases h
        exact g_iret hE d_R_face_37 rfl rfl
      · replace h := if_f c39 h
        refine g_iload_n (i := 2) hE d_R_face_21 rfl rfl ?_
        refine g_bipush hE d_R_face_22 kb_25 ?_
        refine g_icmp_gt hE d_R_face_24 (fun c38 => ?_) (fun c38 => ?_)
        · replace h := if_t c38 h
          refine g_iconst hE d_R_face_36 ki_m1 ?_
          cases h
          exact g_iret hE d_R_face_37 rfl rfl
        · replace h := if_f c38 h
          refine g_iload_n (i := 3) hE d_R_face_27 rfl rfl ?_
          refine g_if_lt hE d_R_face_28 (fun c37 => ?_) (fun c37 => ?_)
          · replace h := if_t c37 h
            refine g_iconst hE d_R_face_36 ki_m1 ?_
            cases h
            exact g_iret hE d_R_face_37 rfl rfl
          · replace h := if_f c37 h
            refine g_iload_n (i := 3) hE d_R_face_31 rfl rfl ?_
            refine g_iconst hE d_R_face_32 ki_3 ?_
            refine g_icmp_le hE d_R_face_33 (fun c36 => ?_) (fun c36 => ?_)
            · replace h := if_t c36 h
              refine g_aload_n (i := 0) hE d_R_face_38 rfl rfl ?_
              refine g_iload_n (i := 1) hE d_R_face_39 rfl rfl ?_
              refine g_iload_n (i := 2) hE d_R_face_40 rfl rfl ?_
              refine g_iload_n (i := 3) hE d_R_face_41 rfl rfl ?_
              obtain ⟨x4, e5, h⟩ := bd_s h
              refine g_callV (av := [.inr (.inr (some o)), .inl v1, .inl v2, .inl v3]) (as := [.inl v1, .inl v2, .inl v3]) (stk := [.int x4]) [] hE (c_R_finds (xl X) (xG X) e5) ky_R_finds ⟨Nat.le_of_ble_eq_true rfl, Nat.le_of_ble_eq_true rfl⟩ rfl kc_R k1 m_441 m_442 m_443 rfl d_R_face_42 rfl rfl ct_0 (Nat.zero_le _) (Nat.zero_le _) ?_
              refine gw.cs (c2 := 0) (s2 := 0) rfl rfl ?_
              refine g_if_ge hE d_R_face_45 (fun c35 => ?_) (fun c35 => ?_)
              · replace h := if_t c35 h
                refine g_iconst hE d_R_face_57 ki_m1 ?_
                cases h
                exact g_iret hE d_R_face_58 rfl rfl
              · replace h := if_f c35 h
                refine g_aload_n (i := 0) hE d_R_face_48 rfl rfl ?_
                refine g_getI 5 hE kc_R k1 (Nat.le_of_ble_eq_true rfl) rfl m_381 d_R_face_49 (fun x6 e => ?_)
                replace h := lt_i e h; clear e
                refine g_bipush hE d_R_face_52 kb_12 ?_
                refine g_icmp_ne hE d_R_face_54 (fun c34 => ?_) (fun c34 => ?_)
                · replace h := if_f c34 h
                  refine g_aload_n (i := 0) hE d_R_face_59 rfl rfl ?_
                  refine g_getR 6 hE kc_R k1 (Nat.le_of_ble_eq_true rfl) rfl m_382 d_R_face_60 (fun x7 e => ?_)
                  replace h := lt_i e h; clear e
                  refine g_aload_n (i := 0) hE d_R_face_63 rfl rfl ?_
                  refine g_getI 5 hE kc_R k1 (Nat.le_of_ble_eq_true rfl) rfl m_381 d_R_face_64 (fun x8 e => ?_)
                  replace h := lt_i e h; clear e
                  refine g_iload_n (i := 1) hE d_R_face_67 rfl rfl ?_
                  obtain ⟨a9, rfl, h⟩ := nn_s h
                  obtain ⟨k10, h⟩ := kd_s h
                  obtain ⟨g11, h⟩ := gi_s h
                  refine g_iast hE k10 g11 d_R_face_68 (fun d12 e => ?_)
                  replace h := lt_i e h; clear e
                  refine g_aload_n (i := 0) hE d_R_face_69 rfl rfl ?_
                  refine g_getR 7 hE kc_R k1 (Nat.le_of_ble_eq_true rfl) rfl m_383 d_R_face_70 (fun x13 e => ?_)
                  replace h := lt_i e h; clear e
                  refine g_aload_n (i := 0) hE d_R_face_73 rfl rfl ?_
                  refine g_getI 5 hE kc_R k1 (Nat.le_of_ble_eq_true rfl) rfl m_381 d_R_face_74 (fun x14 e => ?_)
                  replace h := lt_i e h; clear e
                  refine g_iload_n (i := 2) hE d_R_face_77 rfl rfl ?_
                  obtain ⟨a15, rfl, h⟩ := nn_s h
                  obtain ⟨k16, h⟩ := kd_s h
                  obtain ⟨g17, h⟩ := gi_s h
                  refine g_iast hE k16 g17 d_R_face_78 (fun d18 e => ?_)
                  replace h := lt_i e h; clear e
                  refine g_aload_n (i := 0) hE d_R_face_79 rfl rfl ?_
                  refine g_getR 8 hE kc_R k1 (Nat.le_of_ble_eq_true rfl) rfl m_384 d_R_face_80 (fun x19 e => ?_)
                  replace h := lt_i e h; clear e
                  refine g_aload_n (i := 0) hE d_R_face_83 rfl rfl ?_
                  refine g_getI 5 hE kc_R k1 (Nat.le_of_ble_eq_true rfl) rfl m_381 d_R_face_84 (fun x20 e => ?_)
                  replace h := lt_i e h; clear e
                  refine g_iload_n (i := 3) hE d_R_face_87 rfl rfl ?_
                  obtain ⟨a21, rfl, h⟩ := nn_s h
                  obtain ⟨k22, h⟩ := kd_s h
                  obtain ⟨g23, h⟩ := gi_s h
                  refine g_iast hE k22 g23 d_R_face_88 (fun d24 e => ?_)
                  replace h := lt_i e h; clear e
                  refine g_aload_n (i := 0) hE d_R_face_89 rfl rfl ?_
                  refine g_getR 9 hE kc_R k1 (Nat.le_of_ble_eq_true rfl) rfl m_386 d_R_face_90 (fun x25 e => ?_)
                  replace h := lt_i e h; clear e
                  refine g_aload_n (i := 0) hE d_R_face_93 rfl rfl ?_
                  refine g_getI 5 hE kc_R k1 (Nat.le_of_ble_eq_true rfl) rfl m_381 d_R_face_94 (fun x26 e => ?_)
                  replace h := lt_i e h; clear e
                  refine g_iload (i := 4) hE d_R_face_97 rfl ?_
                  obtain ⟨a27, rfl, h⟩ := nn_s h
                  obtain ⟨k28, h⟩ := kd_s h
                  obtain ⟨g29, h⟩ := gi_s h
                  refine g_zast hE k28 g29 d_R_face_99 (fun d30 e => ?_)
                  replace h := lt_i e h; clear e
                  refine g_aload_n (i := 0) hE d_R_face_100 rfl rfl ?_
                  refine g_dupr hE d_R_face_101 ?_
                  refine g_getI 5 hE kc_R k1 (Nat.le_of_ble_eq_true rfl) rfl m_381 d_R_face_102 (fun x31 e => ?_)
                  replace h := lt_i e h; clear e
                  refine g_iconst hE d_R_face_105 ki_1 ?_
                  refine g_iadd hE d_R_face_106 ?_
                  refine g_putI 5 hE kc_R k1 (Nat.le_of_ble_eq_true rfl) rfl m_381 rfl (by decide +kernel) d_R_face_107 (fun d32 e => ?_)
                  replace h := lt_i e h; clear e
                  refine g_bipush hE d_R_face_110 kb_23 ?_
                  refine g_aload_n (i := 0) hE d_R_face_112 rfl rfl ?_
                  refine g_getI 5 hE kc_R k1 (Nat.le_of_ble_eq_true rfl) rfl m_381 d_R_face_113 (fun x33 e => ?_)
                  replace h := lt_i e h; clear e
                  refine g_iadd hE d_R_face_116 ?_
                  cases h
                  exact g_iret hE d_R_face_117 rfl rfl
                · replace h := if_t c34 h
                  refine g_iconst hE d_R_face_57 ki_m1 ?_
                  cases h
                  exact g_iret hE d_R_face_58 rfl rfl
            · replace h := if_f c36 h
              refine g_iconst hE d_R_face_36 ki_m1 ?_
              cases h
              exact g_iret hE d_R_face_37 rfl rfl
theorem d_R_extend_0 : dc b_R_extend 0 (.aload_n 0) 1 1 := ⟨by decide +kernel, rfl⟩
theorem d_R_extend_1 : dc b_R_extend 1 (.iconst 0) 1 2 := ⟨by decide +kernel, rfl⟩
theorem d_R_extend_2 : dc b_R_extend 2 (.putfield 7) 3 5 := ⟨by decide +kernel, rfl⟩
theorem d_R_extend_5 : dc b_R_extend 5 (.aload_n 0) 1 6 := ⟨by decide +kernel, rfl⟩
theorem d_R_extend_6 : dc b_R_extend 6 (.iload_n 1) 1 7 := ⟨by decide +kernel, rfl⟩
theorem d_R_extend_7 : dc b_R_extend 7 (.invokevirtual 164) 3 10 := ⟨by decide +kernel, rfl⟩
theorem d_R_extend_10 : db b_R_extend 10 (.ifCond .eq 23) 23 33 13 := ⟨by decide +kernel, by decide, rfl⟩
theorem d_R_extend_13 : dc b_R_extend 13 (.aload_n 0) 1 14 := ⟨by decide +kernel, rfl⟩
theorem d_R_extend_14 : dc b_R_extend 14 (.iload_n 2) 1 15 := ⟨by decide +kernel, rfl⟩
theorem d_R_extend_15 : dc b_R_extend 15 (.invokevirtual 164) 3 18 := ⟨by decide +kernel, rfl⟩
theorem d_R_extend_18 : db b_R_extend 18 (.ifCond .eq 15) 15 33 21 := ⟨by decide +kernel, by decide, rfl⟩
theorem d_R_extend_21 : dc b_R_extend 21 (.iload_n 2) 1 22 := ⟨by decide +kernel, rfl⟩
theorem d_R_extend_22 : dc b_R_extend 22 (.iload_n 1) 1 23 := ⟨by decide +kernel, rfl⟩
theorem d_R_extend_23 : db b_R_extend 23 (.if_icmp .ge 10) 10 33 26 := ⟨by decide +kernel, by decide, rfl⟩
theorem d_R_extend_26 : dc b_R_extend 26 (.aload_n 0) 1 27 := ⟨by decide +kernel, rfl⟩
theorem d_R_extend_27 : dc b_R_extend 27 (.getfield 76) 3 30 := ⟨by decide +kernel, rfl⟩
theorem d_R_extend_30 : db b_R_extend 30 (.ifCond .le 5) 5 35 33 := ⟨by decide +kernel, by decide, rfl⟩
theorem d_R_extend_33 : dc b_R_extend 33 (.iconst 0) 1 34 := ⟨by decide +kernel, rfl⟩
theorem d_R_extend_34 : dc b_R_extend 34 (.ireturn) 1 35 := ⟨by decide +kernel, rfl⟩
theorem d_R_extend_35 : dc b_R_extend 35 (.iload_n 1) 1 36 := ⟨by decide +kernel, rfl⟩
theorem d_R_extend_36 : dc b_R_extend 36 (.bipush 24) 2 38 := ⟨by decide +kernel, rfl⟩
theorem d_R_extend_38 : dc b_R_extend 38 (.isub) 1 39 := ⟨by decide +kernel, rfl⟩
theorem d_R_extend_39 : dc b_R_extend 39 (.istore_n 3) 1 40 := ⟨by decide +kernel, rfl⟩
theorem d_R_extend_40 : dc b_R_extend 40 (.iload_n 2) 1 41 := ⟨by decide +kernel, rfl⟩
theorem d_R_extend_41 : dc b_R_extend 41 (.bipush 24) 2 43 := ⟨by decide +kernel, rfl⟩
theorem d_R_extend_43 : dc b_R_extend 43 (.isub) 1 44 := ⟨by decide +kernel, rfl⟩
theorem d_R_extend_44 : dc b_R_extend 44 (.istore 4) 2 46 := ⟨by decide +kernel, rfl⟩
theorem d_R_extend_46 : dc b_R_extend 46 (.aload_n 0) 1 47 := ⟨by decide +kernel, rfl⟩
theorem d_R_extend_47 : dc b_R_extend 47 (.getfield 45) 3 50 := ⟨by decide +kernel, rfl⟩
theorem d_R_extend_50 : dc b_R_extend 50 (.iload_n 3) 1 51 := ⟨by decide +kernel, rfl⟩
theorem d_R_extend_51 : dc b_R_extend 51 (.iaload) 1 52 := ⟨by decide +kernel, rfl⟩
theorem d_R_extend_52 : dc b_R_extend 52 (.iconst 2) 1 53 := ⟨by decide +kernel, rfl⟩
theorem d_R_extend_53 : db b_R_extend 53 (.if_icmp .eq 41) 41 94 56 := ⟨by decide +kernel, by decide, rfl⟩
theorem d_R_extend_56 : dc b_R_extend 56 (.aload_n 0) 1 57 := ⟨by decide +kernel, rfl⟩
theorem d_R_extend_57 : dc b_R_extend 57 (.getfield 45) 3 60 := ⟨by decide +kernel, rfl⟩
theorem d_R_extend_60 : dc b_R_extend 60 (.iload_n 3) 1 61 := ⟨by decide +kernel, rfl⟩
theorem d_R_extend_61 : dc b_R_extend 61 (.iaload) 1 62 := ⟨by decide +kernel, rfl⟩
theorem d_R_extend_62 : dc b_R_extend 62 (.iconst 1) 1 63 := ⟨by decide +kernel, rfl⟩
theorem d_R_extend_63 : db b_R_extend 63 (.if_icmp .ne 16) 16 79 66 := ⟨by decide +kernel, by decide, rfl⟩
theorem d_R_extend_66 : dc b_R_extend 66 (.aload_n 0) 1 67 := ⟨by decide +kernel, rfl⟩
theorem d_R_extend_67 : dc b_R_extend 67 (.getfield 42) 3 70 := ⟨by decide +kernel, rfl⟩
theorem d_R_extend_70 : dc b_R_extend 70 (.iconst 2) 1 71 := ⟨by decide +kernel, rfl⟩
theorem d_R_extend_71 : dc b_R_extend 71 (.iload_n 3) 1 72 := ⟨by decide +kernel, rfl⟩
theorem d_R_extend_72 : dc b_R_extend 72 (.imul) 1 73 := ⟨by decide +kernel, rfl⟩
theorem d_R_extend_73 : dc b_R_extend 73 (.iaload) 1 74 := ⟨by decide +kernel, rfl⟩
theorem d_R_extend_74 : dc b_R_extend 74 (.iload 4) 2 76 := ⟨by decide +kernel, rfl⟩
theorem d_R_extend_76 : db b_R_extend 76 (.if_icmp .eq 18) 18 94 79 := ⟨by decide +kernel, by decide, rfl⟩
theorem d_R_extend_79 : dc b_R_extend 79 (.aload_n 0) 1 80 := ⟨by decide +kernel, rfl⟩
theorem d_R_extend_80 : dc b_R_extend 80 (.aload_n 0) 1 81 := ⟨by decide +kernel, rfl⟩
theorem d_R_extend_81 : dc b_R_extend 81 (.getfield 29) 3 84 := ⟨by decide +kernel, rfl⟩
theorem d_R_extend_84 : dc b_R_extend 84 (.iload_n 3) 1 85 := ⟨by decide +kernel, rfl⟩
theorem d_R_extend_85 : dc b_R_extend 85 (.iaload) 1 86 := ⟨by decide +kernel, rfl⟩
theorem d_R_extend_86 : dc b_R_extend 86 (.iload 4) 2 88 := ⟨by decide +kernel, rfl⟩
theorem d_R_extend_88 : dc b_R_extend 88 (.invokevirtual 201) 3 91 := ⟨by decide +kernel, rfl⟩
theorem d_R_extend_91 : db b_R_extend 91 (.ifCond .ne 5) 5 96 94 := ⟨by decide +kernel, by decide, rfl⟩
theorem d_R_extend_94 : dc b_R_extend 94 (.iconst 0) 1 95 := ⟨by decide +kernel, rfl⟩
theorem d_R_extend_95 : dc b_R_extend 95 (.ireturn) 1 96 := ⟨by decide +kernel, rfl⟩
theorem d_R_extend_96 : dc b_R_extend 96 (.aload_n 0) 1 97 := ⟨by decide +kernel, rfl⟩
theorem d_R_extend_97 : dc b_R_extend 97 (.getfield 42) 3 100 := ⟨by decide +kernel, rfl⟩
theorem d_R_extend_100 : dc b_R_extend 100 (.iconst 2) 1 101 := ⟨by decide +kernel, rfl⟩
theorem d_R_extend_101 : dc b_R_extend 101 (.iload_n 3) 1 102 := ⟨by decide +kernel, rfl⟩
theorem d_R_extend_102 : dc b_R_extend 102 (.imul) 1 103 := ⟨by decide +kernel, rfl⟩
theorem d_R_extend_103 : dc b_R_extend 103 (.aload_n 0) 1 104 := ⟨by decide +kernel, rfl⟩
theorem d_R_extend_104 : dc b_R_extend 104 (.getfield 45) 3 107 := ⟨by decide +kernel, rfl⟩
theorem d_R_extend_107 : dc b_R_extend 107 (.iload_n 3) 1 108 := ⟨by decide +kernel, rfl⟩
theorem d_R_extend_108 : dc b_R_extend 108 (.iaload) 1 109 := ⟨by decide +kernel, rfl⟩
theorem d_R_extend_109 : dc b_R_extend 109 (.iadd) 1 110 := ⟨by decide +kernel, rfl⟩
theorem d_R_extend_110 : dc b_R_extend 110 (.iload 4) 2 112 := ⟨by decide +kernel, rfl⟩
theorem d_R_extend_112 : dc b_R_extend 112 (.iastore) 1 113 := ⟨by decide +kernel, rfl⟩
theorem d_R_extend_113 : dc b_R_extend 113 (.aload_n 0) 1 114 := ⟨by decide +kernel, rfl⟩
theorem d_R_extend_114 : dc b_R_extend 114 (.getfield 45) 3 117 := ⟨by decide +kernel, rfl⟩
theorem d_R_extend_117 : dc b_R_extend 117 (.iload_n 3) 1 118 := ⟨by decide +kernel, rfl⟩
theorem d_R_extend_118 : dc b_R_extend 118 (.aload_n 0) 1 119 := ⟨by decide +kernel, rfl⟩
theorem d_R_extend_119 : dc b_R_extend 119 (.getfield 45) 3 122 := ⟨by decide +kernel, rfl⟩
theorem d_R_extend_122 : dc b_R_extend 122 (.iload_n 3) 1 123 := ⟨by decide +kernel, rfl⟩
theorem d_R_extend_123 : dc b_R_extend 123 (.iaload) 1 124 := ⟨by decide +kernel, rfl⟩
theorem d_R_extend_124 : dc b_R_extend 124 (.iconst 1) 1 125 := ⟨by decide +kernel, rfl⟩
theorem d_R_extend_125 : dc b_R_extend 125 (.iadd) 1 126 := ⟨by decide +kernel, rfl⟩
theorem d_R_extend_126 : dc b_R_extend 126 (.iastore) 1 127 := ⟨by decide +kernel, rfl⟩
theorem d_R_extend_127 : dc b_R_extend 127 (.iconst 1) 1 128 := ⟨by decide +kernel, rfl⟩
theorem d_R_extend_128 : dc b_R_extend 128 (.ireturn) 1 129 := ⟨by decide +kernel, rfl⟩
def f_R_extend_J79 (S : gS) (o : Nat) (d : gD) (v3 : Int32) (v4 : Int32) : Option (Int32 × gD) :=
  kd S o 10 <|
  lt_ (sP S o 6) fun x2 =>
  nn x2 fun a3 =>
  kd S a3 50 <|
  gi v3 (sN S a3) <|
  lt_ (dI d a3 v3.toNatClampNeg) fun x6 =>
  bd (f_R_visible S d o x6 v4) fun x7 =>
  if x7 = 0 then (
    some (0, d))
  else (
    lt_ (sP S o 10) fun x9 =>
    lt_ (sP S o 11) fun x10 =>
    nn x10 fun a11 =>
    kd S a11 50 <|
    gi v3 (sN S a11) <|
    lt_ (dI d a11 v3.toNatClampNeg) fun x14 =>
    nn x9 fun a15 =>
    kd S a15 50 <|
    gi ((2 * v3) + x14) (sN S a15) <|
    lt_ (wI d a15 ((2 * v3) + x14 : Int32).toNatClampNeg v4) fun d18 =>
    lt_ (sP S o 11) fun x19 =>
    lt_ (sP S o 11) fun x20 =>
    nn x20 fun a21 =>
    kd S a21 50 <|
    gi v3 (sN S a21) <|
    lt_ (dI d18 a21 v3.toNatClampNeg) fun x24 =>
    nn x19 fun a25 =>
    kd S a25 50 <|
    gi v3 (sN S a25) <|
    lt_ (wI d18 a25 v3.toNatClampNeg (x24 + 1)) fun d28 =>
    some (1, d28))
set_option maxRecDepth 100000 in
set_option maxHeartbeats 4000000 in
theorem w_R_extend_J79 {X : GX} (hE : gE X b_R_extend 5 "StandInMillModel" (some (.boolean)) "extend" 3 72) {S : gS} {o : Nat} {r : Int32} {d' : gD} :
    ∀ (d : gD) (v3 : Int32) (v4 : Int32), f_R_extend_J79 S o d v3 v4 = some (r, d') → gw X 0 0 (gQ X (some (.int r)) S d' 0 0) S d 79 [some (va_rf (some o)), none, none, some (.int v3), some (.int v4)] [] := by
  intro d v3 v4 h
  unfold f_R_extend_J79 at h
  refine g_aload_n (i := 0) hE d_R_extend_79 rfl rfl ?_
  refine g_aload_n (i := 0) hE d_R_extend_80 rfl rfl ?_
  obtain ⟨k1, h⟩ := kd_s h
  refine g_getR 6 hE kc_R k1 (Nat.le_of_ble_eq_true rfl) rfl m_382 d_R_extend_81 (fun x2 e => ?_)
  replace h := lt_i e h; clear e
  refine g_iload_n (i := 3) hE d_R_extend_84 rfl rfl ?_
  obtain ⟨a3, rfl, h⟩ := nn_s h
  obtain ⟨k4, h⟩ := kd_s h
  obtain ⟨g5, h⟩ := gi_s h
  refine g_iald hE k4 g5 d_R_extend_85 (fun x6 e => ?_)
  replace h := lt_i e h; clear e
  refine g_iload (i := 4) hE d_R_extend_86 rfl ?_
  obtain ⟨x7, e8, h⟩ := bd_s h
  refine g_callV (av := [.inr (.inr (some o)), .inl x6, .inl v4]) (as := [.inl x6, .inl v4]) (stk := [.int x7]) [] hE (c_R_visible (xl X) (xG X) e8) ky_R_visible ⟨Nat.le_of_ble_eq_true rfl, Nat.le_of_ble_eq_true rfl⟩ rfl kc_R k1 m_462 m_463 m_464 rfl d_R_extend_88 rfl rfl ct_0 (Nat.zero_le _) (Nat.zero_le _) ?_
  refine gw.cs (c2 := 0) (s2 := 0) rfl rfl ?_
  refine g_if_ne hE d_R_extend_91 (fun c29 => ?_) (fun c29 => ?_)
  · replace h := if_f c29 h
    refine g_aload_n (i := 0) hE d_R_extend_96 rfl rfl ?_
    refine g_getR 10 hE kc_R k1 (Nat.le_of_ble_eq_true rfl) rfl m_387 d_R_extend_97 (fun x9 e => ?_)
    replace h := lt_i e h; clear e
    refine g_iconst hE d_R_extend_100 ki_2 ?_
    refine g_iload_n (i := 3) hE d_R_extend_101 rfl rfl ?_
    refine g_imul hE d_R_extend_102 ?_
    refine g_aload_n (i := 0) hE d_R_extend_103 rfl rfl ?_
    refine g_getR 11 hE kc_R k1 (Nat.le_of_ble_eq_true rfl) rfl m_388 d_R_extend_104 (fun x10 e => ?_)
    replace h := lt_i e h; clear e
    refine g_iload_n (i := 3) hE d_R_extend_107 rfl rfl ?_
    obtain ⟨a11, rfl, h⟩ := nn_s h
    obtain ⟨k12, h⟩ := kd_s h
    obtain ⟨g13, h⟩ := gi_s h
    refine g_iald hE k12 g13 d_R_extend_108 (fun x14 e => ?_)
    replace h := lt_i e h; clear e
    refine g_iadd hE d_R_extend_109 ?_
    refine g_iload (i := 4) hE d_R_extend_110 rfl ?_
    obtain ⟨a15, rfl, h⟩ := nn_s h
    obtain ⟨k16, h⟩ := kd_s h
    obtain ⟨g17, h⟩ := gi_s h
    refine g_iast hE k16 g17 d_R_extend_112 (fun d18 e => ?_)
    replace h := lt_i e h; clear e
    refine g_aload_n (i := 0) hE d_R_extend_113 rfl rfl ?_
    refine g_getR 11 hE kc_R k1 (Nat.le_of_ble_eq_true rfl) rfl m_388 d_R_extend_114 (fun x19 e => ?_)
    replace h := lt_i e h; clear e
    refine g_iload_n (i := 3) hE d_R_extend_117 rfl rfl ?_
    refine g_aload_n (i := 0) hE d_R_extend_118 rfl rfl ?_
    refine g_getR 11 hE kc_R k1 (Nat.le_of_ble_eq_true rfl) rfl m_388 d_R_extend_119 (fun x20 e => ?_)
    replace h := lt_i e h; clear e
    refine g_iload_n (i := 3) hE d_R_extend_122 rfl rfl ?_
    obtain ⟨a21, rfl, h⟩ := nn_s h
    obtain ⟨k22, h⟩ := kd_s h
    obtain ⟨g23, h⟩ := gi_s h
    refine g_iald hE k22 g23 d_R_extend_123 (fun x24 e => ?_)
    replace h := lt_i e h; clear e
    refine g_iconst hE d_R_extend_124 ki_1 ?_
    refine g_iadd hE d_R_extend_125 ?_
    obtain ⟨a25, rfl, h⟩ := nn_s h
    obtain ⟨k26, h⟩ := kd_s h
    obtain ⟨g27, h⟩ := gi_s h
    refine g_iast hE k26 g27 d_R_extend_126 (fun d28 e => ?_)
    replace h := lt_i e h; clear e
    refine g_iconst hE d_R_extend_127 ki_1 ?_
    cases h
    exact g_zret hE (Or.inr rfl) d_R_extend_128 rfl rfl
  · replace h := if_t c29 h
    refine g_iconst hE d_R_extend_94 ki_0 ?_
    cases h
    exact g_zret hE (Or.inl rfl) d_R_extend_95 rfl rfl
set_option maxRecDepth 100000 in
def f_R_extend (S : gS) (d : gD) (o : Nat) (v1 : Int32) (v2 : Int32) : Option (Int32 × gD) :=
  kd S o 10 <|
  lt_ (wI d o 0 0) fun d2 =>
  bd (f_R_isFace S d2 o v1) fun x3 =>
  if x3 = 0 then (
    some (0, d2))
  else (
    bd (f_R_isFace S d2 o v2) fun x5 =>
    if x5 = 0 then (
      some (0, d2))
    else (
      if v1 ≤ v2 then (
        some (0, d2))
      else (
        lt_ (dI d2 o 21) fun x7 =>
        if x7 ≤ 0 then (
          lt_ (sP S o 11) fun x8 =>
          nn x8 fun a9 =>
          kd S a9 50 <|
          gi (v1 - 24) (sN S a9) <|
          lt_ (dI d2 a9 (v1 - 24 : Int32).toNatClampNeg) fun x12 =>
          if x12 = 2 then (
            some (0, d2))
          else (
            lt_ (sP S o 11) fun x13 =>
            nn x13 fun a14 =>
            kd S a14 50 <|
            gi (v1 - 24) (sN S a14) <|
            lt_ (dI d2 a14 (v1 - 24 : Int32).toNatClampNeg) fun x17 =>
            if x17 = 1 then (
              lt_ (sP S o 10) fun x18 =>
              nn x18 fun a19 =>
              kd S a19 50 <|
              gi (2 * (v1 - 24)) (sN S a19) <|
              lt_ (dI d2 a19 (2 * (v1 - 24) : Int32).toNatClampNeg) fun x22 =>
              if x22 = (v2 - 24) then (
                some (0, d2))
              else (
                f_R_extend_J79 S o d2 (v1 - 24) (v2 - 24)))
            else (
              f_R_extend_J79 S o d2 (v1 - 24) (v2 - 24))))
        else (
          some (0, d2)))))
set_option maxRecDepth 100000 in
set_option maxHeartbeats 4000000 in
theorem c_R_extend (l : Launch) (G : gG) {S : gS} {d : gD} {o : Nat} {v1 : Int32} {v2 : Int32} {r : Int32} {d' : gD} (h : f_R_extend S d o v1 v2 = some (r, d')) : GM l G y_R_extend b_R_extend 5 (some (.boolean)) 3 72 0 0 [.inr (.inr (some o)), .inl v1, .inl v2] S d (some (.int r)) S d' := by
  refine GM.of (by decide) (Nat.le_of_ble_eq_true rfl) ?_
  intro X hl0 hG0 hR0 hE0
  have hE : gE X b_R_extend 5 "StandInMillModel" (some (.boolean)) "extend" 3 72 := hE0
  unfold f_R_extend at h
  refine gw.less (lv' := [some (va_rf (some o)), some (.int v1), some (.int v2), none, none]) (And.intro rfl (And.intro rfl (And.intro rfl trivial))) ?_
  refine g_aload_n (i := 0) hE d_R_extend_0 rfl rfl ?_
  refine g_iconst hE d_R_extend_1 ki_0 ?_
  obtain ⟨k1, h⟩ := kd_s h
  refine g_putI 0 hE kc_R k1 (Nat.le_of_ble_eq_true rfl) rfl m_376 rfl (by decide +kernel) d_R_extend_2 (fun d2 e => ?_)
  replace h := lt_i e h; clear e
  refine g_aload_n (i := 0) hE d_R_extend_5 rfl rfl ?_
  refine g_iload_n (i := 1) hE d_R_extend_6 rfl rfl ?_
  obtain ⟨x3, e4, h⟩ := bd_s h
  refine g_callV (av := [.inr (.inr (some o)), .inl v1]) (as := [.inl v1]) (stk := [.int x3]) [] hE (c_R_isFace (xl X) (xG X) e4) ky_R_isFace ⟨Nat.le_of_ble_eq_true rfl, Nat.le_of_ble_eq_true rfl⟩ rfl kc_R k1 m_430 m_431 m_432 rfl d_R_extend_7 rfl rfl ct_0 (Nat.zero_le _) (Nat.zero_le _) ?_
  refine gw.cs (c2 := 0) (s2 := 0) rfl rfl ?_
  refine g_if_eq hE d_R_extend_10 (fun c29 => ?_) (fun c29 => ?_)
  · replace h := if_t c29 h
    refine g_iconst hE d_R_extend_33 ki_0 ?_
    cases h
    exact g_zret hE (Or.inl rfl) d_R_extend_34 rfl rfl
  · replace h := if_f c29 h
    refine g_aload_n (i := 0) hE d_R_extend_13 rfl rfl ?_
    refine g_iload_n (i := 2) hE d_R_extend_14 rfl rfl ?_
    obtain ⟨x5, e6, h⟩ := bd_s h
    refine g_callV (av := [.inr (.inr (some o)), .inl v2]) (as := [.inl v2]) (stk := [.int x5]) [] hE (c_R_isFace (xl X) (xG X) e6) ky_R_isFace ⟨Nat.le_of_ble_eq_true rfl, Nat.le_of_ble_eq_true rfl⟩ rfl kc_R k1 m_430 m_431 m_432 rfl d_R_extend_15 rfl rfl ct_0 (Nat.zero_le _) (Nat.zero_le _) ?_
    refine gw.cs (c2 := 0) (s2 := 0) rfl rfl ?_
    refine g_if_eq hE d_R_extend_18 (fun c28 => ?_) (fun c28 => ?_)
    · replace h := if_t c28 h
      refine g_iconst hE d_R_extend_33 ki_0 ?_
      cases h
      exact g_zret hE (Or.inl rfl) d_R_extend_34 rfl rfl
    · replace h := if_f c28 h
      refine g_iload_n (i := 2) hE d_R_extend_21 rfl rfl ?_
      refine g_iload_n (i := 1) hE d_R_extend_22 rfl rfl ?_
      refine g_icmp_ge hE d_R_extend_23 (fun c27 => ?_) (fun c27 => ?_)
      · replace h := if_t c27 h
        refine g_iconst hE d_R_extend_33 ki_0 ?_
        cases h
        exact g_zret hE (Or.inl rfl) d_R_extend_34 rfl rfl
      · replace h := if_f c27 h
        refine g_aload_n (i := 0) hE d_R_extend_26 rfl rfl ?_
        refine g_getI 21 hE kc_R k1 (Nat.le_of_ble_eq_true rfl) rfl m_398 d_R_extend_27 (fun x7 e => ?_)
        replace h := lt_i e h; clear e
        refine g_if_le hE d_R_extend_30 (fun c26 => ?_) (fun c26 => ?_)
        · replace h := if_t c26 h
          refine g_iload_n (i := 1) hE d_R_extend_35 rfl rfl ?_
          refine g_bipush hE d_R_extend_36 kb_24 ?_
          refine g_isub hE d_R_extend_38 ?_
          refine g_istore_n (i := 3) (lv' := [some (va_rf (some o)), some (.int v1), some (.int v2), some (.int (v1 - 24)), none]) hE d_R_extend_39 rfl (Nat.le_of_ble_eq_true rfl) ⟨rfl, Nat.le_of_ble_eq_true rfl⟩ (lvp_i rfl) ?_
          refine g_iload_n (i := 2) hE d_R_extend_40 rfl rfl ?_
          refine g_bipush hE d_R_extend_41 kb_24 ?_
          refine g_isub hE d_R_extend_43 ?_
          refine g_istore (i := 4) (lv' := [some (va_rf (some o)), some (.int v1), some (.int v2), some (.int (v1 - 24)), some (.int (v2 - 24))]) hE d_R_extend_44 (Nat.le_of_ble_eq_true rfl) ⟨rfl, Nat.le_of_ble_eq_true rfl⟩ (lvp_i rfl) ?_
          refine g_aload_n (i := 0) hE d_R_extend_46 rfl rfl ?_
          refine g_getR 11 hE kc_R k1 (Nat.le_of_ble_eq_true rfl) rfl m_388 d_R_extend_47 (fun x8 e => ?_)
          replace h := lt_i e h; clear e
          refine g_iload_n (i := 3) hE d_R_extend_50 rfl rfl ?_
          obtain ⟨a9, rfl, h⟩ := nn_s h
          obtain ⟨k10, h⟩ := kd_s h
          obtain ⟨g11, h⟩ := gi_s h
          refine g_iald hE k10 g11 d_R_extend_51 (fun x12 e => ?_)
          replace h := lt_i e h; clear e
          refine g_iconst hE d_R_extend_52 ki_2 ?_
          refine g_icmp_eq hE d_R_extend_53 (fun c25 => ?_) (fun c25 => ?_)
          · replace h := if_t c25 h
            refine g_iconst hE d_R_extend_94 ki_0 ?_
            cases h
            exact g_zret hE (Or.inl rfl) d_R_extend_95 rfl rfl
          · replace h := if_f c25 h
            refine g_aload_n (i := 0) hE d_R_extend_56 rfl rfl ?_
            refine g_getR 11 hE kc_R k1 (Nat.le_of_ble_eq_true rfl) rfl m_388 d_R_extend_57 (fun x13 e => ?_)
            replace h := lt_i e h; clear e
            refine g_iload_n (i := 3) hE d_R_extend_60 rfl rfl ?_
            obtain ⟨a14, rfl, h⟩ := nn_s h
            obtain ⟨k15, h⟩ := kd_s h
            obtain ⟨g16, h⟩ := gi_s h
            refine g_iald hE k15 g16 d_R_extend_61 (fun x17 e => ?_)
            replace h := lt_i e h; clear e
            refine g_iconst hE d_R_extend_62 ki_1 ?_
            refine g_icmp_ne hE d_R_extend_63 (fun c24 => ?_) (fun c24 => ?_)
            · replace h := if_f c24 h
              exact gw.less (lv' := [some (va_rf (some o)), none, none, some (.int (v1 - 24)), some (.int (v2 - 24))]) (And.intro rfl (And.intro rfl (And.intro rfl trivial))) (w_R_extend_J79 hE d2 (v1 - 24) (v2 - 24) h)
            · replace h := if_t c24 h
              refine g_aload_n (i := 0) hE d_R_extend_66 rfl rfl ?_
              refine g_getR 10 hE kc_R k1 (Nat.le_of_ble_eq_true rfl) rfl m_387 d_R_extend_67 (fun x18 e => ?_)
              replace h := lt_i e h; clear e
              refine g_iconst hE d_R_extend_70 ki_2 ?_
              refine g_iload_n (i := 3) hE d_R_extend_71 rfl rfl ?_
              refine g_imul hE d_R_extend_72 ?_
              obtain ⟨a19, rfl, h⟩ := nn_s h
              obtain ⟨k20, h⟩ := kd_s h
              obtain ⟨g21, h⟩ := gi_s h
              refine g_iald hE k20 g21 d_R_extend_73 (fun x22 e => ?_)
              replace h := lt_i e h; clear e
              refine g_iload (i := 4) hE d_R_extend_74 rfl ?_
              refine g_icmp_eq hE d_R_extend_76 (fun c23 => ?_) (fun c23 => ?_)
              · replace h := if_t c23 h
                refine g_iconst hE d_R_extend_94 ki_0 ?_
                cases h
                exact g_zret hE (Or.inl rfl) d_R_extend_95 rfl rfl
              · replace h := if_f c23 h
                exact gw.less (lv' := [some (va_rf (some o)), none, none, some (.int (v1 - 24)), some (.int (v2 - 24))]) (And.intro rfl (And.intro rfl (And.intro rfl trivial))) (w_R_extend_J79 hE d2 (v1 - 24) (v2 - 24) h)
        · replace h := if_f c26 h
          refine g_iconst hE d_R_extend_33 ki_0 ?_
          cases h
          exact g_zret hE (Or.inl rfl) d_R_extend_34 rfl rfl
