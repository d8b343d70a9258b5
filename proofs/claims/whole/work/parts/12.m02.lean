theorem d_M_faceMadeBy_0 : dc b_M_faceMadeBy 0 (.iconst 0) 1 1 := ⟨by decide +kernel, rfl⟩
theorem d_M_faceMadeBy_1 : dc b_M_faceMadeBy 1 (.istore 4) 2 3 := ⟨by decide +kernel, rfl⟩
theorem d_M_faceMadeBy_3 : dc b_M_faceMadeBy 3 (.iload 4) 2 5 := ⟨by decide +kernel, rfl⟩
theorem d_M_faceMadeBy_5 : dc b_M_faceMadeBy 5 (.aload_n 0) 1 6 := ⟨by decide +kernel, rfl⟩
theorem d_M_faceMadeBy_6 : dc b_M_faceMadeBy 6 (.getfield 102) 3 9 := ⟨by decide +kernel, rfl⟩
theorem d_M_faceMadeBy_9 : db b_M_faceMadeBy 9 (.if_icmp .ge 57) 57 66 12 := ⟨by decide +kernel, by decide, rfl⟩
theorem d_M_faceMadeBy_12 : dc b_M_faceMadeBy 12 (.aload_n 0) 1 13 := ⟨by decide +kernel, rfl⟩
theorem d_M_faceMadeBy_13 : dc b_M_faceMadeBy 13 (.getfield 22) 3 16 := ⟨by decide +kernel, rfl⟩
theorem d_M_faceMadeBy_16 : dc b_M_faceMadeBy 16 (.iload 4) 2 18 := ⟨by decide +kernel, rfl⟩
theorem d_M_faceMadeBy_18 : dc b_M_faceMadeBy 18 (.aaload) 1 19 := ⟨by decide +kernel, rfl⟩
theorem d_M_faceMadeBy_19 : dc b_M_faceMadeBy 19 (.getfield 124) 3 22 := ⟨by decide +kernel, rfl⟩
theorem d_M_faceMadeBy_22 : dc b_M_faceMadeBy 22 (.iload_n 1) 1 23 := ⟨by decide +kernel, rfl⟩
theorem d_M_faceMadeBy_23 : db b_M_faceMadeBy 23 (.if_icmp .ne 37) 37 60 26 := ⟨by decide +kernel, by decide, rfl⟩
theorem d_M_faceMadeBy_26 : dc b_M_faceMadeBy 26 (.aload_n 0) 1 27 := ⟨by decide +kernel, rfl⟩
theorem d_M_faceMadeBy_27 : dc b_M_faceMadeBy 27 (.getfield 22) 3 30 := ⟨by decide +kernel, rfl⟩
theorem d_M_faceMadeBy_30 : dc b_M_faceMadeBy 30 (.iload 4) 2 32 := ⟨by decide +kernel, rfl⟩
theorem d_M_faceMadeBy_32 : dc b_M_faceMadeBy 32 (.aaload) 1 33 := ⟨by decide +kernel, rfl⟩
theorem d_M_faceMadeBy_33 : dc b_M_faceMadeBy 33 (.getfield 314) 3 36 := ⟨by decide +kernel, rfl⟩
theorem d_M_faceMadeBy_36 : dc b_M_faceMadeBy 36 (.iload_n 2) 1 37 := ⟨by decide +kernel, rfl⟩
theorem d_M_faceMadeBy_37 : db b_M_faceMadeBy 37 (.if_icmp .ne 23) 23 60 40 := ⟨by decide +kernel, by decide, rfl⟩
theorem d_M_faceMadeBy_40 : dc b_M_faceMadeBy 40 (.aload_n 0) 1 41 := ⟨by decide +kernel, rfl⟩
theorem d_M_faceMadeBy_41 : dc b_M_faceMadeBy 41 (.getfield 22) 3 44 := ⟨by decide +kernel, rfl⟩
theorem d_M_faceMadeBy_44 : dc b_M_faceMadeBy 44 (.iload 4) 2 46 := ⟨by decide +kernel, rfl⟩
theorem d_M_faceMadeBy_46 : dc b_M_faceMadeBy 46 (.aaload) 1 47 := ⟨by decide +kernel, rfl⟩
theorem d_M_faceMadeBy_47 : dc b_M_faceMadeBy 47 (.getfield 315) 3 50 := ⟨by decide +kernel, rfl⟩
theorem d_M_faceMadeBy_50 : dc b_M_faceMadeBy 50 (.iload_n 3) 1 51 := ⟨by decide +kernel, rfl⟩
theorem d_M_faceMadeBy_51 : db b_M_faceMadeBy 51 (.if_icmp .ne 9) 9 60 54 := ⟨by decide +kernel, by decide, rfl⟩
theorem d_M_faceMadeBy_54 : dc b_M_faceMadeBy 54 (.bipush 24) 2 56 := ⟨by decide +kernel, rfl⟩
theorem d_M_faceMadeBy_56 : dc b_M_faceMadeBy 56 (.iload 4) 2 58 := ⟨by decide +kernel, rfl⟩
theorem d_M_faceMadeBy_58 : dc b_M_faceMadeBy 58 (.iadd) 1 59 := ⟨by decide +kernel, rfl⟩
theorem d_M_faceMadeBy_59 : dc b_M_faceMadeBy 59 (.ireturn) 1 60 := ⟨by decide +kernel, rfl⟩
theorem d_M_faceMadeBy_60 : dc b_M_faceMadeBy 60 (.iinc 4 1) 3 63 := ⟨by decide +kernel, rfl⟩
theorem d_M_faceMadeBy_63 : db b_M_faceMadeBy 63 (.goto (-60)) (-60) 3 66 := ⟨by decide +kernel, by decide, rfl⟩
theorem d_M_faceMadeBy_66 : dc b_M_faceMadeBy 66 (.iconst (-1)) 1 67 := ⟨by decide +kernel, rfl⟩
theorem d_M_faceMadeBy_67 : dc b_M_faceMadeBy 67 (.ireturn) 1 68 := ⟨by decide +kernel, rfl⟩
def f_M_faceMadeBy_J60 (S : gS) (d : gD) (o : Nat) (kx54 : Int32 → Option (Int32)) (kb : Int32 → Int32 → Int32 → Int32 → Option (Int32)) (v1 : Int32) (v2 : Int32) (v3 : Int32) (v4 : Int32) : Option (Int32) :=
  kb v1 v2 v3 (v4 + 1)
set_option maxRecDepth 100000 in
set_option maxHeartbeats 4000000 in
theorem w_M_faceMadeBy_J60 {X : GX} (hE : gE X b_M_faceMadeBy 5 "StandInMill" (some (.int)) "faceMadeBy" 0 0) {S : gS} {d : gD} {o : Nat} {r : Int32} {kb : Int32 → Int32 → Int32 → Int32 → Option (Int32)} {kx54 : Int32 → Option (Int32)} (hkb : ∀ (v1 : Int32) (v2 : Int32) (v3 : Int32) (v4 : Int32), kb v1 v2 v3 v4 = some r → gw X 0 0 (gQ X (some (.int r)) S d 0 0) S d 3 [some (va_rf (some o)), some (.int v1), some (.int v2), some (.int v3), some (.int v4)] []) (hkx54 : ∀ (v4 : Int32), kx54 v4 = some r → gw X 0 0 (gQ X (some (.int r)) S d 0 0) S d 54 [some (va_rf (some o)), none, none, none, some (.int v4)] []) :
    ∀ (v1 : Int32) (v2 : Int32) (v3 : Int32) (v4 : Int32), f_M_faceMadeBy_J60 S d o kx54 kb v1 v2 v3 v4 = some r → gw X 0 0 (gQ X (some (.int r)) S d 0 0) S d 60 [some (va_rf (some o)), some (.int v1), some (.int v2), some (.int v3), some (.int v4)] [] := by
  intro v1 v2 v3 v4 h
  unfold f_M_faceMadeBy_J60 at h
  refine g_iinc (i := 4) (lv' := [some (va_rf (some o)), some (.int v1), some (.int v2), some (.int v3), some (.int (v4 + 1))]) hE d_M_faceMadeBy_60 ki_1 rfl (Nat.le_of_ble_eq_true rfl) ⟨rfl, Nat.le_of_ble_eq_true rfl⟩ (lvp_i rfl) ?_
  refine g_goto hE d_M_faceMadeBy_63 ?_
  exact gw.less (lv' := [some (va_rf (some o)), some (.int v1), some (.int v2), some (.int v3), some (.int (v4 + 1))]) (And.intro rfl (And.intro rfl (And.intro rfl (And.intro rfl (And.intro rfl trivial))))) (hkb v1 v2 v3 (v4 + 1) h)
def f_M_faceMadeBy_B3 (S : gS) (d : gD) (o : Nat) (kx54 : Int32 → Option (Int32)) (kb : Int32 → Int32 → Int32 → Int32 → Option (Int32)) (v1 : Int32) (v2 : Int32) (v3 : Int32) (v4 : Int32) : Option (Int32) :=
  kd S o 1 <|
  lt_ (dI d o 4) fun x2 =>
  if x2 ≤ v4 then (
    some (-1))
  else (
    lt_ (sP S o 3) fun x3 =>
    nn x3 fun a4 =>
    kd S a4 60 <|
    gi v4 (sN S a4) <|
    lt_ (sP S a4 v4.toNatClampNeg) fun x7 =>
    nn x7 fun a8 =>
    kd S a8 4 <|
    lt_ (dI d a8 0) fun x10 =>
    if x10 = v1 then (
      lt_ (sP S o 3) fun x11 =>
      nn x11 fun a12 =>
      kd S a12 60 <|
      gi v4 (sN S a12) <|
      lt_ (sP S a12 v4.toNatClampNeg) fun x15 =>
      nn x15 fun a16 =>
      kd S a16 4 <|
      lt_ (dI d a16 1) fun x18 =>
      if x18 = v2 then (
        lt_ (sP S o 3) fun x19 =>
        nn x19 fun a20 =>
        kd S a20 60 <|
        gi v4 (sN S a20) <|
        lt_ (sP S a20 v4.toNatClampNeg) fun x23 =>
        nn x23 fun a24 =>
        kd S a24 4 <|
        lt_ (dI d a24 2) fun x26 =>
        if x26 = v3 then (
          kx54 v4)
        else (
          f_M_faceMadeBy_J60 S d o kx54 kb v1 v2 v3 v4))
      else (
        f_M_faceMadeBy_J60 S d o kx54 kb v1 v2 v3 v4))
    else (
      f_M_faceMadeBy_J60 S d o kx54 kb v1 v2 v3 v4))
set_option maxRecDepth 100000 in
set_option maxHeartbeats 4000000 in
theorem w_M_faceMadeBy_B3 {X : GX} (hE : gE X b_M_faceMadeBy 5 "StandInMill" (some (.int)) "faceMadeBy" 0 0) {S : gS} {d : gD} {o : Nat} {r : Int32} {kb : Int32 → Int32 → Int32 → Int32 → Option (Int32)} {kx54 : Int32 → Option (Int32)} (hkb : ∀ (v1 : Int32) (v2 : Int32) (v3 : Int32) (v4 : Int32), kb v1 v2 v3 v4 = some r → gw X 0 0 (gQ X (some (.int r)) S d 0 0) S d 3 [some (va_rf (some o)), some (.int v1), some (.int v2), some (.int v3), some (.int v4)] []) (hkx54 : ∀ (v4 : Int32), kx54 v4 = some r → gw X 0 0 (gQ X (some (.int r)) S d 0 0) S d 54 [some (va_rf (some o)), none, none, none, some (.int v4)] []) :
    ∀ (v1 : Int32) (v2 : Int32) (v3 : Int32) (v4 : Int32), f_M_faceMadeBy_B3 S d o kx54 kb v1 v2 v3 v4 = some r → gw X 0 0 (gQ X (some (.int r)) S d 0 0) S d 3 [some (va_rf (some o)), some (.int v1), some (.int v2), some (.int v3), some (.int v4)] [] := by
  intro v1 v2 v3 v4 h
  unfold f_M_faceMadeBy_B3 at h
  refine g_iload (i := 4) hE d_M_faceMadeBy_3 rfl ?_
  refine g_aload_n (i := 0) hE d_M_faceMadeBy_5 rfl rfl ?_
  obtain ⟨k1, h⟩ := kd_s h
  refine g_getI 4 hE kc_M k1 (Nat.le_of_ble_eq_true rfl) rfl m_84 d_M_faceMadeBy_6 (fun x2 e => ?_)
  replace h := lt_i e h; clear e
  refine g_icmp_ge hE d_M_faceMadeBy_9 (fun c30 => ?_) (fun c30 => ?_)
  · replace h := if_t c30 h
    refine g_iconst hE d_M_faceMadeBy_66 ki_m1 ?_
    cases h
    exact g_iret hE d_M_faceMadeBy_67 rfl rfl
  · replace h := if_f c30 h
    refine g_aload_n (i := 0) hE d_M_faceMadeBy_12 rfl rfl ?_
    refine g_getR 3 hE kc_M k1 (Nat.le_of_ble_eq_true rfl) rfl m_44 d_M_faceMadeBy_13 (fun x3 e => ?_)
    replace h := lt_i e h; clear e
    refine g_iload (i := 4) hE d_M_faceMadeBy_16 rfl ?_
    obtain ⟨a4, rfl, h⟩ := nn_s h
    obtain ⟨k5, h⟩ := kd_s h
    obtain ⟨g6, h⟩ := gi_s h
    refine g_aald hE k5 (by decide) rfl (fun _ => rfl) g6 d_M_faceMadeBy_18 (fun x7 e => ?_)
    replace h := lt_i e h; clear e
    obtain ⟨a8, rfl, h⟩ := nn_s h
    obtain ⟨k9, h⟩ := kd_s h
    refine g_getIN 0 hE kc_Fc k9 (Nat.le_of_ble_eq_true rfl) rfl nf_0 d_M_faceMadeBy_19 (fun x10 e => ?_)
    replace h := lt_i e h; clear e
    refine g_iload_n (i := 1) hE d_M_faceMadeBy_22 rfl rfl ?_
    refine g_icmp_ne hE d_M_faceMadeBy_23 (fun c29 => ?_) (fun c29 => ?_)
    · replace h := if_f c29 h
      exact gw.less (lv' := [some (va_rf (some o)), some (.int v1), some (.int v2), some (.int v3), some (.int v4)]) (And.intro rfl (And.intro rfl (And.intro rfl (And.intro rfl (And.intro rfl trivial))))) (w_M_faceMadeBy_J60 hE hkb hkx54 v1 v2 v3 v4 h)
    · replace h := if_t c29 h
      refine g_aload_n (i := 0) hE d_M_faceMadeBy_26 rfl rfl ?_
      refine g_getR 3 hE kc_M k1 (Nat.le_of_ble_eq_true rfl) rfl m_44 d_M_faceMadeBy_27 (fun x11 e => ?_)
      replace h := lt_i e h; clear e
      refine g_iload (i := 4) hE d_M_faceMadeBy_30 rfl ?_
      obtain ⟨a12, rfl, h⟩ := nn_s h
      obtain ⟨k13, h⟩ := kd_s h
      obtain ⟨g14, h⟩ := gi_s h
      refine g_aald hE k13 (by decide) rfl (fun _ => rfl) g14 d_M_faceMadeBy_32 (fun x15 e => ?_)
      replace h := lt_i e h; clear e
      obtain ⟨a16, rfl, h⟩ := nn_s h
      obtain ⟨k17, h⟩ := kd_s h
      refine g_getIN 1 hE kc_Fc k17 (Nat.le_of_ble_eq_true rfl) rfl nf_1 d_M_faceMadeBy_33 (fun x18 e => ?_)
      replace h := lt_i e h; clear e
      refine g_iload_n (i := 2) hE d_M_faceMadeBy_36 rfl rfl ?_
      refine g_icmp_ne hE d_M_faceMadeBy_37 (fun c28 => ?_) (fun c28 => ?_)
      · replace h := if_f c28 h
        exact gw.less (lv' := [some (va_rf (some o)), some (.int v1), some (.int v2), some (.int v3), some (.int v4)]) (And.intro rfl (And.intro rfl (And.intro rfl (And.intro rfl (And.intro rfl trivial))))) (w_M_faceMadeBy_J60 hE hkb hkx54 v1 v2 v3 v4 h)
      · replace h := if_t c28 h
        refine g_aload_n (i := 0) hE d_M_faceMadeBy_40 rfl rfl ?_
        refine g_getR 3 hE kc_M k1 (Nat.le_of_ble_eq_true rfl) rfl m_44 d_M_faceMadeBy_41 (fun x19 e => ?_)
        replace h := lt_i e h; clear e
        refine g_iload (i := 4) hE d_M_faceMadeBy_44 rfl ?_
        obtain ⟨a20, rfl, h⟩ := nn_s h
        obtain ⟨k21, h⟩ := kd_s h
        obtain ⟨g22, h⟩ := gi_s h
        refine g_aald hE k21 (by decide) rfl (fun _ => rfl) g22 d_M_faceMadeBy_46 (fun x23 e => ?_)
        replace h := lt_i e h; clear e
        obtain ⟨a24, rfl, h⟩ := nn_s h
        obtain ⟨k25, h⟩ := kd_s h
        refine g_getIN 2 hE kc_Fc k25 (Nat.le_of_ble_eq_true rfl) rfl nf_2 d_M_faceMadeBy_47 (fun x26 e => ?_)
        replace h := lt_i e h; clear e
        refine g_iload_n (i := 3) hE d_M_faceMadeBy_50 rfl rfl ?_
        refine g_icmp_ne hE d_M_faceMadeBy_51 (fun c27 => ?_) (fun c27 => ?_)
        · replace h := if_f c27 h
          exact gw.less (lv' := [some (va_rf (some o)), some (.int v1), some (.int v2), some (.int v3), some (.int v4)]) (And.intro rfl (And.intro rfl (And.intro rfl (And.intro rfl (And.intro rfl trivial))))) (w_M_faceMadeBy_J60 hE hkb hkx54 v1 v2 v3 v4 h)
        · replace h := if_t c27 h
          exact gw.less (lv' := [some (va_rf (some o)), none, none, none, some (.int v4)]) (And.intro rfl (And.intro rfl trivial)) (hkx54 v4 h)
theorem w_M_faceMadeBy_L3 {X : GX} (hE : gE X b_M_faceMadeBy 5 "StandInMill" (some (.int)) "faceMadeBy" 0 0) {S : gS} {d : gD} {o : Nat} {r : Int32} {kx54 : Int32 → Option (Int32)} (hkx54 : ∀ (v4 : Int32), kx54 v4 = some r → gw X 0 0 (gQ X (some (.int r)) S d 0 0) S d 54 [some (va_rf (some o)), none, none, none, some (.int v4)] []) : ∀ (n : Nat) (v1 : Int32) (v2 : Int32) (v3 : Int32) (v4 : Int32), itr (f_M_faceMadeBy_B3 S d o kx54) (fun _ _ _ _ => none) n v1 v2 v3 v4 = some r → gw X 0 0 (gQ X (some (.int r)) S d 0 0) S d 3 [some (va_rf (some o)), some (.int v1), some (.int v2), some (.int v3), some (.int v4)] [] := by
  intro n
  induction n with
  | zero => intro v1 v2 v3 v4 h; cases h
  | succ n ih => exact w_M_faceMadeBy_B3 hE ih hkx54
def f_M_faceMadeBy_J54 (S : gS) (d : gD) (o : Nat) (v4 : Int32) : Option (Int32) :=
  some (24 + v4)
set_option maxRecDepth 100000 in
set_option maxHeartbeats 4000000 in
theorem w_M_faceMadeBy_J54 {X : GX} (hE : gE X b_M_faceMadeBy 5 "StandInMill" (some (.int)) "faceMadeBy" 0 0) {S : gS} {d : gD} {o : Nat} {r : Int32} :
    ∀ (v4 : Int32), f_M_faceMadeBy_J54 S d o v4 = some r → gw X 0 0 (gQ X (some (.int r)) S d 0 0) S d 54 [some (va_rf (some o)), none, none, none, some (.int v4)] [] := by
  intro v4 h
  unfold f_M_faceMadeBy_J54 at h
  refine g_bipush hE d_M_faceMadeBy_54 kb_24 ?_
  refine g_iload (i := 4) hE d_M_faceMadeBy_56 rfl ?_
  refine g_iadd hE d_M_faceMadeBy_58 ?_
  cases h
  exact g_iret hE d_M_faceMadeBy_59 rfl rfl
set_option maxRecDepth 100000 in
def f_M_faceMadeBy (S : gS) (d : gD) (o : Nat) (v1 : Int32) (v2 : Int32) (v3 : Int32) : Option (Int32) :=
  itr (f_M_faceMadeBy_B3 S d o (f_M_faceMadeBy_J54 S d o)) (fun _ _ _ _ => none) fu v1 v2 v3 0
set_option maxRecDepth 100000 in
set_option maxHeartbeats 4000000 in
theorem c_M_faceMadeBy (l : Launch) (G : gG) {S : gS} {d : gD} {o : Nat} {v1 : Int32} {v2 : Int32} {v3 : Int32} {r : Int32} (h : f_M_faceMadeBy S d o v1 v2 v3 = some r) : GM l G y_M_faceMadeBy b_M_faceMadeBy 5 (some (.int)) 0 0 0 0 [.inr (.inr (some o)), .inl v1, .inl v2, .inl v3] S d (some (.int r)) S d := by
  refine GM.of (by decide) (Nat.le_of_ble_eq_true rfl) ?_
  intro X hl0 hG0 hR0 hE0
  have hE : gE X b_M_faceMadeBy 5 "StandInMill" (some (.int)) "faceMadeBy" 0 0 := hE0
  unfold f_M_faceMadeBy at h
  refine gw.less (lv' := [some (va_rf (some o)), some (.int v1), some (.int v2), some (.int v3), none]) (And.intro rfl (And.intro rfl (And.intro rfl (And.intro rfl trivial)))) ?_
  refine g_iconst hE d_M_faceMadeBy_0 ki_0 ?_
  refine g_istore (i := 4) (lv' := [some (va_rf (some o)), some (.int v1), some (.int v2), some (.int v3), some (.int 0)]) hE d_M_faceMadeBy_1 (Nat.le_of_ble_eq_true rfl) ⟨rfl, Nat.le_of_ble_eq_true rfl⟩ (lvp_i rfl) ?_
  exact gw.less (lv' := [some (va_rf (some o)), some (.int v1), some (.int v2), some (.int v3), some (.int 0)]) (And.intro rfl (And.intro rfl (And.intro rfl (And.intro rfl (And.intro rfl trivial))))) (w_M_faceMadeBy_L3 hE (w_M_faceMadeBy_J54 hE) fu v1 v2 v3 0 h)
theorem d_M_faceFoundBy_0 : dc b_M_faceFoundBy 0 (.iconst (-1)) 1 1 := ⟨by decide +kernel, rfl⟩
theorem d_M_faceFoundBy_1 : dc b_M_faceFoundBy 1 (.istore 4) 2 3 := ⟨by decide +kernel, rfl⟩
theorem d_M_faceFoundBy_3 : dc b_M_faceFoundBy 3 (.iload_n 1) 1 4 := ⟨by decide +kernel, rfl⟩
theorem d_M_faceFoundBy_4 : dc b_M_faceFoundBy 4 (.istore 5) 2 6 := ⟨by decide +kernel, rfl⟩
theorem d_M_faceFoundBy_6 : dc b_M_faceFoundBy 6 (.iconst 0) 1 7 := ⟨by decide +kernel, rfl⟩
theorem d_M_faceFoundBy_7 : dc b_M_faceFoundBy 7 (.istore 6) 2 9 := ⟨by decide +kernel, rfl⟩
theorem d_M_faceFoundBy_9 : dc b_M_faceFoundBy 9 (.iload 6) 2 11 := ⟨by decide +kernel, rfl⟩
theorem d_M_faceFoundBy_11 : dc b_M_faceFoundBy 11 (.iconst 4) 1 12 := ⟨by decide +kernel, rfl⟩
theorem d_M_faceFoundBy_12 : db b_M_faceFoundBy 12 (.if_icmp .ge 49) 49 61 15 := ⟨by decide +kernel, by decide, rfl⟩
theorem d_M_faceFoundBy_15 : dc b_M_faceFoundBy 15 (.iload 5) 2 17 := ⟨by decide +kernel, rfl⟩
theorem d_M_faceFoundBy_17 : dc b_M_faceFoundBy 17 (.iconst (-1)) 1 18 := ⟨by decide +kernel, rfl⟩
theorem d_M_faceFoundBy_18 : db b_M_faceFoundBy 18 (.if_icmp .eq 43) 43 61 21 := ⟨by decide +kernel, by decide, rfl⟩
theorem d_M_faceFoundBy_21 : dc b_M_faceFoundBy 21 (.aload_n 0) 1 22 := ⟨by decide +kernel, rfl⟩
theorem d_M_faceFoundBy_22 : dc b_M_faceFoundBy 22 (.iload 5) 2 24 := ⟨by decide +kernel, rfl⟩
theorem d_M_faceFoundBy_24 : dc b_M_faceFoundBy 24 (.iload_n 2) 1 25 := ⟨by decide +kernel, rfl⟩
theorem d_M_faceFoundBy_25 : dc b_M_faceFoundBy 25 (.iload_n 3) 1 26 := ⟨by decide +kernel, rfl⟩
theorem d_M_faceFoundBy_26 : dc b_M_faceFoundBy 26 (.invokevirtual 311) 3 29 := ⟨by decide +kernel, rfl⟩
theorem d_M_faceFoundBy_29 : dc b_M_faceFoundBy 29 (.istore 7) 2 31 := ⟨by decide +kernel, rfl⟩
theorem d_M_faceFoundBy_31 : dc b_M_faceFoundBy 31 (.iload 7) 2 33 := ⟨by decide +kernel, rfl⟩
theorem d_M_faceFoundBy_33 : dc b_M_faceFoundBy 33 (.iconst (-1)) 1 34 := ⟨by decide +kernel, rfl⟩
theorem d_M_faceFoundBy_34 : db b_M_faceFoundBy 34 (.if_icmp .eq 8) 8 42 37 := ⟨by decide +kernel, by decide, rfl⟩
theorem d_M_faceFoundBy_37 : dc b_M_faceFoundBy 37 (.iload 7) 2 39 := ⟨by decide +kernel, rfl⟩
theorem d_M_faceFoundBy_39 : db b_M_faceFoundBy 39 (.goto 5) 5 44 42 := ⟨by decide +kernel, by decide, rfl⟩
theorem d_M_faceFoundBy_42 : dc b_M_faceFoundBy 42 (.iload 4) 2 44 := ⟨by decide +kernel, rfl⟩
theorem d_M_faceFoundBy_44 : dc b_M_faceFoundBy 44 (.istore 4) 2 46 := ⟨by decide +kernel, rfl⟩
theorem d_M_faceFoundBy_46 : dc b_M_faceFoundBy 46 (.aload_n 0) 1 47 := ⟨by decide +kernel, rfl⟩
theorem d_M_faceFoundBy_47 : dc b_M_faceFoundBy 47 (.getfield 16) 3 50 := ⟨by decide +kernel, rfl⟩
theorem d_M_faceFoundBy_50 : dc b_M_faceFoundBy 50 (.iload 5) 2 52 := ⟨by decide +kernel, rfl⟩
theorem d_M_faceFoundBy_52 : dc b_M_faceFoundBy 52 (.iaload) 1 53 := ⟨by decide +kernel, rfl⟩
theorem d_M_faceFoundBy_53 : dc b_M_faceFoundBy 53 (.istore 5) 2 55 := ⟨by decide +kernel, rfl⟩
theorem d_M_faceFoundBy_55 : dc b_M_faceFoundBy 55 (.iinc 6 1) 3 58 := ⟨by decide +kernel, rfl⟩
theorem d_M_faceFoundBy_58 : db b_M_faceFoundBy 58 (.goto (-49)) (-49) 9 61 := ⟨by decide +kernel, by decide, rfl⟩
theorem d_M_faceFoundBy_61 : dc b_M_faceFoundBy 61 (.iload 4) 2 63 := ⟨by decide +kernel, rfl⟩
theorem d_M_faceFoundBy_63 : dc b_M_faceFoundBy 63 (.ireturn) 1 64 := ⟨by decide +kernel, rfl⟩
def f_M_faceFoundBy_J44 (S : gS) (d : gD) (o : Nat) (kb : Int32 → Int32 → Int32 → Int32 → Int32 → Option (Int32)) (v2 : Int32) (v3 : Int32) (v5 : Int32) (v6 : Int32) (u0 : Int32) : Option (Int32) :=
  kd S o 1 <|
  lt_ (sP S o 1) fun x2 =>
  nn x2 fun a3 =>
  kd S a3 50 <|
  gi v5 (sN S a3) <|
  lt_ (dI d a3 v5.toNatClampNeg) fun x6 =>
  kb v2 v3 u0 x6 (v6 + 1)
set_option maxRecDepth 100000 in
set_option maxHeartbeats 4000000 in
theorem w_M_faceFoundBy_J44 {X : GX} (hE : gE X b_M_faceFoundBy 8 "StandInMill" (some (.int)) "faceFoundBy" 1 24) {S : gS} {d : gD} {o : Nat} {r : Int32} {kb : Int32 → Int32 → Int32 → Int32 → Int32 → Option (Int32)} (hkb : ∀ (v2 : Int32) (v3 : Int32) (v4 : Int32) (v5 : Int32) (v6 : Int32), kb v2 v3 v4 v5 v6 = some r → gw X 0 0 (gQ X (some (.int r)) S d 0 0) S d 9 [some (va_rf (some o)), none, some (.int v2), some (.int v3), some (.int v4), some (.int v5), some (.int v6), none] []) :
    ∀ (v2 : Int32) (v3 : Int32) (v5 : Int32) (v6 : Int32) (u0 : Int32), f_M_faceFoundBy_J44 S d o kb v2 v3 v5 v6 u0 = some r → gw X 0 0 (gQ X (some (.int r)) S d 0 0) S d 44 [some (va_rf (some o)), none, some (.int v2), some (.int v3), none, some (.int v5), some (.int v6), none] [.int u0] := by
  intro v2 v3 v5 v6 u0 h
  unfold f_M_faceFoundBy_J44 at h
  refine g_istore (i := 4) (lv' := [some (va_rf (some o)), none, some (.int v2), some (.int v3), some (.int u0), some (.int v5), some (.int v6), none]) hE d_M_faceFoundBy_44 (Nat.le_of_ble_eq_true rfl) ⟨rfl, Nat.le_of_ble_eq_true rfl⟩ (lvp_i rfl) ?_
  refine g_aload_n (i := 0) hE d_M_faceFoundBy_46 rfl rfl ?_
  obtain ⟨k1, h⟩ := kd_s h
  refine g_getR 1 hE kc_M k1 (Nat.le_of_ble_eq_true rfl) rfl m_42 d_M_faceFoundBy_47 (fun x2 e => ?_)
  replace h := lt_i e h; clear e
  refine g_iload (i := 5) hE d_M_faceFoundBy_50 rfl ?_
  obtain ⟨a3, rfl, h⟩ := nn_s h
  obtain ⟨k4, h⟩ := kd_s h
  obtain ⟨g5, h⟩ := gi_s h
  refine g_iald hE k4 g5 d_M_faceFoundBy_52 (fun x6 e => ?_)
  replace h := lt_i e h; clear e
  refine g_istore (i := 5) (lv' := [some (va_rf (some o)), none, some (.int v2), some (.int v3), some (.int u0), some (.int x6), some (.int v6), none]) hE d_M_faceFoundBy_53 (Nat.le_of_ble_eq_true rfl) ⟨rfl, Nat.le_of_ble_eq_true rfl⟩ (lvp_i rfl) ?_
  refine g_iinc (i := 6) (lv' := [some (va_rf (some o)), none, some (.int v2), some (.int v3), some (.int u0), some (.int x6), some (.int (v6 + 1)), none]) hE d_M_faceFoundBy_55 ki_1 rfl (Nat.le_of_ble_eq_true rfl) ⟨rfl, Nat.le_of_ble_eq_true rfl⟩ (lvp_i rfl) ?_
  refine g_goto hE d_M_faceFoundBy_58 ?_
  exact gw.less (lv' := [some (va_rf (some o)), none, some (.int v2), some (.int v3), some (.int u0), some (.int x6), some (.int (v6 + 1)), none]) (And.intro rfl (And.intro rfl (And.intro rfl (And.intro rfl (And.intro rfl (And.intro rfl trivial)))))) (hkb v2 v3 u0 x6 (v6 + 1) h)
def f_M_faceFoundBy_B9 (S : gS) (d : gD) (o : Nat) (kb : Int32 → Int32 → Int32 → Int32 → Int32 → Option (Int32)) (v2 : Int32) (v3 : Int32) (v4 : Int32) (v5 : Int32) (v6 : Int32) : Option (Int32) :=
  if 4 ≤ v6 then (
    some v4)
  else (
    if v5 = (-1) then (
      some v4)
    else (
      kd S o 1 <|
      bd (f_M_faceMadeBy S d o v5 v2 v3) fun x2 =>
      if x2 = (-1) then (
        f_M_faceFoundBy_J44 S d o kb v2 v3 v5 v6 v4)
      else (
        f_M_faceFoundBy_J44 S d o kb v2 v3 v5 v6 x2)))
set_option maxRecDepth 100000 in
set_option maxHeartbeats 4000000 in
theorem w_M_faceFoundBy_B9 {X : GX} (hE : gE X b_M_faceFoundBy 8 "StandInMill" (some (.int)) "faceFoundBy" 1 24) {S : gS} {d : gD} {o : Nat} {r : Int32} {kb : Int32 → Int32 → Int32 → Int32 → Int32 → Option (Int32)} (hkb : ∀ (v2 : Int32) (v3 : Int32) (v4 : Int32) (v5 : Int32) (v6 : Int32), kb v2 v3 v4 v5 v6 = some r → gw X 0 0 (gQ X (some (.int r)) S d 0 0) S d 9 [some (va_rf (some o)), none, some (.int v2), some (.int v3), some (.int v4), some (.int v5), some (.int v6), none] []) :
    ∀ (v2 : Int32) (v3 : Int32) (v4 : Int32) (v5 : Int32) (v6 : Int32), f_M_faceFoundBy_B9 S d o kb v2 v3 v4 v5 v6 = some r → gw X 0 0 (gQ X (some (.int r)) S d 0 0) S d 9 [some (va_rf (some o)), none, some (.int v2), some (.int v3), some (.int v4), some (.int v5), some (.int v6), none] [] := by
  intro v2 v3 v4 v5 v6 h
  unfold f_M_faceFoundBy_B9 at h
  refine g_iload (i := 6) hE d_M_faceFoundBy_9 rfl ?_
  refine g_iconst hE d_M_faceFoundBy_11 ki_4 ?_
  refine g_icmp_ge hE d_M_faceFoundBy_12 (fun c6 => ?_) (fun c6 => ?_)
  · replace h := if_t c6 h
    refine g_iload (i := 4) hE d_M_faceFoundBy_61 rfl ?_
    cases h
    exact g_iret hE d_M_faceFoundBy_63 rfl rfl
  · replace h := if_f c6 h
    refine g_iload (i := 5) hE d_M_faceFoundBy_15 rfl ?_
    refine g_iconst hE d_M_faceFoundBy_17 ki_m1 ?_
    refine g_icmp_eq hE d_M_faceFoundBy_18 (fun c5 => ?_) (fun c5 => ?_)
    · replace h := if_t c5 h
      refine g_iload (i := 4) hE d_M_faceFoundBy_61 rfl ?_
      cases h
      exact g_iret hE d_M_faceFoundBy_63 rfl rfl
    · replace h := if_f c5 h
      refine g_aload_n (i := 0) hE d_M_faceFoundBy_21 rfl rfl ?_
      refine g_iload (i := 5) hE d_M_faceFoundBy_22 rfl ?_
      refine g_iload_n (i := 2) hE d_M_faceFoundBy_24 rfl rfl ?_
      refine g_iload_n (i := 3) hE d_M_faceFoundBy_25 rfl rfl ?_
      obtain ⟨k1, h⟩ := kd_s h
      obtain ⟨x2, e3, h⟩ := bd_s h
      refine g_callV (av := [.inr (.inr (some o)), .inl v5, .inl v2, .inl v3]) (as := [.inl v5, .inl v2, .inl v3]) (stk := [.int x2]) [] hE (c_M_faceMadeBy (xl X) (xG X) e3) ky_M_faceMadeBy ⟨Nat.le_of_ble_eq_true rfl, Nat.le_of_ble_eq_true rfl⟩ rfl kc_M k1 m_85 m_86 m_87 rfl d_M_faceFoundBy_26 rfl rfl ct_0 (Nat.zero_le _) (Nat.zero_le _) ?_
      refine gw.cs (c2 := 0) (s2 := 0) rfl rfl ?_
      refine g_istore (i := 7) (lv' := [some (va_rf (some o)), none, some (.int v2), some (.int v3), some (.int v4), some (.int v5), some (.int v6), some (.int x2)]) hE d_M_faceFoundBy_29 (Nat.le_of_ble_eq_true rfl) ⟨rfl, Nat.le_of_ble_eq_true rfl⟩ (lvp_i rfl) ?_
      refine g_iload (i := 7) hE d_M_faceFoundBy_31 rfl ?_
      refine g_iconst hE d_M_faceFoundBy_33 ki_m1 ?_
      refine g_icmp_eq hE d_M_faceFoundBy_34 (fun c4 => ?_) (fun c4 => ?_)
      · replace h := if_t c4 h
        refine g_iload (i := 4) hE d_M_faceFoundBy_42 rfl ?_
        exact gw.less (lv' := [some (va_rf (some o)), none, some (.int v2), some (.int v3), none, some (.int v5), some (.int v6), none]) (And.intro rfl (And.intro rfl (And.intro rfl (And.intro rfl (And.intro rfl trivial))))) (w_M_faceFoundBy_J44 hE hkb v2 v3 v5 v6 v4 h)
      · replace h := if_f c4 h
        refine g_iload (i := 7) hE d_M_faceFoundBy_37 rfl ?_
        refine g_goto hE d_M_faceFoundBy_39 ?_
        exact gw.less (lv' := [some (va_rf (some o)), none, some (.int v2), some (.int v3), none, some (.int v5), some (.int v6), none]) (And.intro rfl (And.intro rfl (And.intro rfl (And.intro rfl (And.intro rfl trivial))))) (w_M_faceFoundBy_J44 hE hkb v2 v3 v5 v6 x2 h)
theorem w_M_faceFoundBy_L9 {X : GX} (hE : gE X b_M_faceFoundBy 8 "StandInMill" (some (.int)) "faceFoundBy" 1 24) {S : gS} {d : gD} {o : Nat} {r : Int32} : ∀ (n : Nat) (v2 : Int32) (v3 : Int32) (v4 : Int32) (v5 : Int32) (v6 : Int32), itr (f_M_faceFoundBy_B9 S d o) (fun _ _ _ _ _ => none) n v2 v3 v4 v5 v6 = some r → gw X 0 0 (gQ X (some (.int r)) S d 0 0) S d 9 [some (va_rf (some o)), none, some (.int v2), some (.int v3), some (.int v4), some (.int v5), some (.int v6), none] [] := by
  intro n
  induction n with
  | zero => intro v2 v3 v4 v5 v6 h; cases h
  | succ n ih => exact w_M_faceFoundBy_B9 hE ih
set_option maxRecDepth 100000 in
def f_M_faceFoundBy (S : gS) (d : gD) (o : Nat) (v1 : Int32) (v2 : Int32) (v3 : Int32) : Option (Int32) :=
  itr (f_M_faceFoundBy_B9 S d o) (fun _ _ _ _ _ => none) fu v2 v3 (-1) v1 0
set_option maxRecDepth 100000 in
set_option maxHeartbeats 4000000 in
theorem c_M_faceFoundBy (l : Launch) (G : gG) {S : gS} {d : gD} {o : Nat} {v1 : Int32} {v2 : Int32} {v3 : Int32} {r : Int32} (h : f_M_faceFoundBy S d o v1 v2 v3 = some r) : GM l G y_M_faceFoundBy b_M_faceFoundBy 8 (some (.int)) 1 24 0 0 [.inr (.inr (some o)), .inl v1, .inl v2, .inl v3] S d (some (.int r)) S d := by
  refine GM.of (by decide) (Nat.le_of_ble_eq_true rfl) ?_
  intro X hl0 hG0 hR0 hE0
  have hE : gE X b_M_faceFoundBy 8 "StandInMill" (some (.int)) "faceFoundBy" 1 24 := hE0
  unfold f_M_faceFoundBy at h
  refine gw.less (lv' := [some (va_rf (some o)), some (.int v1), some (.int v2), some (.int v3), none, none, none, none]) (And.intro rfl (And.intro rfl (And.intro rfl (And.intro rfl trivial)))) ?_
  refine g_iconst hE d_M_faceFoundBy_0 ki_m1 ?_
  refine g_istore (i := 4) (lv' := [some (va_rf (some o)), some (.int v1), some (.int v2), some (.int v3), some (.int (-1)), none, none, none]) hE d_M_faceFoundBy_1 (Nat.le_of_ble_eq_true rfl) ⟨rfl, Nat.le_of_ble_eq_true rfl⟩ (lvp_i rfl) ?_
  refine g_iload_n (i := 1) hE d_M_faceFoundBy_3 rfl rfl ?_
  refine g_istore (i := 5) (lv' := [some (va_rf (some o)), some (.int v1), some (.int v2), some (.int v3), some (.int (-1)), some (.int v1), none, none]) hE d_M_faceFoundBy_4 (Nat.le_of_ble_eq_true rfl) ⟨rfl, Nat.le_of_ble_eq_true rfl⟩ (lvp_i rfl) ?_
  refine g_iconst hE d_M_faceFoundBy_6 ki_0 ?_
  refine g_istore (i := 6) (lv' := [some (va_rf (some o)), some (.int v1), some (.int v2), some (.int v3), some (.int (-1)), some (.int v1), some (.int 0), none]) hE d_M_faceFoundBy_7 (Nat.le_of_ble_eq_true rfl) ⟨rfl, Nat.le_of_ble_eq_true rfl⟩ (lvp_i rfl) ?_
  exact gw.less (lv' := [some (va_rf (some o)), none, some (.int v2), some (.int v3), some (.int (-1)), some (.int v1), some (.int 0), none]) (And.intro rfl (And.intro rfl (And.intro rfl (And.intro rfl (And.intro rfl (And.intro rfl trivial)))))) (w_M_faceFoundBy_L9 hE fu v2 v3 (-1) v1 0 h)
theorem d_Fc_init_0 : dc b_Fc_init 0 (.aload_n 0) 1 1 := ⟨by decide +kernel, rfl⟩
theorem d_Fc_init_1 : dc b_Fc_init 1 (.invokespecial 3) 3 4 := ⟨by decide +kernel, rfl⟩
theorem d_Fc_init_4 : dc b_Fc_init 4 (.aload_n 0) 1 5 := ⟨by decide +kernel, rfl⟩
theorem d_Fc_init_5 : dc b_Fc_init 5 (.iconst 2) 1 6 := ⟨by decide +kernel, rfl⟩
theorem d_Fc_init_6 : dc b_Fc_init 6 (.newarray .int) 2 8 := ⟨by decide +kernel, rfl⟩
theorem d_Fc_init_8 : dc b_Fc_init 8 (.putfield 9) 3 11 := ⟨by decide +kernel, rfl⟩
theorem d_Fc_init_11 : dc b_Fc_init 11 (.aload_n 0) 1 12 := ⟨by decide +kernel, rfl⟩
theorem d_Fc_init_12 : dc b_Fc_init 12 (.bipush 6) 2 14 := ⟨by decide +kernel, rfl⟩
theorem d_Fc_init_14 : dc b_Fc_init 14 (.anewarray 15) 3 17 := ⟨by decide +kernel, rfl⟩
theorem d_Fc_init_17 : dc b_Fc_init 17 (.putfield 17) 3 20 := ⟨by decide +kernel, rfl⟩
theorem d_Fc_init_20 : dc b_Fc_init 20 (.aload_n 0) 1 21 := ⟨by decide +kernel, rfl⟩
theorem d_Fc_init_21 : dc b_Fc_init 21 (.bipush 72) 2 23 := ⟨by decide +kernel, rfl⟩
theorem d_Fc_init_23 : dc b_Fc_init 23 (.anewarray 15) 3 26 := ⟨by decide +kernel, rfl⟩
theorem d_Fc_init_26 : dc b_Fc_init 26 (.putfield 21) 3 29 := ⟨by decide +kernel, rfl⟩
theorem d_Fc_init_29 : dc b_Fc_init 29 (.aload_n 0) 1 30 := ⟨by decide +kernel, rfl⟩
theorem d_Fc_init_30 : dc b_Fc_init 30 (.iload_n 1) 1 31 := ⟨by decide +kernel, rfl⟩
theorem d_Fc_init_31 : dc b_Fc_init 31 (.putfield 24) 3 34 := ⟨by decide +kernel, rfl⟩
theorem d_Fc_init_34 : dc b_Fc_init 34 (.aload_n 0) 1 35 := ⟨by decide +kernel, rfl⟩
theorem d_Fc_init_35 : dc b_Fc_init 35 (.iload_n 2) 1 36 := ⟨by decide +kernel, rfl⟩
theorem d_Fc_init_36 : dc b_Fc_init 36 (.putfield 28) 3 39 := ⟨by decide +kernel, rfl⟩
theorem d_Fc_init_39 : dc b_Fc_init 39 (.aload_n 0) 1 40 := ⟨by decide +kernel, rfl⟩
theorem d_Fc_init_40 : dc b_Fc_init 40 (.iload_n 3) 1 41 := ⟨by decide +kernel, rfl⟩
theorem d_Fc_init_41 : dc b_Fc_init 41 (.putfield 31) 3 44 := ⟨by decide +kernel, rfl⟩
theorem d_Fc_init_44 : dc b_Fc_init 44 (.aload_n 0) 1 45 := ⟨by decide +kernel, rfl⟩
theorem d_Fc_init_45 : dc b_Fc_init 45 (.iload 4) 2 47 := ⟨by decide +kernel, rfl⟩
theorem d_Fc_init_47 : dc b_Fc_init 47 (.putfield 34) 3 50 := ⟨by decide +kernel, rfl⟩
theorem d_Fc_init_50 : dc b_Fc_init 50 (.return_) 1 51 := ⟨by decide +kernel, rfl⟩
set_option maxRecDepth 100000 in
def f_Fc_init (S : gS) (d : gD) (o : Nat) (v1 : Int32) (v2 : Int32) (v3 : Int32) (v4 : Int32) : Option ((Unit × gS × gD) × Nat × Nat) :=
  nl 2 <|
  ac 1 ((2 : Int32).toNatClampNeg) <|
  lt_ (nS S 50 ((2 : Int32).toNatClampNeg)) fun S1 =>
  lt_ (nD S d) fun d2 =>
  lt_ (sZ S) fun a3 =>
  kd S1 o 4 <|
  lt_ (wP S1 o 4 (some a3)) fun S9 =>
  nl 6 <|
  ac 1 ((6 : Int32).toNatClampNeg) <|
  lt_ (nS S9 61 ((6 : Int32).toNatClampNeg)) fun S10 =>
  lt_ (nD S9 d2) fun d11 =>
  lt_ (sZ S9) fun a12 =>
  kd S10 o 4 <|
  lt_ (wP S10 o 6 (some a12)) fun S18 =>
  nl 72 <|
  ac 1 ((72 : Int32).toNatClampNeg) <|
  lt_ (nS S18 61 ((72 : Int32).toNatClampNeg)) fun S19 =>
  lt_ (nD S18 d11) fun d20 =>
  lt_ (sZ S18) fun a21 =>
  kd S19 o 4 <|
  lt_ (wP S19 o 8 (some a21)) fun S27 =>
  lt_ (wI d20 o 0 v1) fun d28 =>
  lt_ (wI d28 o 1 v2) fun d29 =>
  lt_ (wI d29 o 2 v3) fun d30 =>
  nb v4 <|
  lt_ (wI d30 o 3 v4) fun d32 =>
  some (((), S27, d32), 0, 0)
set_option maxRecDepth 100000 in
set_option maxHeartbeats 4000000 in
theorem c_Fc_init (l : Launch) (G : gG) {S : gS} {d : gD} {o : Nat} {v1 : Int32} {v2 : Int32} {v3 : Int32} {v4 : Int32} {r : Unit} {d' : gD} {S' : gS} {dc ds : Nat} (h : f_Fc_init S d o v1 v2 v3 v4 = some ((r, S', d'), dc, ds)) : GM l G y_Fc_init b_Fc_init 5 none 1 20 dc ds [.inr (.inr (some o)), .inl v1, .inl v2, .inl v3, .inl v4] S d (none) S' d' := by
  refine GM.of (by decide) (Nat.le_of_ble_eq_true rfl) ?_
  intro X hl0 hG0 hR0 hE0
  have hE : gE X b_Fc_init 5 "StandInMill$Face" none "<init>" 1 20 := hE0
  have hmc : (xR X).cells = dc := by rw [hR0]
  have hms : (xR X).slots = ds := by rw [hR0]
  obtain ⟨mc, emc⟩ : ∃ z, z = dc := ⟨_, rfl⟩
  obtain ⟨ms, ems⟩ : ∃ z, z = ds := ⟨_, rfl⟩
  rw [← emc] at hmc
  rw [← ems] at hms
  have hc : 0 + dc = mc := by omega
  have hs : 0 + ds = ms := by omega
  show gw X 0 0 (gQ X _ _ _ dc ds) _ _ _ _ _
  rw [← emc, ← ems]
  clear hR0 emc ems
  unfold f_Fc_init at h
  refine gw.less (lv' := [some (va_rf (some o)), some (.int v1), some (.int v2), some (.int v3), some (.int v4)]) (And.intro rfl (And.intro rfl (And.intro rfl (And.intro rfl (And.intro rfl trivial))))) ?_
  refine g_aload_n (i := 0) hE d_Fc_init_0 rfl rfl ?_
  refine g_objInit hE m_88 m_1 m_2 ⟨Nat.le_of_ble_eq_true rfl, Nat.le_of_ble_eq_true rfl⟩ ct_0 d_Fc_init_1 ?_
  refine g_aload_n (i := 0) hE d_Fc_init_4 rfl rfl ?_
  refine g_iconst hE d_Fc_init_5 ki_2 ?_
  obtain ⟨g4, h⟩ := nl_s h
  obtain ⟨dc0, ds0, h, hc0, hs0⟩ := ac_s h
  refine g_newa (κ := 50) hE rfl (by decide) (fun _ => rfl) (fun _ _ h => h) (by decide) m_9 g4 (cnt_room hmc hc hc0) (cnt_room hms hs hs0) d_Fc_init_6 (fun S1 d2 a3 e1 e2 e3 => ?_)
  have k5 : sK S1 a3 = 50 := by rw [← e1, ← e3]; exact nS_new
  replace h := lt_i e1 h; replace h := lt_i e2 h; replace h := lt_i e3 h; clear e1 e2 e3
  refine gw.gen (fun c6 s7 ec es => ?_)
  replace hc := cnt_step hc hc0 ec; replace hs := cnt_step hs hs0 es; clear hc0 hs0 ec es
  obtain ⟨k8, h⟩ := kd_s h
  refine g_putRF (fty := .array (.int)) 4 hE kc_Fc k8 (Nat.le_of_ble_eq_true rfl) rfl m_89 rfl (by decide +kernel) rfl d_Fc_init_8 rfl rfl (fun S9 e => ?_)
  replace k5 : sK S9 a3 = 50 := by rw [← e]; exact k5
  replace k8 : sK S9 o = 4 := by rw [← e]; exact k8
  replace h := lt_i e h; clear e
  refine g_aload_n (i := 0) hE d_Fc_init_11 rfl rfl ?_
  refine g_bipush hE d_Fc_init_12 kb_6 ?_
  obtain ⟨g13, h⟩ := nl_s h
  obtain ⟨dc0, ds0, h, hc0, hs0⟩ := ac_s h
  refine g_newq (κ := 61) hE rfl (by decide) (fun _ => rfl) (by decide) m_90 g13 (cnt_room hmc hc hc0) (cnt_room hms hs hs0) d_Fc_init_14 (fun S10 d11 a12 e1 e2 e3 => ?_)
  have k14 : sK S10 a12 = 61 := by rw [← e1, ← e3]; exact nS_new
  replace h := lt_i e1 h; replace h := lt_i e2 h; replace h := lt_i e3 h; clear e1 e2 e3
  refine gw.gen (fun c15 s16 ec es => ?_)
  replace hc := cnt_step hc hc0 ec; replace hs := cnt_step hs hs0 es; clear hc0 hs0 ec es
  obtain ⟨k17, h⟩ := kd_s h
  refine g_putRF (fty := .array (.object "StandInMill$OwnMethod")) 6 hE kc_Fc k17 (Nat.le_of_ble_eq_true rfl) rfl m_91 rfl (by decide +kernel) rfl d_Fc_init_17 rfl rfl (fun S18 e => ?_)
  replace k14 : sK S18 a12 = 61 := by rw [← e]; exact k14
  replace k17 : sK S18 o = 4 := by rw [← e]; exact k17
  replace h := lt_i e h; clear e
  refine g_aload_n (i := 0) hE d_Fc_init_20 rfl rfl ?_
  refine g_bipush hE d_Fc_init_21 kb_72 ?_
  obtain ⟨g22, h⟩ := nl_s h
  obtain ⟨dc0, ds0, h, hc0, hs0⟩ := ac_s h
  refine g_newq (κ := 61) hE rfl (by decide) (fun _ => rfl) (by decide) m_90 g22 (cnt_room hmc hc hc0) (cnt_room hms hs hs0) d_Fc_init_23 (fun S19 d20 a21 e1 e2 e3 => ?_)
  have k23 : sK S19 a21 = 61 := by rw [← e1, ← e3]; exact nS_new
  replace h := lt_i e1 h; replace h := lt_i e2 h; replace h := lt_i e3 h; clear e1 e2 e3
  refine gw.gen (fun c24 s25 ec es => ?_)
  replace hc := cnt_step hc hc0 ec; replace hs := cnt_step hs hs0 es; clear hc0 hs0 ec es
  obtain ⟨k26, h⟩ := kd_s h
  refine g_putRF (fty := .array (.object "StandInMill$OwnMethod")) 8 hE kc_Fc k26 (Nat.le_of_ble_eq_true rfl) rfl m_92 rfl (by decide +kernel) rfl d_Fc_init_26 rfl rfl (fun S27 e => ?_)
  replace k23 : sK S27 a21 = 61 := by rw [← e]; exact k23
  replace k26 : sK S27 o = 4 := by rw [← e]; exact k26
  replace h := lt_i e h; clear e
  refine g_aload_n (i := 0) hE d_Fc_init_29 rfl rfl ?_
  refine g_iload_n (i := 1) hE d_Fc_init_30 rfl rfl ?_
  refine g_putIF 0 hE kc_Fc k26 (Nat.le_of_ble_eq_true rfl) rfl m_93 rfl (by decide +kernel) d_Fc_init_31 rfl rfl (fun d28 e => ?_)
  replace h := lt_i e h; clear e
  refine g_aload_n (i := 0) hE d_Fc_init_34 rfl rfl ?_
  refine g_iload_n (i := 2) hE d_Fc_init_35 rfl rfl ?_
  refine g_putIF 1 hE kc_Fc k26 (Nat.le_of_ble_eq_true rfl) rfl m_94 rfl (by decide +kernel) d_Fc_init_36 rfl rfl (fun d29 e => ?_)
  replace h := lt_i e h; clear e
  refine g_aload_n (i := 0) hE d_Fc_init_39 rfl rfl ?_
  refine g_iload_n (i := 3) hE d_Fc_init_40 rfl rfl ?_
  refine g_putIF 2 hE kc_Fc k26 (Nat.le_of_ble_eq_true rfl) rfl m_95 rfl (by decide +kernel) d_Fc_init_41 rfl rfl (fun d30 e => ?_)
  replace h := lt_i e h; clear e
  refine g_aload_n (i := 0) hE d_Fc_init_44 rfl rfl ?_
  refine g_iload (i := 4) hE d_Fc_init_45 rfl ?_
  obtain ⟨g31, h⟩ := nb_s h
  refine g_putZF 3 hE kc_Fc k26 (Nat.le_of_ble_eq_true rfl) rfl m_96 rfl (by decide +kernel) g31 d_Fc_init_47 rfl rfl (fun d32 e => ?_)
  replace h := lt_i e h; clear e
  cases h
  exact g_vret hE d_Fc_init_50 hc hs
theorem d_Ty_addFace_0 : dc b_Ty_addFace 0 (.aload_n 0) 1 1 := ⟨by decide +kernel, rfl⟩
theorem d_Ty_addFace_1 : dc b_Ty_addFace 1 (.getfield 11) 3 4 := ⟨by decide +kernel, rfl⟩
theorem d_Ty_addFace_4 : dc b_Ty_addFace 4 (.iload_n 1) 1 5 := ⟨by decide +kernel, rfl⟩
theorem d_Ty_addFace_5 : dc b_Ty_addFace 5 (.iload_n 1) 1 6 := ⟨by decide +kernel, rfl⟩
theorem d_Ty_addFace_6 : dc b_Ty_addFace 6 (.invokestatic 19) 3 9 := ⟨by decide +kernel, rfl⟩
theorem d_Ty_addFace_9 : dc b_Ty_addFace 9 (.bipush 7) 2 11 := ⟨by decide +kernel, rfl⟩
theorem d_Ty_addFace_11 : dc b_Ty_addFace 11 (.invokestatic 19) 3 14 := ⟨by decide +kernel, rfl⟩
theorem d_Ty_addFace_14 : dc b_Ty_addFace 14 (.lor) 1 15 := ⟨by decide +kernel, rfl⟩
theorem d_Ty_addFace_15 : dc b_Ty_addFace 15 (.lastore) 1 16 := ⟨by decide +kernel, rfl⟩
theorem d_Ty_addFace_16 : dc b_Ty_addFace 16 (.return_) 1 17 := ⟨by decide +kernel, rfl⟩
set_option maxRecDepth 100000 in
def f_Ty_addFace (S : gS) (d : gD) (o : Nat) (v1 : Int32) : Option (Unit × gD) :=
  kd S o 8 <|
  lt_ (sP S o 0) fun x2 =>
  bd (f_Ty_bit S d v1) fun x3 =>
  bd (f_Ty_bit S d 7) fun x5 =>
  nn x2 fun a7 =>
  kd S a7 51 <|
  gi v1 (sN S a7) <|
  lt_ (wL d a7 v1.toNatClampNeg (x3 ||| x5)) fun d10 =>
  some ((), d10)
set_option maxRecDepth 100000 in
set_option maxHeartbeats 4000000 in
theorem c_Ty_addFace (l : Launch) (G : gG) {S : gS} {d : gD} {o : Nat} {v1 : Int32} {r : Unit} {d' : gD} (h : f_Ty_addFace S d o v1 = some (r, d')) : GM l G y_Ty_addFace b_Ty_addFace 2 none 1 20 0 0 [.inr (.inr (some o)), .inl v1] S d (none) S d' := by
  refine GM.of (by decide) (Nat.le_of_ble_eq_true rfl) ?_
  intro X hl0 hG0 hR0 hE0
  have hE : gE X b_Ty_addFace 2 "StandInMill$Types" none "addFace" 1 20 := hE0
  unfold f_Ty_addFace at h
  refine gw.less (lv' := [some (va_rf (some o)), some (.int v1)]) (And.intro rfl (And.intro rfl trivial)) ?_
  refine g_aload_n (i := 0) hE d_Ty_addFace_0 rfl rfl ?_
  obtain ⟨k1, h⟩ := kd_s h
  refine g_getR 0 hE kc_Ty k1 (Nat.le_of_ble_eq_true rfl) rfl m_4 d_Ty_addFace_1 (fun x2 e => ?_)
  replace h := lt_i e h; clear e
  refine g_iload_n (i := 1) hE d_Ty_addFace_4 rfl rfl ?_
  refine g_iload_n (i := 1) hE d_Ty_addFace_5 rfl rfl ?_
  obtain ⟨x3, e4, h⟩ := bd_s h
  refine g_callS (av := [.inl v1]) (stk := [.long x3, .int v1, va_rf x2]) [.int v1, va_rf x2] hE (c_Ty_bit (xl X) (xG X) e4) ky_Ty_bit ⟨Nat.le_of_ble_eq_true rfl, Nat.le_of_ble_eq_true rfl⟩ m_6 m_7 rfl d_Ty_addFace_6 rfl rfl (Nat.le_trans (ct_i (ct_r ct_n)) (Nat.le_of_ble_eq_true rfl)) (Nat.zero_le _) (Nat.zero_le _) ?_
  refine gw.cs (c2 := 0) (s2 := 0) rfl rfl ?_
  refine g_bipush hE d_Ty_addFace_9 kb_7 ?_
  obtain ⟨x5, e6, h⟩ := bd_s h
  refine g_callS (av := [.inl 7]) (stk := [.long x5, .long x3, .int v1, va_rf x2]) [.long x3, .int v1, va_rf x2] hE (c_Ty_bit (xl X) (xG X) e6) ky_Ty_bit ⟨Nat.le_of_ble_eq_true rfl, Nat.le_of_ble_eq_true rfl⟩ m_6 m_7 rfl d_Ty_addFace_11 rfl rfl (Nat.le_trans (ct_l (ct_i (ct_r ct_n))) (Nat.le_of_ble_eq_true rfl)) (Nat.zero_le _) (Nat.zero_le _) ?_
  refine gw.cs (c2 := 0) (s2 := 0) rfl rfl ?_
  refine g_lor hE d_Ty_addFace_14 ?_
  obtain ⟨a7, rfl, h⟩ := nn_s h
  obtain ⟨k8, h⟩ := kd_s h
  obtain ⟨g9, h⟩ := gi_s h
  refine g_last hE k8 g9 d_Ty_addFace_15 (fun d10 e => ?_)
  replace h := lt_i e h; clear e
  cases h
  exact g_vret hE d_Ty_addFace_16 rfl rfl
theorem d_M_face_0 : dc b_M_face 0 (.aload_n 0) 1 1 := ⟨by decide +kernel, rfl⟩
theorem d_M_face_1 : dc b_M_face 1 (.iload_n 1) 1 2 := ⟨by decide +kernel, rfl⟩
theorem d_M_face_2 : dc b_M_face 2 (.invokevirtual 86) 3 5 := ⟨by decide +kernel, rfl⟩
theorem d_M_face_5 : db b_M_face 5 (.ifCond .eq 20) 20 25 8 := ⟨by decide +kernel, by decide, rfl⟩
theorem d_M_face_8 : dc b_M_face 8 (.iload_n 2) 1 9 := ⟨by decide +kernel, rfl⟩
theorem d_M_face_9 : dc b_M_face 9 (.bipush 26) 2 11 := ⟨by decide +kernel, rfl⟩
theorem d_M_face_11 : dc b_M_face 11 (.invokestatic 94) 3 14 := ⟨by decide +kernel, rfl⟩
theorem d_M_face_14 : db b_M_face 14 (.ifCond .eq 11) 11 25 17 := ⟨by decide +kernel, by decide, rfl⟩
theorem d_M_face_17 : dc b_M_face 17 (.iload_n 3) 1 18 := ⟨by decide +kernel, rfl⟩
theorem d_M_face_18 : dc b_M_face 18 (.iconst 4) 1 19 := ⟨by decide +kernel, rfl⟩
theorem d_M_face_19 : dc b_M_face 19 (.invokestatic 94) 3 22 := ⟨by decide +kernel, rfl⟩
theorem d_M_face_22 : db b_M_face 22 (.ifCond .ne 5) 5 27 25 := ⟨by decide +kernel, by decide, rfl⟩
theorem d_M_face_25 : dc b_M_face 25 (.iconst (-1)) 1 26 := ⟨by decide +kernel, rfl⟩
theorem d_M_face_26 : dc b_M_face 26 (.ireturn) 1 27 := ⟨by decide +kernel, rfl⟩
theorem d_M_face_27 : dc b_M_face 27 (.aload_n 0) 1 28 := ⟨by decide +kernel, rfl⟩
theorem d_M_face_28 : dc b_M_face 28 (.iload_n 1) 1 29 := ⟨by decide +kernel, rfl⟩
theorem d_M_face_29 : dc b_M_face 29 (.iload_n 2) 1 30 := ⟨by decide +kernel, rfl⟩
theorem d_M_face_30 : dc b_M_face 30 (.iload_n 3) 1 31 := ⟨by decide +kernel, rfl⟩
theorem d_M_face_31 : dc b_M_face 31 (.invokevirtual 98) 3 34 := ⟨by decide +kernel, rfl⟩
theorem d_M_face_34 : dc b_M_face 34 (.iconst (-1)) 1 35 := ⟨by decide +kernel, rfl⟩
theorem d_M_face_35 : db b_M_face 35 (.if_icmp .ne 12) 12 47 38 := ⟨by decide +kernel, by decide, rfl⟩
theorem d_M_face_38 : dc b_M_face 38 (.aload_n 0) 1 39 := ⟨by decide +kernel, rfl⟩
theorem d_M_face_39 : dc b_M_face 39 (.getfield 102) 3 42 := ⟨by decide +kernel, rfl⟩
theorem d_M_face_42 : dc b_M_face 42 (.bipush 12) 2 44 := ⟨by decide +kernel, rfl⟩
theorem d_M_face_44 : db b_M_face 44 (.if_icmp .ne 5) 5 49 47 := ⟨by decide +kernel, by decide, rfl⟩
theorem d_M_face_47 : dc b_M_face 47 (.iconst (-1)) 1 48 := ⟨by decide +kernel, rfl⟩
theorem d_M_face_48 : dc b_M_face 48 (.ireturn) 1 49 := ⟨by decide +kernel, rfl⟩
theorem d_M_face_49 : dc b_M_face 49 (.bipush 24) 2 51 := ⟨by decide +kernel, rfl⟩
theorem d_M_face_51 : dc b_M_face 51 (.aload_n 0) 1 52 := ⟨by decide +kernel, rfl⟩
theorem d_M_face_52 : dc b_M_face 52 (.getfield 102) 3 55 := ⟨by decide +kernel, rfl⟩
theorem d_M_face_55 : dc b_M_face 55 (.iadd) 1 56 := ⟨by decide +kernel, rfl⟩
theorem d_M_face_56 : dc b_M_face 56 (.istore 5) 2 58 := ⟨by decide +kernel, rfl⟩
theorem d_M_face_58 : dc b_M_face 58 (.aload_n 0) 1 59 := ⟨by decide +kernel, rfl⟩
theorem d_M_face_59 : dc b_M_face 59 (.getfield 22) 3 62 := ⟨by decide +kernel, rfl⟩
theorem d_M_face_62 : dc b_M_face 62 (.aload_n 0) 1 63 := ⟨by decide +kernel, rfl⟩
theorem d_M_face_63 : dc b_M_face 63 (.getfield 102) 3 66 := ⟨by decide +kernel, rfl⟩
theorem d_M_face_66 : dc b_M_face 66 (.new 20) 3 69 := ⟨by decide +kernel, rfl⟩
theorem d_M_face_69 : dc b_M_face 69 (.dup) 1 70 := ⟨by decide +kernel, rfl⟩
theorem d_M_face_70 : dc b_M_face 70 (.iload_n 1) 1 71 := ⟨by decide +kernel, rfl⟩
theorem d_M_face_71 : dc b_M_face 71 (.iload_n 2) 1 72 := ⟨by decide +kernel, rfl⟩
theorem d_M_face_72 : dc b_M_face 72 (.iload_n 3) 1 73 := ⟨by decide +kernel, rfl⟩
theorem d_M_face_73 : dc b_M_face 73 (.iload 4) 2 75 := ⟨by decide +kernel, rfl⟩
theorem d_M_face_75 : dc b_M_face 75 (.invokespecial 105) 3 78 := ⟨by decide +kernel, rfl⟩
theorem d_M_face_78 : dc b_M_face 78 (.aastore) 1 79 := ⟨by decide +kernel, rfl⟩
theorem d_M_face_79 : dc b_M_face 79 (.aload_n 0) 1 80 := ⟨by decide +kernel, rfl⟩
theorem d_M_face_80 : dc b_M_face 80 (.dup) 1 81 := ⟨by decide +kernel, rfl⟩
theorem d_M_face_81 : dc b_M_face 81 (.getfield 102) 3 84 := ⟨by decide +kernel, rfl⟩
theorem d_M_face_84 : dc b_M_face 84 (.iconst 1) 1 85 := ⟨by decide +kernel, rfl⟩
theorem d_M_face_85 : dc b_M_face 85 (.iadd) 1 86 := ⟨by decide +kernel, rfl⟩
theorem d_M_face_86 : dc b_M_face 86 (.putfield 102) 3 89 := ⟨by decide +kernel, rfl⟩
theorem d_M_face_89 : dc b_M_face 89 (.aload_n 0) 1 90 := ⟨by decide +kernel, rfl⟩
theorem d_M_face_90 : dc b_M_face 90 (.getfield 10) 3 93 := ⟨by decide +kernel, rfl⟩
theorem d_M_face_93 : dc b_M_face 93 (.iload 5) 2 95 := ⟨by decide +kernel, rfl⟩
theorem d_M_face_95 : dc b_M_face 95 (.invokevirtual 108) 3 98 := ⟨by decide +kernel, rfl⟩
theorem d_M_face_98 : dc b_M_face 98 (.iload 5) 2 100 := ⟨by decide +kernel, rfl⟩
theorem d_M_face_100 : dc b_M_face 100 (.ireturn) 1 101 := ⟨by decide +kernel, rfl⟩
set_option maxRecDepth 100000 in
def f_M_face (S : gS) (d : gD) (o : Nat) (v1 : Int32) (v2 : Int32) (v3 : Int32) (v4 : Int32) : Option ((Int32 × gS × gD) × Nat × Nat) :=
  kd S o 1 <|
  bd (f_M_isLoader S d o v1) fun x2 =>
  if x2 = 0 then (
    some (((-1), S, d), 0, 0))
  else (
    bd (f_M_isWithin S d v2 26) fun x4 =>
    if x4 = 0 then (
      some (((-1), S, d), 0, 0))
    else (
      bd (f_M_isWithin S d v3 4) fun x6 =>
      if x6 = 0 then (
        some (((-1), S, d), 0, 0))
      else (
        bd (f_M_faceFoundBy S d o v1 v2 v3) fun x8 =>
        if x8 = (-1) then (
          lt_ (dI d o 4) fun x10 =>
          if x10 = 12 then (
            some (((-1), S, d), 0, 0))
          else (
            lt_ (dI d o 4) fun x11 =>
            lt_ (sP S o 3) fun x12 =>
            lt_ (dI d o 4) fun x13 =>
            ac 1 10 <|
            lt_ (nS S 4 0) fun S14 =>
            lt_ (nD S d) fun d15 =>
            lt_ (sZ S) fun a16 =>
            bdA (f_Fc_init S14 d15 a16 v1 v2 v3 v4) fun _ S22 d23 =>
            nn x12 fun a28 =>
            kd S22 a28 60 <|
            gi x13 (sN S22 a28) <|
            kd S22 a16 4 <|
            lt_ (wP S22 a28 x13.toNatClampNeg (some a16)) fun S31 =>
            kd S31 o 1 <|
            lt_ (dI d23 o 4) fun x34 =>
            lt_ (wI d23 o 4 (x34 + 1)) fun d35 =>
            lt_ (sP S31 o 0) fun x36 =>
            nn x36 fun a37 =>
            kd S31 a37 8 <|
            bdD (f_Ty_addFace S31 d35 a37 (24 + x11)) fun _ d41 =>
            some ((24 + x11, S31, d41), 0, 0)))
        else (
          some (((-1), S, d), 0, 0)))))
set_option maxRecDepth 100000 in
set_option maxHeartbeats 4000000 in
theorem c_M_face (l : Launch) (G : gG) {S : gS} {d : gD} {o : Nat} {v1 : Int32} {v2 : Int32} {v3 : Int32} {v4 : Int32} {r : Int32} {d' : gD} {S' : gS} {dc ds : Nat} (h : f_M_face S d o v1 v2 v3 v4 = some ((r, S', d'), dc, ds)) : GM l G y_M_face b_M_face 6 (some (.int)) 2 51 dc ds [.inr (.inr (some o)), .inl v1, .inl v2, .inl v3, .inl v4] S d (some (.int r)) S' d' := by
  refine GM.of (by decide) (Nat.le_of_ble_eq_true rfl) ?_
  intro X hl0 hG0 hR0 hE0
  have hE : gE X b_M_face 6 "StandInMill" (some (.int)) "face" 2 51 := hE0
  have hmc : (xR X).cells = dc := by rw [hR0]
  have hms : (xR X).slots = ds := by rw [hR0]
  obtain ⟨mc, emc⟩ : ∃ z, z = dc := ⟨_, rfl⟩
  obtain ⟨ms, ems⟩ : ∃ z, z = ds := ⟨_, rfl⟩
  rw [← emc] at hmc
  rw [← ems] at hms
  have hc : 0 + dc = mc := by omega
  have hs : 0 + ds = ms := by omega
  show gw X 0 0 (gQ X _ _ _ dc ds) _ _ _ _ _
  rw [← emc, ← ems]
  clear hR0 emc ems
  unfold f_M_face at h
  refine gw.less (lv' := [some (va_rf (some o)), some (.int v1), some (.int v2), some (.int v3), some (.int v4), none]) (And.intro rfl (And.intro rfl (And.intro rfl (And.intro rfl (And.intro rfl trivial))))) ?_
  refine g_aload_n (i := 0) hE d_M_face_0 rfl rfl ?_
  refine g_iload_n (i := 1) hE d_M_face_1 rfl rfl ?_
  obtain ⟨k1, h⟩ := kd_s h
  obtain ⟨x2, e3, h⟩ := bd_s h
  refine g_callV (av := [.inr (.inr (some o)), .inl v1]) (as := [.inl v1]) (stk := [.int x2]) [] hE (c_M_isLoader (xl X) (xG X) e3) ky_M_isLoader ⟨Nat.le_of_ble_eq_true rfl, Nat.le_of_ble_eq_true rfl⟩ rfl kc_M k1 m_75 m_76 m_77 rfl d_M_face_2 rfl rfl ct_0 (cnt_room0 hmc hc) (cnt_room0 hms hs) ?_
  refine gw.cs (c2 := 0) (s2 := 0) rfl rfl ?_
  refine g_if_eq hE d_M_face_5 (fun c46 => ?_) (fun c46 => ?_)
  · replace h := if_t c46 h
    refine g_iconst hE d_M_face_25 ki_m1 ?_
    cases h
    exact g_iret hE d_M_face_26 hc hs
  · replace h := if_f c46 h
    refine g_iload_n (i := 2) hE d_M_face_8 rfl rfl ?_
    refine g_bipush hE d_M_face_9 kb_26 ?_
    obtain ⟨x4, e5, h⟩ := bd_s h
    refine g_callS (av := [.inl v2, .inl 26]) (stk := [.int x4]) [] hE (c_M_isWithin (xl X) (xG X) e5) ky_M_isWithin ⟨Nat.le_of_ble_eq_true rfl, Nat.le_of_ble_eq_true rfl⟩ m_73 m_74 rfl d_M_face_11 rfl rfl ct_0 (cnt_room0 hmc hc) (cnt_room0 hms hs) ?_
    refine gw.cs (c2 := 0) (s2 := 0) rfl rfl ?_
    refine g_if_eq hE d_M_face_14 (fun c45 => ?_) (fun c45 => ?_)
    · replace h := if_t c45 h
      refine g_iconst hE d_M_face_25 ki_m1 ?_
      cases h
      exact g_iret hE d_M_face_26 hc hs
    · replace h := if_f c45 h
      refine g_iload_n (i := 3) hE d_M_face_17 rfl rfl ?_
      refine g_iconst hE d_M_face_18 ki_4 ?_
      obtain ⟨x6, e7, h⟩ := bd_s h
      refine g_callS (av := [.inl v3, .inl 4]) (stk := [.int x6]) [] hE (c_M_isWithin (xl X) (xG X) e7) ky_M_isWithin ⟨Nat.le_of_ble_eq_true rfl, Nat.le_of_ble_eq_true rfl⟩ m_73 m_74 rfl d_M_face_19 rfl rfl ct_0 (cnt_room0 hmc hc) (cnt_room0 hms hs) ?_
      refine gw.cs (c2 := 0) (s2 := 0) rfl rfl ?_
      refine g_if_ne hE d_M_face_22 (fun c44 => ?_) (fun c44 => ?_)
      · replace h := if_f c44 h
        refine g_aload_n (i := 0) hE d_M_face_27 rfl rfl ?_
        refine g_iload_n (i := 1) hE d_M_face_28 rfl rfl ?_
        refine g_iload_n (i := 2) hE d_M_face_29 rfl rfl ?_
        refine g_iload_n (i := 3) hE d_M_face_30 rfl rfl ?_
        obtain ⟨x8, e9, h⟩ := bd_s h
        refine g_callV (av := [.inr (.inr (some o)), .inl v1, .inl v2, .inl v3]) (as := [.inl v1, .inl v2, .inl v3]) (stk := [.int x8]) [] hE (c_M_faceFoundBy (xl X) (xG X) e9) ky_M_faceFoundBy ⟨Nat.le_of_ble_eq_true rfl, Nat.le_of_ble_eq_true rfl⟩ rfl kc_M k1 m_97 m_98 m_99 rfl d_M_face_31 rfl rfl ct_0 (cnt_room0 hmc hc) (cnt_room0 hms hs) ?_
        refine gw.cs (c2 := 0) (s2 := 0) rfl rfl ?_
        refine g_iconst hE d_M_face_34 ki_m1 ?_
        refine g_icmp_ne hE d_M_face_35 (fun c43 => ?_) (fun c43 => ?_)
        · replace h := if_f c43 h
          refine g_iconst hE d_M_face_47 ki_m1 ?_
          cases h
          exact g_iret hE d_M_face_48 hc hs
        · replace h := if_t c43 h
          refine g_aload_n (i := 0) hE d_M_face_38 rfl rfl ?_
          refine g_getI 4 hE kc_M k1 (Nat.le_of_ble_eq_true rfl) rfl m_84 d_M_face_39 (fun x10 e => ?_)
          replace h := lt_i e h; clear e
          refine g_bipush hE d_M_face_42 kb_12 ?_
          refine g_icmp_ne hE d_M_face_44 (fun c42 => ?_) (fun c42 => ?_)
          · replace h := if_f c42 h
            refine g_bipush hE d_M_face_49 kb_24 ?_
            refine g_aload_n (i := 0) hE d_M_face_51 rfl rfl ?_
            refine g_getI 4 hE kc_M k1 (Nat.le_of_ble_eq_true rfl) rfl m_84 d_M_face_52 (fun x11 e => ?_)
            replace h := lt_i e h; clear e
            refine g_iadd hE d_M_face_55 ?_
            refine g_istore (i := 5) (lv' := [some (va_rf (some o)), some (.int v1), some (.int v2), some (.int v3), some (.int v4), some (.int (24 + x11))]) hE d_M_face_56 (Nat.le_of_ble_eq_true rfl) ⟨rfl, Nat.le_of_ble_eq_true rfl⟩ (lvp_i rfl) ?_
            refine g_aload_n (i := 0) hE d_M_face_58 rfl rfl ?_
            refine g_getR 3 hE kc_M k1 (Nat.le_of_ble_eq_true rfl) rfl m_44 d_M_face_59 (fun x12 e => ?_)
            replace h := lt_i e h; clear e
            refine g_aload_n (i := 0) hE d_M_face_62 rfl rfl ?_
            refine g_getI 4 hE kc_M k1 (Nat.le_of_ble_eq_true rfl) rfl m_84 d_M_face_63 (fun x13 e => ?_)
            replace h := lt_i e h; clear e
            obtain ⟨dc0, ds0, h, hc0, hs0⟩ := ac_s h
            refine g_new hE kc_Fc kn_Fc m_43 m_100 m_101 (cnt_room hmc hc hc0) (cnt_room hms hs hs0) d_M_face_66 (fun S14 d15 a16 e1 e2 e3 => ?_)
            have k17 : sK S14 a16 = 4 := by rw [← e1, ← e3]; exact nS_new
            replace h := lt_i e1 h; replace h := lt_i e2 h; replace h := lt_i e3 h; clear e1 e2 e3
            refine gw.gen (fun c18 s19 ec es => ?_)
            replace hc := cnt_step hc hc0 ec; replace hs := cnt_step hs hs0 es; clear hc0 hs0 ec es
            refine g_dupr hE d_M_face_69 ?_
            refine g_iload_n (i := 1) hE d_M_face_70 rfl rfl ?_
            refine g_iload_n (i := 2) hE d_M_face_71 rfl rfl ?_
            refine g_iload_n (i := 3) hE d_M_face_72 rfl rfl ?_
            refine g_iload (i := 4) hE d_M_face_73 rfl ?_
            obtain ⟨x20, S22, d23, n24, n25, dc0, ds0, e21, h, hc0, hs0⟩ := bdA_s h
            refine g_callI (av := [.inr (.inr (some a16)), .inl v1, .inl v2, .inl v3, .inl v4]) (as := [.inl v1, .inl v2, .inl v3, .inl v4]) (stk := [va_rf (some a16), .int x13, va_rf x12]) [va_rf (some a16), .int x13, va_rf x12] hE (c_Fc_init (xl X) (xG X) e21) ky_Fc_init ⟨Nat.le_of_ble_eq_true rfl, Nat.le_of_ble_eq_true rfl⟩ rfl m_102 m_103 rfl rfl d_M_face_75 rfl rfl (Nat.le_trans (ct_r (ct_i (ct_r ct_n))) (Nat.le_of_ble_eq_true rfl)) (cnt_room hmc hc hc0) (cnt_room hms hs hs0) ?_
            refine gw.gen (fun c26 s27 ec es => ?_)
            replace hc := cnt_step hc hc0 ec; replace hs := cnt_step hs hs0 es; clear hc0 hs0 ec es
            obtain ⟨a28, rfl, h⟩ := nn_s h
            obtain ⟨k29, h⟩ := kd_s h
            obtain ⟨g30, h⟩ := gi_s h
            obtain ⟨k32, h⟩ := kd_s h
            refine g_aast hE k29 (by decide) (fun _ => rfl) rfl kc_Fc k32 g30 d_M_face_78 (fun S31 e => ?_)
            replace k29 : sK S31 a28 = 60 := by rw [← e]; exact k29
            replace k32 : sK S31 a16 = 4 := by rw [← e]; exact k32
            replace h := lt_i e h; clear e
            refine g_aload_n (i := 0) hE d_M_face_79 rfl rfl ?_
            refine g_dupr hE d_M_face_80 ?_
            obtain ⟨k33, h⟩ := kd_s h
            refine g_getI 4 hE kc_M k33 (Nat.le_of_ble_eq_true rfl) rfl m_84 d_M_face_81 (fun x34 e => ?_)
            replace h := lt_i e h; clear e
            refine g_iconst hE d_M_face_84 ki_1 ?_
            refine g_iadd hE d_M_face_85 ?_
            refine g_putI 4 hE kc_M k33 (Nat.le_of_ble_eq_true rfl) rfl m_84 rfl (by decide +kernel) d_M_face_86 (fun d35 e => ?_)
            replace h := lt_i e h; clear e
            refine g_aload_n (i := 0) hE d_M_face_89 rfl rfl ?_
            refine g_getR 0 hE kc_M k33 (Nat.le_of_ble_eq_true rfl) rfl m_41 d_M_face_90 (fun x36 e => ?_)
            replace h := lt_i e h; clear e
            refine g_iload (i := 5) hE d_M_face_93 rfl ?_
            obtain ⟨a37, rfl, h⟩ := nn_s h
            obtain ⟨k38, h⟩ := kd_s h
            obtain ⟨x39, d41, e40, h⟩ := bdD_s h
            refine g_callV (av := [.inr (.inr (some a37)), .inl (24 + x11)]) (as := [.inl (24 + x11)]) (stk := []) [] hE (c_Ty_addFace (xl X) (xG X) e40) ky_Ty_addFace ⟨Nat.le_of_ble_eq_true rfl, Nat.le_of_ble_eq_true rfl⟩ rfl kc_Ty k38 m_104 m_105 m_106 rfl d_M_face_95 rfl rfl ct_0 (cnt_room0 hmc hc) (cnt_room0 hms hs) ?_
            refine gw.cs (c2 := c26) (s2 := s27) rfl rfl ?_
            refine g_iload (i := 5) hE d_M_face_98 rfl ?_
            cases h
            exact g_iret hE d_M_face_100 hc hs
          · replace h := if_t c42 h
            refine g_iconst hE d_M_face_47 ki_m1 ?_
            cases h
            exact g_iret hE d_M_face_48 hc hs
      · replace h := if_t c44 h
        refine g_iconst hE d_M_face_25 ki_m1 ?_
        cases h
        exact g_iret hE d_M_face_26 hc hs
theorem d_M_isFace_0 : dc b_M_isFace 0 (.iload_n 1) 1 1 := ⟨by decide +kernel, rfl⟩
theorem d_M_isFace_1 : dc b_M_isFace 1 (.bipush 24) 2 3 := ⟨by decide +kernel, rfl⟩
theorem d_M_isFace_3 : db b_M_isFace 3 (.if_icmp .lt 18) 18 21 6 := ⟨by decide +kernel, by decide, rfl⟩
theorem d_M_isFace_6 : dc b_M_isFace 6 (.iload_n 1) 1 7 := ⟨by decide +kernel, rfl⟩
theorem d_M_isFace_7 : dc b_M_isFace 7 (.bipush 24) 2 9 := ⟨by decide +kernel, rfl⟩
theorem d_M_isFace_9 : dc b_M_isFace 9 (.aload_n 0) 1 10 := ⟨by decide +kernel, rfl⟩
theorem d_M_isFace_10 : dc b_M_isFace 10 (.getfield 102) 3 13 := ⟨by decide +kernel, rfl⟩
theorem d_M_isFace_13 : dc b_M_isFace 13 (.iadd) 1 14 := ⟨by decide +kernel, rfl⟩
theorem d_M_isFace_14 : db b_M_isFace 14 (.if_icmp .ge 7) 7 21 17 := ⟨by decide +kernel, by decide, rfl⟩
theorem d_M_isFace_17 : dc b_M_isFace 17 (.iconst 1) 1 18 := ⟨by decide +kernel, rfl⟩
theorem d_M_isFace_18 : db b_M_isFace 18 (.goto 4) 4 22 21 := ⟨by decide +kernel, by decide, rfl⟩
theorem d_M_isFace_21 : dc b_M_isFace 21 (.iconst 0) 1 22 := ⟨by decide +kernel, rfl⟩
theorem d_M_isFace_22 : dc b_M_isFace 22 (.ireturn) 1 23 := ⟨by decide +kernel, rfl⟩
set_option maxRecDepth 100000 in
def f_M_isFace (S : gS) (d : gD) (o : Nat) (v1 : Int32) : Option (Int32) :=
  if v1 < 24 then (
    some 0)
  else (
    kd S o 1 <|
    lt_ (dI d o 4) fun x2 =>
    if (24 + x2) ≤ v1 then (
      some 0)
    else (
      some 1))
set_option maxRecDepth 100000 in
set_option maxHeartbeats 4000000 in
theorem c_M_isFace (l : Launch) (G : gG) {S : gS} {d : gD} {o : Nat} {v1 : Int32} {r : Int32} (h : f_M_isFace S d o v1 = some r) : GM l G y_M_isFace b_M_isFace 2 (some (.boolean)) 0 0 0 0 [.inr (.inr (some o)), .inl v1] S d (some (.int r)) S d := by
  refine GM.of (by decide) (Nat.le_of_ble_eq_true rfl) ?_
  intro X hl0 hG0 hR0 hE0
  have hE : gE X b_M_isFace 2 "StandInMill" (some (.boolean)) "isFace" 0 0 := hE0
  unfold f_M_isFace at h
  refine gw.less (lv' := [some (va_rf (some o)), some (.int v1)]) (And.intro rfl (And.intro rfl trivial)) ?_
  refine g_iload_n (i := 1) hE d_M_isFace_0 rfl rfl ?_
  refine g_bipush hE d_M_isFace_1 kb_24 ?_
  refine g_icmp_lt hE d_M_isFace_3 (fun c4 => ?_) (fun c4 => ?_)
  · replace h := if_t c4 h
    refine g_iconst hE d_M_isFace_21 ki_0 ?_
    cases h
    exact g_zret hE (Or.inl rfl) d_M_isFace_22 rfl rfl
  · replace h := if_f c4 h
    refine g_iload_n (i := 1) hE d_M_isFace_6 rfl rfl ?_
    refine g_bipush hE d_M_isFace_7 kb_24 ?_
    refine g_aload_n (i := 0) hE d_M_isFace_9 rfl rfl ?_
    obtain ⟨k1, h⟩ := kd_s h
    refine g_getI 4 hE kc_M k1 (Nat.le_of_ble_eq_true rfl) rfl m_84 d_M_isFace_10 (fun x2 e => ?_)
    replace h := lt_i e h; clear e
    refine g_iadd hE d_M_isFace_13 ?_
    refine g_icmp_ge hE d_M_isFace_14 (fun c3 => ?_) (fun c3 => ?_)
    · replace h := if_t c3 h
      refine g_iconst hE d_M_isFace_21 ki_0 ?_
      cases h
      exact g_zret hE (Or.inl rfl) d_M_isFace_22 rfl rfl
    · replace h := if_f c3 h
      refine g_iconst hE d_M_isFace_17 ki_1 ?_
      refine g_goto hE d_M_isFace_18 ?_
      cases h
      exact g_zret hE (Or.inr rfl) d_M_isFace_22 rfl rfl
