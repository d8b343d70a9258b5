theorem d_Ar_fillI_0 : dc b_Ar_fillI 0 (.iconst 0) 1 1 := ⟨by decide +kernel, rfl⟩
theorem d_Ar_fillI_1 : dc b_Ar_fillI 1 (.istore_n 2) 1 2 := ⟨by decide +kernel, rfl⟩
theorem d_Ar_fillI_2 : dc b_Ar_fillI 2 (.aload_n 0) 1 3 := ⟨by decide +kernel, rfl⟩
theorem d_Ar_fillI_3 : dc b_Ar_fillI 3 (.arraylength) 1 4 := ⟨by decide +kernel, rfl⟩
theorem d_Ar_fillI_4 : dc b_Ar_fillI 4 (.istore_n 3) 1 5 := ⟨by decide +kernel, rfl⟩
theorem d_Ar_fillI_5 : dc b_Ar_fillI 5 (.iload_n 2) 1 6 := ⟨by decide +kernel, rfl⟩
theorem d_Ar_fillI_6 : dc b_Ar_fillI 6 (.iload_n 3) 1 7 := ⟨by decide +kernel, rfl⟩
theorem d_Ar_fillI_7 : db b_Ar_fillI 7 (.if_icmp .ge 13) 13 20 10 := ⟨by decide +kernel, by decide, rfl⟩
theorem d_Ar_fillI_10 : dc b_Ar_fillI 10 (.aload_n 0) 1 11 := ⟨by decide +kernel, rfl⟩
theorem d_Ar_fillI_11 : dc b_Ar_fillI 11 (.iload_n 2) 1 12 := ⟨by decide +kernel, rfl⟩
theorem d_Ar_fillI_12 : dc b_Ar_fillI 12 (.iload_n 1) 1 13 := ⟨by decide +kernel, rfl⟩
theorem d_Ar_fillI_13 : dc b_Ar_fillI 13 (.iastore) 1 14 := ⟨by decide +kernel, rfl⟩
theorem d_Ar_fillI_14 : dc b_Ar_fillI 14 (.iinc 2 1) 3 17 := ⟨by decide +kernel, rfl⟩
theorem d_Ar_fillI_17 : db b_Ar_fillI 17 (.goto (-12)) (-12) 5 20 := ⟨by decide +kernel, by decide, rfl⟩
theorem d_Ar_fillI_20 : dc b_Ar_fillI 20 (.return_) 1 21 := ⟨by decide +kernel, rfl⟩
def f_Ar_fillI_B5 (S : gS) (kb : gD → Option Nat → Int32 → Int32 → Int32 → Option (Unit × gD)) (d : gD) (v0 : Option Nat) (v1 : Int32) (v2 : Int32) (v3 : Int32) : Option (Unit × gD) :=
  if v3 ≤ v2 then (
    some ((), d))
  else (
    nn v0 fun a1 =>
    kd S a1 50 <|
    gi v2 (sN S a1) <|
    lt_ (wI d a1 v2.toNatClampNeg v1) fun d4 =>
    kb d4 (some a1) v1 (v2 + 1) v3)
set_option maxRecDepth 100000 in
set_option maxHeartbeats 4000000 in
theorem w_Ar_fillI_B5 {X : GX} (hE : gE X b_Ar_fillI 4 "java/util/Arrays" none "fill" 0 0) {S : gS} {r : Unit} {d' : gD} {kb : gD → Option Nat → Int32 → Int32 → Int32 → Option (Unit × gD)} (hkb : ∀ (d : gD) (v0 : Option Nat) (v1 : Int32) (v2 : Int32) (v3 : Int32), kb d v0 v1 v2 v3 = some (r, d') → gw X 0 0 (gQ X (none) S d' 0 0) S d 5 [some (va_rf v0), some (.int v1), some (.int v2), some (.int v3)] []) :
    ∀ (d : gD) (v0 : Option Nat) (v1 : Int32) (v2 : Int32) (v3 : Int32), f_Ar_fillI_B5 S kb d v0 v1 v2 v3 = some (r, d') → gw X 0 0 (gQ X (none) S d' 0 0) S d 5 [some (va_rf v0), some (.int v1), some (.int v2), some (.int v3)] [] := by
  intro d v0 v1 v2 v3 h
  unfold f_Ar_fillI_B5 at h
  refine g_iload_n (i := 2) hE d_Ar_fillI_5 rfl rfl ?_
  refine g_iload_n (i := 3) hE d_Ar_fillI_6 rfl rfl ?_
  refine g_icmp_ge hE d_Ar_fillI_7 (fun c5 => ?_) (fun c5 => ?_)
  · replace h := if_t c5 h
    cases h
    exact g_vret hE d_Ar_fillI_20 rfl rfl
  · replace h := if_f c5 h
    refine g_aload_n (i := 0) hE d_Ar_fillI_10 rfl rfl ?_
    refine g_iload_n (i := 2) hE d_Ar_fillI_11 rfl rfl ?_
    refine g_iload_n (i := 1) hE d_Ar_fillI_12 rfl rfl ?_
    obtain ⟨a1, rfl, h⟩ := nn_s h
    obtain ⟨k2, h⟩ := kd_s h
    obtain ⟨g3, h⟩ := gi_s h
    refine g_iast hE k2 g3 d_Ar_fillI_13 (fun d4 e => ?_)
    replace h := lt_i e h; clear e
    refine g_iinc (i := 2) (lv' := [some (va_rf (some a1)), some (.int v1), some (.int (v2 + 1)), some (.int v3)]) hE d_Ar_fillI_14 ki_1 rfl (Nat.le_of_ble_eq_true rfl) ⟨rfl, Nat.le_of_ble_eq_true rfl⟩ (lvp_i rfl) ?_
    refine g_goto hE d_Ar_fillI_17 ?_
    exact gw.less (lv' := [some (va_rf (some a1)), some (.int v1), some (.int (v2 + 1)), some (.int v3)]) (And.intro rfl (And.intro rfl (And.intro rfl (And.intro rfl trivial)))) (hkb d4 (some a1) v1 (v2 + 1) v3 h)
theorem w_Ar_fillI_L5 {X : GX} (hE : gE X b_Ar_fillI 4 "java/util/Arrays" none "fill" 0 0) {S : gS} {r : Unit} {d' : gD} : ∀ (n : Nat) (d : gD) (v0 : Option Nat) (v1 : Int32) (v2 : Int32) (v3 : Int32), itr (f_Ar_fillI_B5 S) (fun _ _ _ _ _ => none) n d v0 v1 v2 v3 = some (r, d') → gw X 0 0 (gQ X (none) S d' 0 0) S d 5 [some (va_rf v0), some (.int v1), some (.int v2), some (.int v3)] [] := by
  intro n
  induction n with
  | zero => intro d v0 v1 v2 v3 h; cases h
  | succ n ih => exact w_Ar_fillI_B5 hE ih
set_option maxRecDepth 100000 in
def f_Ar_fillI (S : gS) (d : gD) (v0 : Option Nat) (v1 : Int32) : Option (Unit × gD) :=
  nn v0 fun a1 =>
  kd S a1 50 <|
  itr (f_Ar_fillI_B5 S) (fun _ _ _ _ _ => none) fu d (some a1) v1 0 (Int32.ofNat (sN S a1))
set_option maxRecDepth 100000 in
set_option maxHeartbeats 4000000 in
theorem c_Ar_fillI (l : Launch) (G : gG) {S : gS} {d : gD} {v0 : Option Nat} {v1 : Int32} {r : Unit} {d' : gD} (h : f_Ar_fillI S d v0 v1 = some (r, d')) : GM l G y_Ar_fillI b_Ar_fillI 4 none 0 0 0 0 [.inr (.inr v0), .inl v1] S d (none) S d' := by
  refine GM.of (by decide) (Nat.le_of_ble_eq_true rfl) ?_
  intro X hl0 hG0 hR0 hE0
  have hE : gE X b_Ar_fillI 4 "java/util/Arrays" none "fill" 0 0 := hE0
  unfold f_Ar_fillI at h
  refine gw.less (lv' := [some (va_rf v0), some (.int v1), none, none]) (And.intro rfl (And.intro rfl trivial)) ?_
  refine g_iconst hE d_Ar_fillI_0 ki_0 ?_
  refine g_istore_n (i := 2) (lv' := [some (va_rf v0), some (.int v1), some (.int 0), none]) hE d_Ar_fillI_1 rfl (Nat.le_of_ble_eq_true rfl) ⟨rfl, Nat.le_of_ble_eq_true rfl⟩ (lvp_i rfl) ?_
  refine g_aload_n (i := 0) hE d_Ar_fillI_2 rfl rfl ?_
  obtain ⟨a1, rfl, h⟩ := nn_s h
  obtain ⟨k2, h⟩ := kd_s h
  refine g_alen hE k2 (by decide) d_Ar_fillI_3 ?_
  refine g_istore_n (i := 3) (lv' := [some (va_rf (some a1)), some (.int v1), some (.int 0), some (.int (Int32.ofNat (sN S a1)))]) hE d_Ar_fillI_4 rfl (Nat.le_of_ble_eq_true rfl) ⟨rfl, Nat.le_of_ble_eq_true rfl⟩ (lvp_i rfl) ?_
  exact gw.less (lv' := [some (va_rf (some a1)), some (.int v1), some (.int 0), some (.int (Int32.ofNat (sN S a1)))]) (And.intro rfl (And.intro rfl (And.intro rfl (And.intro rfl trivial)))) (w_Ar_fillI_L5 hE fu d (some a1) v1 0 (Int32.ofNat (sN S a1)) h)
theorem d_Uw_put_0 : dc b_Uw_put 0 (.aload_n 0) 1 1 := ⟨by decide +kernel, rfl⟩
theorem d_Uw_put_1 : dc b_Uw_put 1 (.getfield 35) 3 4 := ⟨by decide +kernel, rfl⟩
theorem d_Uw_put_4 : dc b_Uw_put 4 (.aload_n 0) 1 5 := ⟨by decide +kernel, rfl⟩
theorem d_Uw_put_5 : dc b_Uw_put 5 (.getfield 19) 3 8 := ⟨by decide +kernel, rfl⟩
theorem d_Uw_put_8 : dc b_Uw_put 8 (.arraylength) 1 9 := ⟨by decide +kernel, rfl⟩
theorem d_Uw_put_9 : db b_Uw_put 9 (.if_icmp .ge 24) 24 33 12 := ⟨by decide +kernel, by decide, rfl⟩
theorem d_Uw_put_12 : dc b_Uw_put 12 (.aload_n 0) 1 13 := ⟨by decide +kernel, rfl⟩
theorem d_Uw_put_13 : dc b_Uw_put 13 (.getfield 19) 3 16 := ⟨by decide +kernel, rfl⟩
theorem d_Uw_put_16 : dc b_Uw_put 16 (.aload_n 0) 1 17 := ⟨by decide +kernel, rfl⟩
theorem d_Uw_put_17 : dc b_Uw_put 17 (.getfield 35) 3 20 := ⟨by decide +kernel, rfl⟩
theorem d_Uw_put_20 : dc b_Uw_put 20 (.iload_n 1) 1 21 := ⟨by decide +kernel, rfl⟩
theorem d_Uw_put_21 : dc b_Uw_put 21 (.i2b) 1 22 := ⟨by decide +kernel, rfl⟩
theorem d_Uw_put_22 : dc b_Uw_put 22 (.bastore) 1 23 := ⟨by decide +kernel, rfl⟩
theorem d_Uw_put_23 : dc b_Uw_put 23 (.aload_n 0) 1 24 := ⟨by decide +kernel, rfl⟩
theorem d_Uw_put_24 : dc b_Uw_put 24 (.dup) 1 25 := ⟨by decide +kernel, rfl⟩
theorem d_Uw_put_25 : dc b_Uw_put 25 (.getfield 35) 3 28 := ⟨by decide +kernel, rfl⟩
theorem d_Uw_put_28 : dc b_Uw_put 28 (.iconst 1) 1 29 := ⟨by decide +kernel, rfl⟩
theorem d_Uw_put_29 : dc b_Uw_put 29 (.iadd) 1 30 := ⟨by decide +kernel, rfl⟩
theorem d_Uw_put_30 : dc b_Uw_put 30 (.putfield 35) 3 33 := ⟨by decide +kernel, rfl⟩
theorem d_Uw_put_33 : dc b_Uw_put 33 (.return_) 1 34 := ⟨by decide +kernel, rfl⟩
set_option maxRecDepth 100000 in
def f_Uw_put (S : gS) (d : gD) (o : Nat) (v1 : Int32) : Option (Unit × gD) :=
  kd S o 9 <|
  lt_ (dI d o 5) fun x2 =>
  lt_ (sP S o 4) fun x3 =>
  nn x3 fun a4 =>
  kd S a4 52 <|
  if (Int32.ofNat (sN S a4)) ≤ x2 then (
    some ((), d))
  else (
    lt_ (sP S o 4) fun x6 =>
    lt_ (dI d o 5) fun x7 =>
    nn x6 fun a8 =>
    kd S a8 52 <|
    gi x7 (sN S a8) <|
    lt_ (wI d a8 x7.toNatClampNeg (vp_nar .byte ((Int32.toInt8 v1).toInt32))) fun d11 =>
    lt_ (dI d11 o 5) fun x12 =>
    lt_ (wI d11 o 5 (x12 + 1)) fun d13 =>
    some ((), d13))
set_option maxRecDepth 100000 in
set_option maxHeartbeats 4000000 in
theorem c_Uw_put (l : Launch) (G : gG) {S : gS} {d : gD} {o : Nat} {v1 : Int32} {r : Unit} {d' : gD} (h : f_Uw_put S d o v1 = some (r, d')) : GM l G y_Uw_put b_Uw_put 2 none 0 0 0 0 [.inr (.inr (some o)), .inl v1] S d (none) S d' := by
  refine GM.of (by decide) (Nat.le_of_ble_eq_true rfl) ?_
  intro X hl0 hG0 hR0 hE0
  have hE : gE X b_Uw_put 2 "StandInMill$UnitWriter" none "put" 0 0 := hE0
  unfold f_Uw_put at h
  refine gw.less (lv' := [some (va_rf (some o)), some (.int v1)]) (And.intro rfl (And.intro rfl trivial)) ?_
  refine g_aload_n (i := 0) hE d_Uw_put_0 rfl rfl ?_
  obtain ⟨k1, h⟩ := kd_s h
  refine g_getI 5 hE kc_Uw k1 (Nat.le_of_ble_eq_true rfl) rfl m_273 d_Uw_put_1 (fun x2 e => ?_)
  replace h := lt_i e h; clear e
  refine g_aload_n (i := 0) hE d_Uw_put_4 rfl rfl ?_
  refine g_getR 4 hE kc_Uw k1 (Nat.le_of_ble_eq_true rfl) rfl m_25 d_Uw_put_5 (fun x3 e => ?_)
  replace h := lt_i e h; clear e
  obtain ⟨a4, rfl, h⟩ := nn_s h
  obtain ⟨k5, h⟩ := kd_s h
  refine g_alen hE k5 (by decide) d_Uw_put_8 ?_
  refine g_icmp_ge hE d_Uw_put_9 (fun c14 => ?_) (fun c14 => ?_)
  · replace h := if_t c14 h
    cases h
    exact g_vret hE d_Uw_put_33 rfl rfl
  · replace h := if_f c14 h
    refine g_aload_n (i := 0) hE d_Uw_put_12 rfl rfl ?_
    refine g_getR 4 hE kc_Uw k1 (Nat.le_of_ble_eq_true rfl) rfl m_25 d_Uw_put_13 (fun x6 e => ?_)
    replace h := lt_i e h; clear e
    refine g_aload_n (i := 0) hE d_Uw_put_16 rfl rfl ?_
    refine g_getI 5 hE kc_Uw k1 (Nat.le_of_ble_eq_true rfl) rfl m_273 d_Uw_put_17 (fun x7 e => ?_)
    replace h := lt_i e h; clear e
    refine g_iload_n (i := 1) hE d_Uw_put_20 rfl rfl ?_
    refine g_i2b hE d_Uw_put_21 ?_
    obtain ⟨a8, rfl, h⟩ := nn_s h
    obtain ⟨k9, h⟩ := kd_s h
    obtain ⟨g10, h⟩ := gi_s h
    refine g_bast hE k9 g10 d_Uw_put_22 (fun d11 e => ?_)
    replace h := lt_i e h; clear e
    refine g_aload_n (i := 0) hE d_Uw_put_23 rfl rfl ?_
    refine g_dupr hE d_Uw_put_24 ?_
    refine g_getI 5 hE kc_Uw k1 (Nat.le_of_ble_eq_true rfl) rfl m_273 d_Uw_put_25 (fun x12 e => ?_)
    replace h := lt_i e h; clear e
    refine g_iconst hE d_Uw_put_28 ki_1 ?_
    refine g_iadd hE d_Uw_put_29 ?_
    refine g_putI 5 hE kc_Uw k1 (Nat.le_of_ble_eq_true rfl) rfl m_273 rfl (by decide +kernel) d_Uw_put_30 (fun d13 e => ?_)
    replace h := lt_i e h; clear e
    cases h
    exact g_vret hE d_Uw_put_33 rfl rfl
theorem d_Uw_putInPool_0 : dc b_Uw_putInPool 0 (.aload_n 0) 1 1 := ⟨by decide +kernel, rfl⟩
theorem d_Uw_putInPool_1 : dc b_Uw_putInPool 1 (.getfield 32) 3 4 := ⟨by decide +kernel, rfl⟩
theorem d_Uw_putInPool_4 : dc b_Uw_putInPool 4 (.aload_n 0) 1 5 := ⟨by decide +kernel, rfl⟩
theorem d_Uw_putInPool_5 : dc b_Uw_putInPool 5 (.getfield 15) 3 8 := ⟨by decide +kernel, rfl⟩
theorem d_Uw_putInPool_8 : dc b_Uw_putInPool 8 (.arraylength) 1 9 := ⟨by decide +kernel, rfl⟩
theorem d_Uw_putInPool_9 : db b_Uw_putInPool 9 (.if_icmp .ge 24) 24 33 12 := ⟨by decide +kernel, by decide, rfl⟩
theorem d_Uw_putInPool_12 : dc b_Uw_putInPool 12 (.aload_n 0) 1 13 := ⟨by decide +kernel, rfl⟩
theorem d_Uw_putInPool_13 : dc b_Uw_putInPool 13 (.getfield 15) 3 16 := ⟨by decide +kernel, rfl⟩
theorem d_Uw_putInPool_16 : dc b_Uw_putInPool 16 (.aload_n 0) 1 17 := ⟨by decide +kernel, rfl⟩
theorem d_Uw_putInPool_17 : dc b_Uw_putInPool 17 (.getfield 32) 3 20 := ⟨by decide +kernel, rfl⟩
theorem d_Uw_putInPool_20 : dc b_Uw_putInPool 20 (.iload_n 1) 1 21 := ⟨by decide +kernel, rfl⟩
theorem d_Uw_putInPool_21 : dc b_Uw_putInPool 21 (.i2b) 1 22 := ⟨by decide +kernel, rfl⟩
theorem d_Uw_putInPool_22 : dc b_Uw_putInPool 22 (.bastore) 1 23 := ⟨by decide +kernel, rfl⟩
theorem d_Uw_putInPool_23 : dc b_Uw_putInPool 23 (.aload_n 0) 1 24 := ⟨by decide +kernel, rfl⟩
theorem d_Uw_putInPool_24 : dc b_Uw_putInPool 24 (.dup) 1 25 := ⟨by decide +kernel, rfl⟩
theorem d_Uw_putInPool_25 : dc b_Uw_putInPool 25 (.getfield 32) 3 28 := ⟨by decide +kernel, rfl⟩
theorem d_Uw_putInPool_28 : dc b_Uw_putInPool 28 (.iconst 1) 1 29 := ⟨by decide +kernel, rfl⟩
theorem d_Uw_putInPool_29 : dc b_Uw_putInPool 29 (.iadd) 1 30 := ⟨by decide +kernel, rfl⟩
theorem d_Uw_putInPool_30 : dc b_Uw_putInPool 30 (.putfield 32) 3 33 := ⟨by decide +kernel, rfl⟩
theorem d_Uw_putInPool_33 : dc b_Uw_putInPool 33 (.return_) 1 34 := ⟨by decide +kernel, rfl⟩
set_option maxRecDepth 100000 in
def f_Uw_putInPool (S : gS) (d : gD) (o : Nat) (v1 : Int32) : Option (Unit × gD) :=
  kd S o 9 <|
  lt_ (dI d o 3) fun x2 =>
  lt_ (sP S o 2) fun x3 =>
  nn x3 fun a4 =>
  kd S a4 52 <|
  if (Int32.ofNat (sN S a4)) ≤ x2 then (
    some ((), d))
  else (
    lt_ (sP S o 2) fun x6 =>
    lt_ (dI d o 3) fun x7 =>
    nn x6 fun a8 =>
    kd S a8 52 <|
    gi x7 (sN S a8) <|
    lt_ (wI d a8 x7.toNatClampNeg (vp_nar .byte ((Int32.toInt8 v1).toInt32))) fun d11 =>
    lt_ (dI d11 o 3) fun x12 =>
    lt_ (wI d11 o 3 (x12 + 1)) fun d13 =>
    some ((), d13))
set_option maxRecDepth 100000 in
set_option maxHeartbeats 4000000 in
theorem c_Uw_putInPool (l : Launch) (G : gG) {S : gS} {d : gD} {o : Nat} {v1 : Int32} {r : Unit} {d' : gD} (h : f_Uw_putInPool S d o v1 = some (r, d')) : GM l G y_Uw_putInPool b_Uw_putInPool 2 none 0 0 0 0 [.inr (.inr (some o)), .inl v1] S d (none) S d' := by
  refine GM.of (by decide) (Nat.le_of_ble_eq_true rfl) ?_
  intro X hl0 hG0 hR0 hE0
  have hE : gE X b_Uw_putInPool 2 "StandInMill$UnitWriter" none "putInPool" 0 0 := hE0
  unfold f_Uw_putInPool at h
  refine gw.less (lv' := [some (va_rf (some o)), some (.int v1)]) (And.intro rfl (And.intro rfl trivial)) ?_
  refine g_aload_n (i := 0) hE d_Uw_putInPool_0 rfl rfl ?_
  obtain ⟨k1, h⟩ := kd_s h
  refine g_getI 3 hE kc_Uw k1 (Nat.le_of_ble_eq_true rfl) rfl m_274 d_Uw_putInPool_1 (fun x2 e => ?_)
  replace h := lt_i e h; clear e
  refine g_aload_n (i := 0) hE d_Uw_putInPool_4 rfl rfl ?_
  refine g_getR 2 hE kc_Uw k1 (Nat.le_of_ble_eq_true rfl) rfl m_24 d_Uw_putInPool_5 (fun x3 e => ?_)
  replace h := lt_i e h; clear e
  obtain ⟨a4, rfl, h⟩ := nn_s h
  obtain ⟨k5, h⟩ := kd_s h
  refine g_alen hE k5 (by decide) d_Uw_putInPool_8 ?_
  refine g_icmp_ge hE d_Uw_putInPool_9 (fun c14 => ?_) (fun c14 => ?_)
  · replace h := if_t c14 h
    cases h
    exact g_vret hE d_Uw_putInPool_33 rfl rfl
  · replace h := if_f c14 h
    refine g_aload_n (i := 0) hE d_Uw_putInPool_12 rfl rfl ?_
    refine g_getR 2 hE kc_Uw k1 (Nat.le_of_ble_eq_true rfl) rfl m_24 d_Uw_putInPool_13 (fun x6 e => ?_)
    replace h := lt_i e h; clear e
    refine g_aload_n (i := 0) hE d_Uw_putInPool_16 rfl rfl ?_
    refine g_getI 3 hE kc_Uw k1 (Nat.le_of_ble_eq_true rfl) rfl m_274 d_Uw_putInPool_17 (fun x7 e => ?_)
    replace h := lt_i e h; clear e
    refine g_iload_n (i := 1) hE d_Uw_putInPool_20 rfl rfl ?_
    refine g_i2b hE d_Uw_putInPool_21 ?_
    obtain ⟨a8, rfl, h⟩ := nn_s h
    obtain ⟨k9, h⟩ := kd_s h
    obtain ⟨g10, h⟩ := gi_s h
    refine g_bast hE k9 g10 d_Uw_putInPool_22 (fun d11 e => ?_)
    replace h := lt_i e h; clear e
    refine g_aload_n (i := 0) hE d_Uw_putInPool_23 rfl rfl ?_
    refine g_dupr hE d_Uw_putInPool_24 ?_
    refine g_getI 3 hE kc_Uw k1 (Nat.le_of_ble_eq_true rfl) rfl m_274 d_Uw_putInPool_25 (fun x12 e => ?_)
    replace h := lt_i e h; clear e
    refine g_iconst hE d_Uw_putInPool_28 ki_1 ?_
    refine g_iadd hE d_Uw_putInPool_29 ?_
    refine g_putI 3 hE kc_Uw k1 (Nat.le_of_ble_eq_true rfl) rfl m_274 rfl (by decide +kernel) d_Uw_putInPool_30 (fun d13 e => ?_)
    replace h := lt_i e h; clear e
    cases h
    exact g_vret hE d_Uw_putInPool_33 rfl rfl
theorem d_Uw_putEntry_0 : dc b_Uw_putEntry 0 (.aload_n 0) 1 1 := ⟨by decide +kernel, rfl⟩
theorem d_Uw_putEntry_1 : dc b_Uw_putEntry 1 (.getfield 11) 3 4 := ⟨by decide +kernel, rfl⟩
theorem d_Uw_putEntry_4 : dc b_Uw_putEntry 4 (.iload_n 1) 1 5 := ⟨by decide +kernel, rfl⟩
theorem d_Uw_putEntry_5 : dc b_Uw_putEntry 5 (.iaload) 1 6 := ⟨by decide +kernel, rfl⟩
theorem d_Uw_putEntry_6 : dc b_Uw_putEntry 6 (.iconst (-1)) 1 7 := ⟨by decide +kernel, rfl⟩
theorem d_Uw_putEntry_7 : db b_Uw_putEntry 7 (.if_icmp .ne 7) 7 14 10 := ⟨by decide +kernel, by decide, rfl⟩
theorem d_Uw_putEntry_10 : dc b_Uw_putEntry 10 (.iconst 1) 1 11 := ⟨by decide +kernel, rfl⟩
theorem d_Uw_putEntry_11 : db b_Uw_putEntry 11 (.goto 4) 4 15 14 := ⟨by decide +kernel, by decide, rfl⟩
theorem d_Uw_putEntry_14 : dc b_Uw_putEntry 14 (.iconst 0) 1 15 := ⟨by decide +kernel, rfl⟩
theorem d_Uw_putEntry_15 : dc b_Uw_putEntry 15 (.istore 4) 2 17 := ⟨by decide +kernel, rfl⟩
theorem d_Uw_putEntry_17 : dc b_Uw_putEntry 17 (.iload 4) 2 19 := ⟨by decide +kernel, rfl⟩
theorem d_Uw_putEntry_19 : db b_Uw_putEntry 19 (.ifCond .eq 33) 33 52 22 := ⟨by decide +kernel, by decide, rfl⟩
theorem d_Uw_putEntry_22 : dc b_Uw_putEntry 22 (.aload_n 0) 1 23 := ⟨by decide +kernel, rfl⟩
theorem d_Uw_putEntry_23 : dc b_Uw_putEntry 23 (.getfield 11) 3 26 := ⟨by decide +kernel, rfl⟩
theorem d_Uw_putEntry_26 : dc b_Uw_putEntry 26 (.iload_n 1) 1 27 := ⟨by decide +kernel, rfl⟩
theorem d_Uw_putEntry_27 : dc b_Uw_putEntry 27 (.aload_n 0) 1 28 := ⟨by decide +kernel, rfl⟩
theorem d_Uw_putEntry_28 : dc b_Uw_putEntry 28 (.getfield 28) 3 31 := ⟨by decide +kernel, rfl⟩
theorem d_Uw_putEntry_31 : dc b_Uw_putEntry 31 (.iastore) 1 32 := ⟨by decide +kernel, rfl⟩
theorem d_Uw_putEntry_32 : dc b_Uw_putEntry 32 (.aload_n 0) 1 33 := ⟨by decide +kernel, rfl⟩
theorem d_Uw_putEntry_33 : dc b_Uw_putEntry 33 (.dup) 1 34 := ⟨by decide +kernel, rfl⟩
theorem d_Uw_putEntry_34 : dc b_Uw_putEntry 34 (.getfield 28) 3 37 := ⟨by decide +kernel, rfl⟩
theorem d_Uw_putEntry_37 : dc b_Uw_putEntry 37 (.iconst 1) 1 38 := ⟨by decide +kernel, rfl⟩
theorem d_Uw_putEntry_38 : dc b_Uw_putEntry 38 (.iadd) 1 39 := ⟨by decide +kernel, rfl⟩
theorem d_Uw_putEntry_39 : dc b_Uw_putEntry 39 (.putfield 28) 3 42 := ⟨by decide +kernel, rfl⟩
theorem d_Uw_putEntry_42 : dc b_Uw_putEntry 42 (.aload_n 0) 1 43 := ⟨by decide +kernel, rfl⟩
theorem d_Uw_putEntry_43 : dc b_Uw_putEntry 43 (.iload_n 2) 1 44 := ⟨by decide +kernel, rfl⟩
theorem d_Uw_putEntry_44 : dc b_Uw_putEntry 44 (.invokevirtual 151) 3 47 := ⟨by decide +kernel, rfl⟩
theorem d_Uw_putEntry_47 : dc b_Uw_putEntry 47 (.aload_n 0) 1 48 := ⟨by decide +kernel, rfl⟩
theorem d_Uw_putEntry_48 : dc b_Uw_putEntry 48 (.iload_n 3) 1 49 := ⟨by decide +kernel, rfl⟩
theorem d_Uw_putEntry_49 : dc b_Uw_putEntry 49 (.invokevirtual 151) 3 52 := ⟨by decide +kernel, rfl⟩
theorem d_Uw_putEntry_52 : dc b_Uw_putEntry 52 (.aload_n 0) 1 53 := ⟨by decide +kernel, rfl⟩
theorem d_Uw_putEntry_53 : dc b_Uw_putEntry 53 (.aload_n 0) 1 54 := ⟨by decide +kernel, rfl⟩
theorem d_Uw_putEntry_54 : dc b_Uw_putEntry 54 (.getfield 11) 3 57 := ⟨by decide +kernel, rfl⟩
theorem d_Uw_putEntry_57 : dc b_Uw_putEntry 57 (.iload_n 1) 1 58 := ⟨by decide +kernel, rfl⟩
theorem d_Uw_putEntry_58 : dc b_Uw_putEntry 58 (.iaload) 1 59 := ⟨by decide +kernel, rfl⟩
theorem d_Uw_putEntry_59 : dc b_Uw_putEntry 59 (.invokevirtual 43) 3 62 := ⟨by decide +kernel, rfl⟩
theorem d_Uw_putEntry_62 : dc b_Uw_putEntry 62 (.iload 4) 2 64 := ⟨by decide +kernel, rfl⟩
theorem d_Uw_putEntry_64 : dc b_Uw_putEntry 64 (.ireturn) 1 65 := ⟨by decide +kernel, rfl⟩
def f_Uw_putEntry_J52 (S : gS) (o : Nat) (d : gD) (v1 : Int32) (v4 : Int32) : Option (Int32 × gD) :=
  kd S o 9 <|
  lt_ (sP S o 0) fun x2 =>
  nn x2 fun a3 =>
  kd S a3 50 <|
  gi v1 (sN S a3) <|
  lt_ (dI d a3 v1.toNatClampNeg) fun x6 =>
  bdD (f_Uw_put S d o x6) fun _ d9 =>
  nb v4 <|
  some (v4, d9)
set_option maxRecDepth 100000 in
set_option maxHeartbeats 4000000 in
theorem w_Uw_putEntry_J52 {X : GX} (hE : gE X b_Uw_putEntry 5 "StandInMill$UnitWriter" (some (.boolean)) "putEntry" 1 21) {S : gS} {o : Nat} {r : Int32} {d' : gD} :
    ∀ (d : gD) (v1 : Int32) (v4 : Int32), f_Uw_putEntry_J52 S o d v1 v4 = some (r, d') → gw X 0 0 (gQ X (some (.int r)) S d' 0 0) S d 52 [some (va_rf (some o)), some (.int v1), none, none, some (.int v4)] [] := by
  intro d v1 v4 h
  unfold f_Uw_putEntry_J52 at h
  refine g_aload_n (i := 0) hE d_Uw_putEntry_52 rfl rfl ?_
  refine g_aload_n (i := 0) hE d_Uw_putEntry_53 rfl rfl ?_
  obtain ⟨k1, h⟩ := kd_s h
  refine g_getR 0 hE kc_Uw k1 (Nat.le_of_ble_eq_true rfl) rfl m_22 d_Uw_putEntry_54 (fun x2 e => ?_)
  replace h := lt_i e h; clear e
  refine g_iload_n (i := 1) hE d_Uw_putEntry_57 rfl rfl ?_
  obtain ⟨a3, rfl, h⟩ := nn_s h
  obtain ⟨k4, h⟩ := kd_s h
  obtain ⟨g5, h⟩ := gi_s h
  refine g_iald hE k4 g5 d_Uw_putEntry_58 (fun x6 e => ?_)
  replace h := lt_i e h; clear e
  obtain ⟨x7, d9, e8, h⟩ := bdD_s h
  refine g_callV (av := [.inr (.inr (some o)), .inl x6]) (as := [.inl x6]) (stk := []) [] hE (c_Uw_put (xl X) (xG X) e8) ky_Uw_put ⟨Nat.le_of_ble_eq_true rfl, Nat.le_of_ble_eq_true rfl⟩ rfl kc_Uw k1 m_275 m_276 m_277 rfl d_Uw_putEntry_59 rfl rfl ct_0 (Nat.zero_le _) (Nat.zero_le _) ?_
  refine gw.cs (c2 := 0) (s2 := 0) rfl rfl ?_
  refine g_iload (i := 4) hE d_Uw_putEntry_62 rfl ?_
  obtain ⟨g10, h⟩ := nb_s h
  cases h
  exact g_zret hE g10 d_Uw_putEntry_64 rfl rfl
def f_Uw_putEntry_J15 (S : gS) (o : Nat) (d : gD) (v1 : Int32) (v2 : Int32) (v3 : Int32) (u0 : Int32) : Option (Int32 × gD) :=
  if u0 = 0 then (
    f_Uw_putEntry_J52 S o d v1 u0)
  else (
    kd S o 9 <|
    lt_ (sP S o 0) fun x2 =>
    lt_ (dI d o 1) fun x3 =>
    nn x2 fun a4 =>
    kd S a4 50 <|
    gi v1 (sN S a4) <|
    lt_ (wI d a4 v1.toNatClampNeg x3) fun d7 =>
    lt_ (dI d7 o 1) fun x8 =>
    lt_ (wI d7 o 1 (x8 + 1)) fun d9 =>
    bdD (f_Uw_putInPool S d9 o v2) fun _ d12 =>
    bdD (f_Uw_putInPool S d12 o v3) fun _ d15 =>
    f_Uw_putEntry_J52 S o d15 v1 u0)
set_option maxRecDepth 100000 in
set_option maxHeartbeats 4000000 in
theorem w_Uw_putEntry_J15 {X : GX} (hE : gE X b_Uw_putEntry 5 "StandInMill$UnitWriter" (some (.boolean)) "putEntry" 1 21) {S : gS} {o : Nat} {r : Int32} {d' : gD} :
    ∀ (d : gD) (v1 : Int32) (v2 : Int32) (v3 : Int32) (u0 : Int32), f_Uw_putEntry_J15 S o d v1 v2 v3 u0 = some (r, d') → gw X 0 0 (gQ X (some (.int r)) S d' 0 0) S d 15 [some (va_rf (some o)), some (.int v1), some (.int v2), some (.int v3), none] [.int u0] := by
  intro d v1 v2 v3 u0 h
  unfold f_Uw_putEntry_J15 at h
  refine g_istore (i := 4) (lv' := [some (va_rf (some o)), some (.int v1), some (.int v2), some (.int v3), some (.int u0)]) hE d_Uw_putEntry_15 (Nat.le_of_ble_eq_true rfl) ⟨rfl, Nat.le_of_ble_eq_true rfl⟩ (lvp_i rfl) ?_
  refine g_iload (i := 4) hE d_Uw_putEntry_17 rfl ?_
  refine g_if_eq hE d_Uw_putEntry_19 (fun c16 => ?_) (fun c16 => ?_)
  · replace h := if_t c16 h
    exact gw.less (lv' := [some (va_rf (some o)), some (.int v1), none, none, some (.int u0)]) (And.intro rfl (And.intro rfl (And.intro rfl trivial))) (w_Uw_putEntry_J52 hE d v1 u0 h)
  · replace h := if_f c16 h
    refine g_aload_n (i := 0) hE d_Uw_putEntry_22 rfl rfl ?_
    obtain ⟨k1, h⟩ := kd_s h
    refine g_getR 0 hE kc_Uw k1 (Nat.le_of_ble_eq_true rfl) rfl m_22 d_Uw_putEntry_23 (fun x2 e => ?_)
    replace h := lt_i e h; clear e
    refine g_iload_n (i := 1) hE d_Uw_putEntry_26 rfl rfl ?_
    refine g_aload_n (i := 0) hE d_Uw_putEntry_27 rfl rfl ?_
    refine g_getI 1 hE kc_Uw k1 (Nat.le_of_ble_eq_true rfl) rfl m_278 d_Uw_putEntry_28 (fun x3 e => ?_)
    replace h := lt_i e h; clear e
    obtain ⟨a4, rfl, h⟩ := nn_s h
    obtain ⟨k5, h⟩ := kd_s h
    obtain ⟨g6, h⟩ := gi_s h
    refine g_iast hE k5 g6 d_Uw_putEntry_31 (fun d7 e => ?_)
    replace h := lt_i e h; clear e
    refine g_aload_n (i := 0) hE d_Uw_putEntry_32 rfl rfl ?_
    refine g_dupr hE d_Uw_putEntry_33 ?_
    refine g_getI 1 hE kc_Uw k1 (Nat.le_of_ble_eq_true rfl) rfl m_278 d_Uw_putEntry_34 (fun x8 e => ?_)
    replace h := lt_i e h; clear e
    refine g_iconst hE d_Uw_putEntry_37 ki_1 ?_
    refine g_iadd hE d_Uw_putEntry_38 ?_
    refine g_putI 1 hE kc_Uw k1 (Nat.le_of_ble_eq_true rfl) rfl m_278 rfl (by decide +kernel) d_Uw_putEntry_39 (fun d9 e => ?_)
    replace h := lt_i e h; clear e
    refine g_aload_n (i := 0) hE d_Uw_putEntry_42 rfl rfl ?_
    refine g_iload_n (i := 2) hE d_Uw_putEntry_43 rfl rfl ?_
    obtain ⟨x10, d12, e11, h⟩ := bdD_s h
    refine g_callV (av := [.inr (.inr (some o)), .inl v2]) (as := [.inl v2]) (stk := []) [] hE (c_Uw_putInPool (xl X) (xG X) e11) ky_Uw_putInPool ⟨Nat.le_of_ble_eq_true rfl, Nat.le_of_ble_eq_true rfl⟩ rfl kc_Uw k1 m_279 m_280 m_281 rfl d_Uw_putEntry_44 rfl rfl ct_0 (Nat.zero_le _) (Nat.zero_le _) ?_
    refine gw.cs (c2 := 0) (s2 := 0) rfl rfl ?_
    refine g_aload_n (i := 0) hE d_Uw_putEntry_47 rfl rfl ?_
    refine g_iload_n (i := 3) hE d_Uw_putEntry_48 rfl rfl ?_
    obtain ⟨x13, d15, e14, h⟩ := bdD_s h
    refine g_callV (av := [.inr (.inr (some o)), .inl v3]) (as := [.inl v3]) (stk := []) [] hE (c_Uw_putInPool (xl X) (xG X) e14) ky_Uw_putInPool ⟨Nat.le_of_ble_eq_true rfl, Nat.le_of_ble_eq_true rfl⟩ rfl kc_Uw k1 m_279 m_280 m_281 rfl d_Uw_putEntry_49 rfl rfl ct_0 (Nat.zero_le _) (Nat.zero_le _) ?_
    refine gw.cs (c2 := 0) (s2 := 0) rfl rfl ?_
    exact gw.less (lv' := [some (va_rf (some o)), some (.int v1), none, none, some (.int u0)]) (And.intro rfl (And.intro rfl (And.intro rfl trivial))) (w_Uw_putEntry_J52 hE d15 v1 u0 h)
set_option maxRecDepth 100000 in
def f_Uw_putEntry (S : gS) (d : gD) (o : Nat) (v1 : Int32) (v2 : Int32) (v3 : Int32) : Option (Int32 × gD) :=
  kd S o 9 <|
  lt_ (sP S o 0) fun x2 =>
  nn x2 fun a3 =>
  kd S a3 50 <|
  gi v1 (sN S a3) <|
  lt_ (dI d a3 v1.toNatClampNeg) fun x6 =>
  if x6 = (-1) then (
    f_Uw_putEntry_J15 S o d v1 v2 v3 1)
  else (
    f_Uw_putEntry_J15 S o d v1 v2 v3 0)
set_option maxRecDepth 100000 in
set_option maxHeartbeats 4000000 in
theorem c_Uw_putEntry (l : Launch) (G : gG) {S : gS} {d : gD} {o : Nat} {v1 : Int32} {v2 : Int32} {v3 : Int32} {r : Int32} {d' : gD} (h : f_Uw_putEntry S d o v1 v2 v3 = some (r, d')) : GM l G y_Uw_putEntry b_Uw_putEntry 5 (some (.boolean)) 1 21 0 0 [.inr (.inr (some o)), .inl v1, .inl v2, .inl v3] S d (some (.int r)) S d' := by
  refine GM.of (by decide) (Nat.le_of_ble_eq_true rfl) ?_
  intro X hl0 hG0 hR0 hE0
  have hE : gE X b_Uw_putEntry 5 "StandInMill$UnitWriter" (some (.boolean)) "putEntry" 1 21 := hE0
  unfold f_Uw_putEntry at h
  refine gw.less (lv' := [some (va_rf (some o)), some (.int v1), some (.int v2), some (.int v3), none]) (And.intro rfl (And.intro rfl (And.intro rfl (And.intro rfl trivial)))) ?_
  refine g_aload_n (i := 0) hE d_Uw_putEntry_0 rfl rfl ?_
  obtain ⟨k1, h⟩ := kd_s h
  refine g_getR 0 hE kc_Uw k1 (Nat.le_of_ble_eq_true rfl) rfl m_22 d_Uw_putEntry_1 (fun x2 e => ?_)
  replace h := lt_i e h; clear e
  refine g_iload_n (i := 1) hE d_Uw_putEntry_4 rfl rfl ?_
  obtain ⟨a3, rfl, h⟩ := nn_s h
  obtain ⟨k4, h⟩ := kd_s h
  obtain ⟨g5, h⟩ := gi_s h
  refine g_iald hE k4 g5 d_Uw_putEntry_5 (fun x6 e => ?_)
  replace h := lt_i e h; clear e
  refine g_iconst hE d_Uw_putEntry_6 ki_m1 ?_
  refine g_icmp_ne hE d_Uw_putEntry_7 (fun c7 => ?_) (fun c7 => ?_)
  · replace h := if_f c7 h
    refine g_iconst hE d_Uw_putEntry_14 ki_0 ?_
    exact gw.less (lv' := [some (va_rf (some o)), some (.int v1), some (.int v2), some (.int v3), none]) (And.intro rfl (And.intro rfl (And.intro rfl (And.intro rfl trivial)))) (w_Uw_putEntry_J15 hE d v1 v2 v3 0 h)
  · replace h := if_t c7 h
    refine g_iconst hE d_Uw_putEntry_10 ki_1 ?_
    refine g_goto hE d_Uw_putEntry_11 ?_
    exact gw.less (lv' := [some (va_rf (some o)), some (.int v1), some (.int v2), some (.int v3), none]) (And.intro rfl (And.intro rfl (And.intro rfl (And.intro rfl trivial)))) (w_Uw_putEntry_J15 hE d v1 v2 v3 1 h)
theorem d_Uw_putType_0 : dc b_Uw_putType 0 (.aload_n 0) 1 1 := ⟨by decide +kernel, rfl⟩
theorem d_Uw_putType_1 : dc b_Uw_putType 1 (.iload_n 1) 1 2 := ⟨by decide +kernel, rfl⟩
theorem d_Uw_putType_2 : dc b_Uw_putType 2 (.iconst 1) 1 3 := ⟨by decide +kernel, rfl⟩
theorem d_Uw_putType_3 : dc b_Uw_putType 3 (.iload_n 1) 1 4 := ⟨by decide +kernel, rfl⟩
theorem d_Uw_putType_4 : dc b_Uw_putType 4 (.invokevirtual 85) 3 7 := ⟨by decide +kernel, rfl⟩
theorem d_Uw_putType_7 : dc b_Uw_putType 7 (.pop) 1 8 := ⟨by decide +kernel, rfl⟩
theorem d_Uw_putType_8 : dc b_Uw_putType 8 (.return_) 1 9 := ⟨by decide +kernel, rfl⟩
set_option maxRecDepth 100000 in
def f_Uw_putType (S : gS) (d : gD) (o : Nat) (v1 : Int32) : Option (Unit × gD) :=
  kd S o 9 <|
  bdD (f_Uw_putEntry S d o v1 1 v1) fun x2 d4 =>
  some ((), d4)
set_option maxRecDepth 100000 in
set_option maxHeartbeats 4000000 in
theorem c_Uw_putType (l : Launch) (G : gG) {S : gS} {d : gD} {o : Nat} {v1 : Int32} {r : Unit} {d' : gD} (h : f_Uw_putType S d o v1 = some (r, d')) : GM l G y_Uw_putType b_Uw_putType 2 none 2 45 0 0 [.inr (.inr (some o)), .inl v1] S d (none) S d' := by
  refine GM.of (by decide) (Nat.le_of_ble_eq_true rfl) ?_
  intro X hl0 hG0 hR0 hE0
  have hE : gE X b_Uw_putType 2 "StandInMill$UnitWriter" none "putType" 2 45 := hE0
  unfold f_Uw_putType at h
  refine gw.less (lv' := [some (va_rf (some o)), some (.int v1)]) (And.intro rfl (And.intro rfl trivial)) ?_
  refine g_aload_n (i := 0) hE d_Uw_putType_0 rfl rfl ?_
  refine g_iload_n (i := 1) hE d_Uw_putType_1 rfl rfl ?_
  refine g_iconst hE d_Uw_putType_2 ki_1 ?_
  refine g_iload_n (i := 1) hE d_Uw_putType_3 rfl rfl ?_
  obtain ⟨k1, h⟩ := kd_s h
  obtain ⟨x2, d4, e3, h⟩ := bdD_s h
  refine g_callV (av := [.inr (.inr (some o)), .inl v1, .inl 1, .inl v1]) (as := [.inl v1, .inl 1, .inl v1]) (stk := [.int x2]) [] hE (c_Uw_putEntry (xl X) (xG X) e3) ky_Uw_putEntry ⟨Nat.le_of_ble_eq_true rfl, Nat.le_of_ble_eq_true rfl⟩ rfl kc_Uw k1 m_282 m_283 m_284 rfl d_Uw_putType_4 rfl rfl ct_0 (Nat.zero_le _) (Nat.zero_le _) ?_
  refine gw.cs (c2 := 0) (s2 := 0) rfl rfl ?_
  refine g_popi hE d_Uw_putType_7 ?_
  cases h
  exact g_vret hE d_Uw_putType_8 rfl rfl
theorem d_Uw_putTypes_0 : dc b_Uw_putTypes 0 (.aload_n 0) 1 1 := ⟨by decide +kernel, rfl⟩
theorem d_Uw_putTypes_1 : dc b_Uw_putTypes 1 (.iload_n 1) 1 2 := ⟨by decide +kernel, rfl⟩
theorem d_Uw_putTypes_2 : dc b_Uw_putTypes 2 (.invokestatic 118) 3 5 := ⟨by decide +kernel, rfl⟩
theorem d_Uw_putTypes_5 : dc b_Uw_putTypes 5 (.invokevirtual 43) 3 8 := ⟨by decide +kernel, rfl⟩
theorem d_Uw_putTypes_8 : dc b_Uw_putTypes 8 (.iconst 0) 1 9 := ⟨by decide +kernel, rfl⟩
theorem d_Uw_putTypes_9 : dc b_Uw_putTypes 9 (.istore_n 2) 1 10 := ⟨by decide +kernel, rfl⟩
theorem d_Uw_putTypes_10 : dc b_Uw_putTypes 10 (.iload_n 2) 1 11 := ⟨by decide +kernel, rfl⟩
theorem d_Uw_putTypes_11 : dc b_Uw_putTypes 11 (.iload_n 1) 1 12 := ⟨by decide +kernel, rfl⟩
theorem d_Uw_putTypes_12 : dc b_Uw_putTypes 12 (.invokestatic 118) 3 15 := ⟨by decide +kernel, rfl⟩
theorem d_Uw_putTypes_15 : db b_Uw_putTypes 15 (.if_icmp .ge 18) 18 33 18 := ⟨by decide +kernel, by decide, rfl⟩
theorem d_Uw_putTypes_18 : dc b_Uw_putTypes 18 (.aload_n 0) 1 19 := ⟨by decide +kernel, rfl⟩
theorem d_Uw_putTypes_19 : dc b_Uw_putTypes 19 (.iload_n 1) 1 20 := ⟨by decide +kernel, rfl⟩
theorem d_Uw_putTypes_20 : dc b_Uw_putTypes 20 (.iload_n 2) 1 21 := ⟨by decide +kernel, rfl⟩
theorem d_Uw_putTypes_21 : dc b_Uw_putTypes 21 (.invokestatic 122) 3 24 := ⟨by decide +kernel, rfl⟩
theorem d_Uw_putTypes_24 : dc b_Uw_putTypes 24 (.invokevirtual 95) 3 27 := ⟨by decide +kernel, rfl⟩
theorem d_Uw_putTypes_27 : dc b_Uw_putTypes 27 (.iinc 2 1) 3 30 := ⟨by decide +kernel, rfl⟩
theorem d_Uw_putTypes_30 : db b_Uw_putTypes 30 (.goto (-20)) (-20) 10 33 := ⟨by decide +kernel, by decide, rfl⟩
theorem d_Uw_putTypes_33 : dc b_Uw_putTypes 33 (.return_) 1 34 := ⟨by decide +kernel, rfl⟩
def f_Uw_putTypes_B10 (S : gS) (o : Nat) (kb : gD → Int32 → Int32 → Option (Unit × gD)) (d : gD) (v1 : Int32) (v2 : Int32) : Option (Unit × gD) :=
  bd (f_M_lengthOf S d v1) fun x1 =>
  if x1 ≤ v2 then (
    some ((), d))
  else (
    bd (f_M_byteOf S d v1 v2) fun x3 =>
    kd S o 9 <|
    bdD (f_Uw_putType S d o x3) fun _ d8 =>
    kb d8 v1 (v2 + 1))
set_option maxRecDepth 100000 in
set_option maxHeartbeats 4000000 in
theorem w_Uw_putTypes_B10 {X : GX} (hE : gE X b_Uw_putTypes 3 "StandInMill$UnitWriter" none "putTypes" 3 66) {S : gS} {o : Nat} {r : Unit} {d' : gD} {kb : gD → Int32 → Int32 → Option (Unit × gD)} (hkb : ∀ (d : gD) (v1 : Int32) (v2 : Int32), kb d v1 v2 = some (r, d') → gw X 0 0 (gQ X (none) S d' 0 0) S d 10 [some (va_rf (some o)), some (.int v1), some (.int v2)] []) :
    ∀ (d : gD) (v1 : Int32) (v2 : Int32), f_Uw_putTypes_B10 S o kb d v1 v2 = some (r, d') → gw X 0 0 (gQ X (none) S d' 0 0) S d 10 [some (va_rf (some o)), some (.int v1), some (.int v2)] [] := by
  intro d v1 v2 h
  unfold f_Uw_putTypes_B10 at h
  refine g_iload_n (i := 2) hE d_Uw_putTypes_10 rfl rfl ?_
  refine g_iload_n (i := 1) hE d_Uw_putTypes_11 rfl rfl ?_
  obtain ⟨x1, e2, h⟩ := bd_s h
  refine g_callSN (av := [.inl v1]) (stk := [.int x1, .int v2]) [.int v2] hE (c_M_lengthOf (xl X) (xG X) e2) ky_M_lengthOf ⟨Nat.le_of_ble_eq_true rfl, Nat.le_of_ble_eq_true rfl⟩ nm_6 m_135 rfl d_Uw_putTypes_12 rfl rfl (Nat.le_trans (ct_i ct_n) (Nat.le_of_ble_eq_true rfl)) (Nat.zero_le _) (Nat.zero_le _) ?_
  refine gw.cs (c2 := 0) (s2 := 0) rfl rfl ?_
  refine g_icmp_ge hE d_Uw_putTypes_15 (fun c9 => ?_) (fun c9 => ?_)
  · replace h := if_t c9 h
    cases h
    exact g_vret hE d_Uw_putTypes_33 rfl rfl
  · replace h := if_f c9 h
    refine g_aload_n (i := 0) hE d_Uw_putTypes_18 rfl rfl ?_
    refine g_iload_n (i := 1) hE d_Uw_putTypes_19 rfl rfl ?_
    refine g_iload_n (i := 2) hE d_Uw_putTypes_20 rfl rfl ?_
    obtain ⟨x3, e4, h⟩ := bd_s h
    refine g_callSN (av := [.inl v1, .inl v2]) (stk := [.int x3, va_rf (some o)]) [va_rf (some o)] hE (c_M_byteOf (xl X) (xG X) e4) ky_M_byteOf ⟨Nat.le_of_ble_eq_true rfl, Nat.le_of_ble_eq_true rfl⟩ nm_7 m_129 rfl d_Uw_putTypes_21 rfl rfl (Nat.le_trans (ct_r ct_n) (Nat.le_of_ble_eq_true rfl)) (Nat.zero_le _) (Nat.zero_le _) ?_
    refine gw.cs (c2 := 0) (s2 := 0) rfl rfl ?_
    obtain ⟨k5, h⟩ := kd_s h
    obtain ⟨x6, d8, e7, h⟩ := bdD_s h
    refine g_callV (av := [.inr (.inr (some o)), .inl x3]) (as := [.inl x3]) (stk := []) [] hE (c_Uw_putType (xl X) (xG X) e7) ky_Uw_putType ⟨Nat.le_of_ble_eq_true rfl, Nat.le_of_ble_eq_true rfl⟩ rfl kc_Uw k5 m_285 m_286 m_287 rfl d_Uw_putTypes_24 rfl rfl ct_0 (Nat.zero_le _) (Nat.zero_le _) ?_
    refine gw.cs (c2 := 0) (s2 := 0) rfl rfl ?_
    refine g_iinc (i := 2) (lv' := [some (va_rf (some o)), some (.int v1), some (.int (v2 + 1))]) hE d_Uw_putTypes_27 ki_1 rfl (Nat.le_of_ble_eq_true rfl) ⟨rfl, Nat.le_of_ble_eq_true rfl⟩ (lvp_i rfl) ?_
    refine g_goto hE d_Uw_putTypes_30 ?_
    exact gw.less (lv' := [some (va_rf (some o)), some (.int v1), some (.int (v2 + 1))]) (And.intro rfl (And.intro rfl (And.intro rfl trivial))) (hkb d8 v1 (v2 + 1) h)
theorem w_Uw_putTypes_L10 {X : GX} (hE : gE X b_Uw_putTypes 3 "StandInMill$UnitWriter" none "putTypes" 3 66) {S : gS} {o : Nat} {r : Unit} {d' : gD} : ∀ (n : Nat) (d : gD) (v1 : Int32) (v2 : Int32), itr (f_Uw_putTypes_B10 S o) (fun _ _ _ => none) n d v1 v2 = some (r, d') → gw X 0 0 (gQ X (none) S d' 0 0) S d 10 [some (va_rf (some o)), some (.int v1), some (.int v2)] [] := by
  intro n
  induction n with
  | zero => intro d v1 v2 h; cases h
  | succ n ih => exact w_Uw_putTypes_B10 hE ih
set_option maxRecDepth 100000 in
def f_Uw_putTypes (S : gS) (d : gD) (o : Nat) (v1 : Int32) : Option (Unit × gD) :=
  bd (f_M_lengthOf S d v1) fun x1 =>
  kd S o 9 <|
  bdD (f_Uw_put S d o x1) fun _ d6 =>
  itr (f_Uw_putTypes_B10 S o) (fun _ _ _ => none) fu d6 v1 0
set_option maxRecDepth 100000 in
set_option maxHeartbeats 4000000 in
theorem c_Uw_putTypes (l : Launch) (G : gG) {S : gS} {d : gD} {o : Nat} {v1 : Int32} {r : Unit} {d' : gD} (h : f_Uw_putTypes S d o v1 = some (r, d')) : GM l G y_Uw_putTypes b_Uw_putTypes 3 none 3 66 0 0 [.inr (.inr (some o)), .inl v1] S d (none) S d' := by
  refine GM.of (by decide) (Nat.le_of_ble_eq_true rfl) ?_
  intro X hl0 hG0 hR0 hE0
  have hE : gE X b_Uw_putTypes 3 "StandInMill$UnitWriter" none "putTypes" 3 66 := hE0
  unfold f_Uw_putTypes at h
  refine gw.less (lv' := [some (va_rf (some o)), some (.int v1), none]) (And.intro rfl (And.intro rfl trivial)) ?_
  refine g_aload_n (i := 0) hE d_Uw_putTypes_0 rfl rfl ?_
  refine g_iload_n (i := 1) hE d_Uw_putTypes_1 rfl rfl ?_
  obtain ⟨x1, e2, h⟩ := bd_s h
  refine g_callSN (av := [.inl v1]) (stk := [.int x1, va_rf (some o)]) [va_rf (some o)] hE (c_M_lengthOf (xl X) (xG X) e2) ky_M_lengthOf ⟨Nat.le_of_ble_eq_true rfl, Nat.le_of_ble_eq_true rfl⟩ nm_6 m_135 rfl d_Uw_putTypes_2 rfl rfl (Nat.le_trans (ct_r ct_n) (Nat.le_of_ble_eq_true rfl)) (Nat.zero_le _) (Nat.zero_le _) ?_
  refine gw.cs (c2 := 0) (s2 := 0) rfl rfl ?_
  obtain ⟨k3, h⟩ := kd_s h
  obtain ⟨x4, d6, e5, h⟩ := bdD_s h
  refine g_callV (av := [.inr (.inr (some o)), .inl x1]) (as := [.inl x1]) (stk := []) [] hE (c_Uw_put (xl X) (xG X) e5) ky_Uw_put ⟨Nat.le_of_ble_eq_true rfl, Nat.le_of_ble_eq_true rfl⟩ rfl kc_Uw k3 m_275 m_276 m_277 rfl d_Uw_putTypes_5 rfl rfl ct_0 (Nat.zero_le _) (Nat.zero_le _) ?_
  refine gw.cs (c2 := 0) (s2 := 0) rfl rfl ?_
  refine g_iconst hE d_Uw_putTypes_8 ki_0 ?_
  refine g_istore_n (i := 2) (lv' := [some (va_rf (some o)), some (.int v1), some (.int 0)]) hE d_Uw_putTypes_9 rfl (Nat.le_of_ble_eq_true rfl) ⟨rfl, Nat.le_of_ble_eq_true rfl⟩ (lvp_i rfl) ?_
  exact gw.less (lv' := [some (va_rf (some o)), some (.int v1), some (.int 0)]) (And.intro rfl (And.intro rfl (And.intro rfl trivial))) (w_Uw_putTypes_L10 hE fu d6 v1 0 h)
theorem d_Uw_putRow_0 : dc b_Uw_putRow 0 (.aload_n 0) 1 1 := ⟨by decide +kernel, rfl⟩
theorem d_Uw_putRow_1 : dc b_Uw_putRow 1 (.aload_n 1) 1 2 := ⟨by decide +kernel, rfl⟩
theorem d_Uw_putRow_2 : dc b_Uw_putRow 2 (.getfield 109) 3 5 := ⟨by decide +kernel, rfl⟩
theorem d_Uw_putRow_5 : dc b_Uw_putRow 5 (.invokevirtual 43) 3 8 := ⟨by decide +kernel, rfl⟩
theorem d_Uw_putRow_8 : dc b_Uw_putRow 8 (.iconst 0) 1 9 := ⟨by decide +kernel, rfl⟩
theorem d_Uw_putRow_9 : dc b_Uw_putRow 9 (.istore_n 2) 1 10 := ⟨by decide +kernel, rfl⟩
theorem d_Uw_putRow_10 : dc b_Uw_putRow 10 (.iload_n 2) 1 11 := ⟨by decide +kernel, rfl⟩
theorem d_Uw_putRow_11 : dc b_Uw_putRow 11 (.aload_n 1) 1 12 := ⟨by decide +kernel, rfl⟩
theorem d_Uw_putRow_12 : dc b_Uw_putRow 12 (.getfield 109) 3 15 := ⟨by decide +kernel, rfl⟩
theorem d_Uw_putRow_15 : db b_Uw_putRow 15 (.if_icmp .ge 18) 18 33 18 := ⟨by decide +kernel, by decide, rfl⟩
theorem d_Uw_putRow_18 : dc b_Uw_putRow 18 (.aload_n 0) 1 19 := ⟨by decide +kernel, rfl⟩
theorem d_Uw_putRow_19 : dc b_Uw_putRow 19 (.aload_n 1) 1 20 := ⟨by decide +kernel, rfl⟩
theorem d_Uw_putRow_20 : dc b_Uw_putRow 20 (.iload_n 2) 1 21 := ⟨by decide +kernel, rfl⟩
theorem d_Uw_putRow_21 : dc b_Uw_putRow 21 (.invokevirtual 126) 3 24 := ⟨by decide +kernel, rfl⟩
theorem d_Uw_putRow_24 : dc b_Uw_putRow 24 (.invokevirtual 95) 3 27 := ⟨by decide +kernel, rfl⟩
theorem d_Uw_putRow_27 : dc b_Uw_putRow 27 (.iinc 2 1) 3 30 := ⟨by decide +kernel, rfl⟩
theorem d_Uw_putRow_30 : db b_Uw_putRow 30 (.goto (-20)) (-20) 10 33 := ⟨by decide +kernel, by decide, rfl⟩
theorem d_Uw_putRow_33 : dc b_Uw_putRow 33 (.return_) 1 34 := ⟨by decide +kernel, rfl⟩
def f_Uw_putRow_B10 (S : gS) (o : Nat) (kb : gD → Option Nat → Int32 → Option (Unit × gD)) (d : gD) (v1 : Option Nat) (v2 : Int32) : Option (Unit × gD) :=
  nn v1 fun a1 =>
  kd S a1 2 <|
  lt_ (dI d a1 1) fun x3 =>
  if x3 ≤ v2 then (
    some ((), d))
  else (
    bd (f_Rw_at S d a1 v2) fun x4 =>
    kd S o 9 <|
    bdD (f_Uw_putType S d o x4) fun _ d9 =>
    kb d9 (some a1) (v2 + 1))
set_option maxRecDepth 100000 in
set_option maxHeartbeats 4000000 in
theorem w_Uw_putRow_B10 {X : GX} (hE : gE X b_Uw_putRow 3 "StandInMill$UnitWriter" none "putRow" 3 66) {S : gS} {o : Nat} {r : Unit} {d' : gD} {kb : gD → Option Nat → Int32 → Option (Unit × gD)} (hkb : ∀ (d : gD) (v1 : Option Nat) (v2 : Int32), kb d v1 v2 = some (r, d') → gw X 0 0 (gQ X (none) S d' 0 0) S d 10 [some (va_rf (some o)), some (va_rf v1), some (.int v2)] []) :
    ∀ (d : gD) (v1 : Option Nat) (v2 : Int32), f_Uw_putRow_B10 S o kb d v1 v2 = some (r, d') → gw X 0 0 (gQ X (none) S d' 0 0) S d 10 [some (va_rf (some o)), some (va_rf v1), some (.int v2)] [] := by
  intro d v1 v2 h
  unfold f_Uw_putRow_B10 at h
  refine g_iload_n (i := 2) hE d_Uw_putRow_10 rfl rfl ?_
  refine g_aload_n (i := 1) hE d_Uw_putRow_11 rfl rfl ?_
  obtain ⟨a1, rfl, h⟩ := nn_s h
  obtain ⟨k2, h⟩ := kd_s h
  refine g_getIN 1 hE kc_Rw k2 (Nat.le_of_ble_eq_true rfl) rfl nf_29 d_Uw_putRow_12 (fun x3 e => ?_)
  replace h := lt_i e h; clear e
  refine g_icmp_ge hE d_Uw_putRow_15 (fun c10 => ?_) (fun c10 => ?_)
  · replace h := if_t c10 h
    cases h
    exact g_vret hE d_Uw_putRow_33 rfl rfl
  · replace h := if_f c10 h
    refine g_aload_n (i := 0) hE d_Uw_putRow_18 rfl rfl ?_
    refine g_aload_n (i := 1) hE d_Uw_putRow_19 rfl rfl ?_
    refine g_iload_n (i := 2) hE d_Uw_putRow_20 rfl rfl ?_
    obtain ⟨x4, e5, h⟩ := bd_s h
    refine g_callV (av := [.inr (.inr (some a1)), .inl v2]) (as := [.inl v2]) (stk := [.int x4, va_rf (some o)]) [va_rf (some o)] hE (c_Rw_at (xl X) (xG X) e5) ky_Rw_at ⟨Nat.le_of_ble_eq_true rfl, Nat.le_of_ble_eq_true rfl⟩ rfl kc_Rw k2 m_288 m_254 m_255 rfl d_Uw_putRow_21 rfl rfl (Nat.le_trans (ct_r ct_n) (Nat.le_of_ble_eq_true rfl)) (Nat.zero_le _) (Nat.zero_le _) ?_
    refine gw.cs (c2 := 0) (s2 := 0) rfl rfl ?_
    obtain ⟨k6, h⟩ := kd_s h
    obtain ⟨x7, d9, e8, h⟩ := bdD_s h
    refine g_callV (av := [.inr (.inr (some o)), .inl x4]) (as := [.inl x4]) (stk := []) [] hE (c_Uw_putType (xl X) (xG X) e8) ky_Uw_putType ⟨Nat.le_of_ble_eq_true rfl, Nat.le_of_ble_eq_true rfl⟩ rfl kc_Uw k6 m_285 m_286 m_287 rfl d_Uw_putRow_24 rfl rfl ct_0 (Nat.zero_le _) (Nat.zero_le _) ?_
    refine gw.cs (c2 := 0) (s2 := 0) rfl rfl ?_
    refine g_iinc (i := 2) (lv' := [some (va_rf (some o)), some (va_rf (some a1)), some (.int (v2 + 1))]) hE d_Uw_putRow_27 ki_1 rfl (Nat.le_of_ble_eq_true rfl) ⟨rfl, Nat.le_of_ble_eq_true rfl⟩ (lvp_r rfl) ?_
    refine g_goto hE d_Uw_putRow_30 ?_
    exact gw.less (lv' := [some (va_rf (some o)), some (va_rf (some a1)), some (.int (v2 + 1))]) (And.intro rfl (And.intro rfl (And.intro rfl trivial))) (hkb d9 (some a1) (v2 + 1) h)
theorem w_Uw_putRow_L10 {X : GX} (hE : gE X b_Uw_putRow 3 "StandInMill$UnitWriter" none "putRow" 3 66) {S : gS} {o : Nat} {r : Unit} {d' : gD} : ∀ (n : Nat) (d : gD) (v1 : Option Nat) (v2 : Int32), itr (f_Uw_putRow_B10 S o) (fun _ _ _ => none) n d v1 v2 = some (r, d') → gw X 0 0 (gQ X (none) S d' 0 0) S d 10 [some (va_rf (some o)), some (va_rf v1), some (.int v2)] [] := by
  intro n
  induction n with
  | zero => intro d v1 v2 h; cases h
  | succ n ih => exact w_Uw_putRow_B10 hE ih
set_option maxRecDepth 100000 in
def f_Uw_putRow (S : gS) (d : gD) (o : Nat) (v1 : Option Nat) : Option (Unit × gD) :=
  nn v1 fun a1 =>
  kd S a1 2 <|
  lt_ (dI d a1 1) fun x3 =>
  kd S o 9 <|
  bdD (f_Uw_put S d o x3) fun _ d7 =>
  itr (f_Uw_putRow_B10 S o) (fun _ _ _ => none) fu d7 (some a1) 0
set_option maxRecDepth 100000 in
set_option maxHeartbeats 4000000 in
theorem c_Uw_putRow (l : Launch) (G : gG) {S : gS} {d : gD} {o : Nat} {v1 : Option Nat} {r : Unit} {d' : gD} (h : f_Uw_putRow S d o v1 = some (r, d')) : GM l G y_Uw_putRow b_Uw_putRow 3 none 3 66 0 0 [.inr (.inr (some o)), .inr (.inr v1)] S d (none) S d' := by
  refine GM.of (by decide) (Nat.le_of_ble_eq_true rfl) ?_
  intro X hl0 hG0 hR0 hE0
  have hE : gE X b_Uw_putRow 3 "StandInMill$UnitWriter" none "putRow" 3 66 := hE0
  unfold f_Uw_putRow at h
  refine gw.less (lv' := [some (va_rf (some o)), some (va_rf v1), none]) (And.intro rfl (And.intro rfl trivial)) ?_
  refine g_aload_n (i := 0) hE d_Uw_putRow_0 rfl rfl ?_
  refine g_aload_n (i := 1) hE d_Uw_putRow_1 rfl rfl ?_
  obtain ⟨a1, rfl, h⟩ := nn_s h
  obtain ⟨k2, h⟩ := kd_s h
  refine g_getIN 1 hE kc_Rw k2 (Nat.le_of_ble_eq_true rfl) rfl nf_29 d_Uw_putRow_2 (fun x3 e => ?_)
  replace h := lt_i e h; clear e
  obtain ⟨k4, h⟩ := kd_s h
  obtain ⟨x5, d7, e6, h⟩ := bdD_s h
  refine g_callV (av := [.inr (.inr (some o)), .inl x3]) (as := [.inl x3]) (stk := []) [] hE (c_Uw_put (xl X) (xG X) e6) ky_Uw_put ⟨Nat.le_of_ble_eq_true rfl, Nat.le_of_ble_eq_true rfl⟩ rfl kc_Uw k4 m_275 m_276 m_277 rfl d_Uw_putRow_5 rfl rfl ct_0 (Nat.zero_le _) (Nat.zero_le _) ?_
  refine gw.cs (c2 := 0) (s2 := 0) rfl rfl ?_
  refine g_iconst hE d_Uw_putRow_8 ki_0 ?_
  refine g_istore_n (i := 2) (lv' := [some (va_rf (some o)), some (va_rf (some a1)), some (.int 0)]) hE d_Uw_putRow_9 rfl (Nat.le_of_ble_eq_true rfl) ⟨rfl, Nat.le_of_ble_eq_true rfl⟩ (lvp_r rfl) ?_
  exact gw.less (lv' := [some (va_rf (some o)), some (va_rf (some a1)), some (.int 0)]) (And.intro rfl (And.intro rfl (And.intro rfl trivial))) (w_Uw_putRow_L10 hE fu d7 (some a1) 0 h)
theorem d_Uw_putMethodEntry_0 : dc b_Uw_putMethodEntry 0 (.aload_n 0) 1 1 := ⟨by decide +kernel, rfl⟩
theorem d_Uw_putMethodEntry_1 : dc b_Uw_putMethodEntry 1 (.bipush 47) 2 3 := ⟨by decide +kernel, rfl⟩
theorem d_Uw_putMethodEntry_3 : dc b_Uw_putMethodEntry 3 (.aload_n 1) 1 4 := ⟨by decide +kernel, rfl⟩
theorem d_Uw_putMethodEntry_4 : dc b_Uw_putMethodEntry 4 (.getfield 147) 3 7 := ⟨by decide +kernel, rfl⟩
theorem d_Uw_putMethodEntry_7 : dc b_Uw_putMethodEntry 7 (.bipush 6) 2 9 := ⟨by decide +kernel, rfl⟩
theorem d_Uw_putMethodEntry_9 : dc b_Uw_putMethodEntry 9 (.imul) 1 10 := ⟨by decide +kernel, rfl⟩
theorem d_Uw_putMethodEntry_10 : dc b_Uw_putMethodEntry 10 (.iadd) 1 11 := ⟨by decide +kernel, rfl⟩
theorem d_Uw_putMethodEntry_11 : dc b_Uw_putMethodEntry 11 (.aload_n 1) 1 12 := ⟨by decide +kernel, rfl⟩
theorem d_Uw_putMethodEntry_12 : dc b_Uw_putMethodEntry 12 (.getfield 150) 3 15 := ⟨by decide +kernel, rfl⟩
theorem d_Uw_putMethodEntry_15 : dc b_Uw_putMethodEntry 15 (.iadd) 1 16 := ⟨by decide +kernel, rfl⟩
theorem d_Uw_putMethodEntry_16 : dc b_Uw_putMethodEntry 16 (.iconst 2) 1 17 := ⟨by decide +kernel, rfl⟩
theorem d_Uw_putMethodEntry_17 : dc b_Uw_putMethodEntry 17 (.aload_n 1) 1 18 := ⟨by decide +kernel, rfl⟩
theorem d_Uw_putMethodEntry_18 : dc b_Uw_putMethodEntry 18 (.getfield 147) 3 21 := ⟨by decide +kernel, rfl⟩
theorem d_Uw_putMethodEntry_21 : dc b_Uw_putMethodEntry 21 (.invokevirtual 85) 3 24 := ⟨by decide +kernel, rfl⟩
theorem d_Uw_putMethodEntry_24 : dc b_Uw_putMethodEntry 24 (.istore_n 2) 1 25 := ⟨by decide +kernel, rfl⟩
theorem d_Uw_putMethodEntry_25 : dc b_Uw_putMethodEntry 25 (.iload_n 2) 1 26 := ⟨by decide +kernel, rfl⟩
theorem d_Uw_putMethodEntry_26 : db b_Uw_putMethodEntry 26 (.ifCond .eq 11) 11 37 29 := ⟨by decide +kernel, by decide, rfl⟩
theorem d_Uw_putMethodEntry_29 : dc b_Uw_putMethodEntry 29 (.aload_n 0) 1 30 := ⟨by decide +kernel, rfl⟩
theorem d_Uw_putMethodEntry_30 : dc b_Uw_putMethodEntry 30 (.aload_n 1) 1 31 := ⟨by decide +kernel, rfl⟩
theorem d_Uw_putMethodEntry_31 : dc b_Uw_putMethodEntry 31 (.getfield 150) 3 34 := ⟨by decide +kernel, rfl⟩
theorem d_Uw_putMethodEntry_34 : dc b_Uw_putMethodEntry 34 (.invokevirtual 151) 3 37 := ⟨by decide +kernel, rfl⟩
theorem d_Uw_putMethodEntry_37 : dc b_Uw_putMethodEntry 37 (.return_) 1 38 := ⟨by decide +kernel, rfl⟩
set_option maxRecDepth 100000 in
def f_Uw_putMethodEntry (S : gS) (d : gD) (o : Nat) (v1 : Option Nat) : Option (Unit × gD) :=
  nn v1 fun a1 =>
  kd S a1 5 <|
  lt_ (dI d a1 0) fun x3 =>
  lt_ (dI d a1 1) fun x4 =>
  lt_ (dI d a1 0) fun x5 =>
  kd S o 9 <|
  bdD (f_Uw_putEntry S d o ((47 + (x3 * 6)) + x4) 2 x5) fun x7 d9 =>
  if x7 = 0 then (
    some ((), d9))
  else (
    lt_ (dI d9 a1 1) fun x10 =>
    bdD (f_Uw_putInPool S d9 o x10) fun _ d13 =>
    some ((), d13))
set_option maxRecDepth 100000 in
set_option maxHeartbeats 4000000 in
theorem c_Uw_putMethodEntry (l : Launch) (G : gG) {S : gS} {d : gD} {o : Nat} {v1 : Option Nat} {r : Unit} {d' : gD} (h : f_Uw_putMethodEntry S d o v1 = some (r, d')) : GM l G y_Uw_putMethodEntry b_Uw_putMethodEntry 3 none 2 45 0 0 [.inr (.inr (some o)), .inr (.inr v1)] S d (none) S d' := by
  refine GM.of (by decide) (Nat.le_of_ble_eq_true rfl) ?_
  intro X hl0 hG0 hR0 hE0
  have hE : gE X b_Uw_putMethodEntry 3 "StandInMill$UnitWriter" none "putMethodEntry" 2 45 := hE0
  unfold f_Uw_putMethodEntry at h
  refine gw.less (lv' := [some (va_rf (some o)), some (va_rf v1), none]) (And.intro rfl (And.intro rfl trivial)) ?_
  refine g_aload_n (i := 0) hE d_Uw_putMethodEntry_0 rfl rfl ?_
  refine g_bipush hE d_Uw_putMethodEntry_1 kb_47 ?_
  refine g_aload_n (i := 1) hE d_Uw_putMethodEntry_3 rfl rfl ?_
  obtain ⟨a1, rfl, h⟩ := nn_s h
  obtain ⟨k2, h⟩ := kd_s h
  refine g_getIN 0 hE kc_Om k2 (Nat.le_of_ble_eq_true rfl) rfl nf_30 d_Uw_putMethodEntry_4 (fun x3 e => ?_)
  replace h := lt_i e h; clear e
  refine g_bipush hE d_Uw_putMethodEntry_7 kb_6 ?_
  refine g_imul hE d_Uw_putMethodEntry_9 ?_
  refine g_iadd hE d_Uw_putMethodEntry_10 ?_
  refine g_aload_n (i := 1) hE d_Uw_putMethodEntry_11 rfl rfl ?_
  refine g_getIN 1 hE kc_Om k2 (Nat.le_of_ble_eq_true rfl) rfl nf_31 d_Uw_putMethodEntry_12 (fun x4 e => ?_)
  replace h := lt_i e h; clear e
  refine g_iadd hE d_Uw_putMethodEntry_15 ?_
  refine g_iconst hE d_Uw_putMethodEntry_16 ki_2 ?_
  refine g_aload_n (i := 1) hE d_Uw_putMethodEntry_17 rfl rfl ?_
  refine g_getIN 0 hE kc_Om k2 (Nat.le_of_ble_eq_true rfl) rfl nf_30 d_Uw_putMethodEntry_18 (fun x5 e => ?_)
  replace h := lt_i e h; clear e
  obtain ⟨k6, h⟩ := kd_s h
  obtain ⟨x7, d9, e8, h⟩ := bdD_s h
  refine g_callV (av := [.inr (.inr (some o)), .inl ((47 + (x3 * 6)) + x4), .inl 2, .inl x5]) (as := [.inl ((47 + (x3 * 6)) + x4), .inl 2, .inl x5]) (stk := [.int x7]) [] hE (c_Uw_putEntry (xl X) (xG X) e8) ky_Uw_putEntry ⟨Nat.le_of_ble_eq_true rfl, Nat.le_of_ble_eq_true rfl⟩ rfl kc_Uw k6 m_282 m_283 m_284 rfl d_Uw_putMethodEntry_21 rfl rfl ct_0 (Nat.zero_le _) (Nat.zero_le _) ?_
  refine gw.cs (c2 := 0) (s2 := 0) rfl rfl ?_
  refine g_istore_n (i := 2) (lv' := [some (va_rf (some o)), some (va_rf (some a1)), some (.int x7)]) hE d_Uw_putMethodEntry_24 rfl (Nat.le_of_ble_eq_true rfl) ⟨rfl, Nat.le_of_ble_eq_true rfl⟩ (lvp_r rfl) ?_
  refine g_iload_n (i := 2) hE d_Uw_putMethodEntry_25 rfl rfl ?_
  refine g_if_eq hE d_Uw_putMethodEntry_26 (fun c14 => ?_) (fun c14 => ?_)
  · replace h := if_t c14 h
    cases h
    exact g_vret hE d_Uw_putMethodEntry_37 rfl rfl
  · replace h := if_f c14 h
    refine g_aload_n (i := 0) hE d_Uw_putMethodEntry_29 rfl rfl ?_
    refine g_aload_n (i := 1) hE d_Uw_putMethodEntry_30 rfl rfl ?_
    refine g_getIN 1 hE kc_Om k2 (Nat.le_of_ble_eq_true rfl) rfl nf_31 d_Uw_putMethodEntry_31 (fun x10 e => ?_)
    replace h := lt_i e h; clear e
    obtain ⟨x11, d13, e12, h⟩ := bdD_s h
    refine g_callV (av := [.inr (.inr (some o)), .inl x10]) (as := [.inl x10]) (stk := []) [] hE (c_Uw_putInPool (xl X) (xG X) e12) ky_Uw_putInPool ⟨Nat.le_of_ble_eq_true rfl, Nat.le_of_ble_eq_true rfl⟩ rfl kc_Uw k6 m_279 m_280 m_281 rfl d_Uw_putMethodEntry_34 rfl rfl ct_0 (Nat.zero_le _) (Nat.zero_le _) ?_
    refine gw.cs (c2 := 0) (s2 := 0) rfl rfl ?_
    cases h
    exact g_vret hE d_Uw_putMethodEntry_37 rfl rfl
theorem d_Om_parameterCount_0 : dc b_Om_parameterCount 0 (.aload_n 0) 1 1 := ⟨by decide +kernel, rfl⟩
theorem d_Om_parameterCount_1 : dc b_Om_parameterCount 1 (.getfield 30) 3 4 := ⟨by decide +kernel, rfl⟩
theorem d_Om_parameterCount_4 : dc b_Om_parameterCount 4 (.invokestatic 36) 3 7 := ⟨by decide +kernel, rfl⟩
theorem d_Om_parameterCount_7 : dc b_Om_parameterCount 7 (.ireturn) 1 8 := ⟨by decide +kernel, rfl⟩
set_option maxRecDepth 100000 in
def f_Om_parameterCount (S : gS) (d : gD) (o : Nat) : Option (Int32) :=
  kd S o 5 <|
  lt_ (dI d o 3) fun x2 =>
  bd (f_M_lengthOf S d x2) fun x3 =>
  some x3
set_option maxRecDepth 100000 in
set_option maxHeartbeats 4000000 in
theorem c_Om_parameterCount (l : Launch) (G : gG) {S : gS} {d : gD} {o : Nat} {r : Int32} (h : f_Om_parameterCount S d o = some r) : GM l G y_Om_parameterCount b_Om_parameterCount 1 (some (.int)) 2 42 0 0 [.inr (.inr (some o))] S d (some (.int r)) S d := by
  refine GM.of (by decide) (Nat.le_of_ble_eq_true rfl) ?_
  intro X hl0 hG0 hR0 hE0
  have hE : gE X b_Om_parameterCount 1 "StandInMill$OwnMethod" (some (.int)) "parameterCount" 2 42 := hE0
  unfold f_Om_parameterCount at h
  refine gw.less (lv' := [some (va_rf (some o))]) (And.intro rfl trivial) ?_
  refine g_aload_n (i := 0) hE d_Om_parameterCount_0 rfl rfl ?_
  obtain ⟨k1, h⟩ := kd_s h
  refine g_getI 3 hE kc_Om k1 (Nat.le_of_ble_eq_true rfl) rfl m_33 d_Om_parameterCount_1 (fun x2 e => ?_)
  replace h := lt_i e h; clear e
  obtain ⟨x3, e4, h⟩ := bd_s h
  refine g_callSN (av := [.inl x2]) (stk := [.int x3]) [] hE (c_M_lengthOf (xl X) (xG X) e4) ky_M_lengthOf ⟨Nat.le_of_ble_eq_true rfl, Nat.le_of_ble_eq_true rfl⟩ nm_8 m_135 rfl d_Om_parameterCount_4 rfl rfl ct_0 (Nat.zero_le _) (Nat.zero_le _) ?_
  refine gw.cs (c2 := 0) (s2 := 0) rfl rfl ?_
  cases h
  exact g_iret hE d_Om_parameterCount_7 rfl rfl
