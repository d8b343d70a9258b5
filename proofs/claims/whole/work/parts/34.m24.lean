theorem d_R_add_0 : dc b_R_add 0 (.aload_n 0) 1 1 := ⟨by decide +kernel, rfl⟩
theorem d_R_add_1 : dc b_R_add 1 (.getfield 109) 3 4 := ⟨by decide +kernel, rfl⟩
theorem d_R_add_4 : dc b_R_add 4 (.aload_n 0) 1 5 := ⟨by decide +kernel, rfl⟩
theorem d_R_add_5 : dc b_R_add 5 (.getfield 106) 3 8 := ⟨by decide +kernel, rfl⟩
theorem d_R_add_8 : dc b_R_add 8 (.iload_n 1) 1 9 := ⟨by decide +kernel, rfl⟩
theorem d_R_add_9 : dc b_R_add 9 (.iastore) 1 10 := ⟨by decide +kernel, rfl⟩
theorem d_R_add_10 : dc b_R_add 10 (.aload_n 0) 1 11 := ⟨by decide +kernel, rfl⟩
theorem d_R_add_11 : dc b_R_add 11 (.getfield 115) 3 14 := ⟨by decide +kernel, rfl⟩
theorem d_R_add_14 : dc b_R_add 14 (.aload_n 0) 1 15 := ⟨by decide +kernel, rfl⟩
theorem d_R_add_15 : dc b_R_add 15 (.getfield 106) 3 18 := ⟨by decide +kernel, rfl⟩
theorem d_R_add_18 : dc b_R_add 18 (.aload_n 0) 1 19 := ⟨by decide +kernel, rfl⟩
theorem d_R_add_19 : dc b_R_add 19 (.getfield 60) 3 22 := ⟨by decide +kernel, rfl⟩
theorem d_R_add_22 : dc b_R_add 22 (.iload_n 1) 1 23 := ⟨by decide +kernel, rfl⟩
theorem d_R_add_23 : dc b_R_add 23 (.iaload) 1 24 := ⟨by decide +kernel, rfl⟩
theorem d_R_add_24 : dc b_R_add 24 (.iastore) 1 25 := ⟨by decide +kernel, rfl⟩
theorem d_R_add_25 : dc b_R_add 25 (.iconst 0) 1 26 := ⟨by decide +kernel, rfl⟩
theorem d_R_add_26 : dc b_R_add 26 (.istore_n 2) 1 27 := ⟨by decide +kernel, rfl⟩
theorem d_R_add_27 : dc b_R_add 27 (.iload_n 2) 1 28 := ⟨by decide +kernel, rfl⟩
theorem d_R_add_28 : dc b_R_add 28 (.aload_n 0) 1 29 := ⟨by decide +kernel, rfl⟩
theorem d_R_add_29 : dc b_R_add 29 (.getfield 60) 3 32 := ⟨by decide +kernel, rfl⟩
theorem d_R_add_32 : dc b_R_add 32 (.iload_n 1) 1 33 := ⟨by decide +kernel, rfl⟩
theorem d_R_add_33 : dc b_R_add 33 (.iaload) 1 34 := ⟨by decide +kernel, rfl⟩
theorem d_R_add_34 : db b_R_add 34 (.if_icmp .ge 33) 33 67 37 := ⟨by decide +kernel, by decide, rfl⟩
theorem d_R_add_37 : dc b_R_add 37 (.aload_n 0) 1 38 := ⟨by decide +kernel, rfl⟩
theorem d_R_add_38 : dc b_R_add 38 (.getfield 112) 3 41 := ⟨by decide +kernel, rfl⟩
theorem d_R_add_41 : dc b_R_add 41 (.bipush 16) 2 43 := ⟨by decide +kernel, rfl⟩
theorem d_R_add_43 : dc b_R_add 43 (.aload_n 0) 1 44 := ⟨by decide +kernel, rfl⟩
theorem d_R_add_44 : dc b_R_add 44 (.getfield 106) 3 47 := ⟨by decide +kernel, rfl⟩
theorem d_R_add_47 : dc b_R_add 47 (.imul) 1 48 := ⟨by decide +kernel, rfl⟩
theorem d_R_add_48 : dc b_R_add 48 (.iload_n 2) 1 49 := ⟨by decide +kernel, rfl⟩
theorem d_R_add_49 : dc b_R_add 49 (.iadd) 1 50 := ⟨by decide +kernel, rfl⟩
theorem d_R_add_50 : dc b_R_add 50 (.aload_n 0) 1 51 := ⟨by decide +kernel, rfl⟩
theorem d_R_add_51 : dc b_R_add 51 (.getfield 63) 3 54 := ⟨by decide +kernel, rfl⟩
theorem d_R_add_54 : dc b_R_add 54 (.iconst 3) 1 55 := ⟨by decide +kernel, rfl⟩
theorem d_R_add_55 : dc b_R_add 55 (.iload_n 1) 1 56 := ⟨by decide +kernel, rfl⟩
theorem d_R_add_56 : dc b_R_add 56 (.imul) 1 57 := ⟨by decide +kernel, rfl⟩
theorem d_R_add_57 : dc b_R_add 57 (.iload_n 2) 1 58 := ⟨by decide +kernel, rfl⟩
theorem d_R_add_58 : dc b_R_add 58 (.iadd) 1 59 := ⟨by decide +kernel, rfl⟩
theorem d_R_add_59 : dc b_R_add 59 (.iaload) 1 60 := ⟨by decide +kernel, rfl⟩
theorem d_R_add_60 : dc b_R_add 60 (.iastore) 1 61 := ⟨by decide +kernel, rfl⟩
theorem d_R_add_61 : dc b_R_add 61 (.iinc 2 1) 3 64 := ⟨by decide +kernel, rfl⟩
theorem d_R_add_64 : db b_R_add 64 (.goto (-37)) (-37) 27 67 := ⟨by decide +kernel, by decide, rfl⟩
theorem d_R_add_67 : dc b_R_add 67 (.aload_n 0) 1 68 := ⟨by decide +kernel, rfl⟩
theorem d_R_add_68 : dc b_R_add 68 (.dup) 1 69 := ⟨by decide +kernel, rfl⟩
theorem d_R_add_69 : dc b_R_add 69 (.getfield 106) 3 72 := ⟨by decide +kernel, rfl⟩
theorem d_R_add_72 : dc b_R_add 72 (.iconst 1) 1 73 := ⟨by decide +kernel, rfl⟩
theorem d_R_add_73 : dc b_R_add 73 (.iadd) 1 74 := ⟨by decide +kernel, rfl⟩
theorem d_R_add_74 : dc b_R_add 74 (.putfield 106) 3 77 := ⟨by decide +kernel, rfl⟩
theorem d_R_add_77 : dc b_R_add 77 (.return_) 1 78 := ⟨by decide +kernel, rfl⟩
def f_R_add_B27 (S : gS) (o : Nat) (kx67 : gD → Option (Unit × gD)) (kb : gD → Int32 → Int32 → Option (Unit × gD)) (d : gD) (v1 : Int32) (v2 : Int32) : Option (Unit × gD) :=
  kd S o 10 <|
  lt_ (sP S o 16) fun x2 =>
  nn x2 fun a3 =>
  kd S a3 50 <|
  gi v1 (sN S a3) <|
  lt_ (dI d a3 v1.toNatClampNeg) fun x6 =>
  if x6 ≤ v2 then (
    kx67 d)
  else (
    lt_ (sP S o 33) fun x7 =>
    lt_ (dI d o 31) fun x8 =>
    lt_ (sP S o 17) fun x9 =>
    nn x9 fun a10 =>
    kd S a10 50 <|
    gi ((3 * v1) + v2) (sN S a10) <|
    lt_ (dI d a10 ((3 * v1) + v2 : Int32).toNatClampNeg) fun x13 =>
    nn x7 fun a14 =>
    kd S a14 50 <|
    gi ((16 * x8) + v2) (sN S a14) <|
    lt_ (wI d a14 ((16 * x8) + v2 : Int32).toNatClampNeg x13) fun d17 =>
    kb d17 v1 (v2 + 1))
set_option maxRecDepth 100000 in
set_option maxHeartbeats 4000000 in
theorem w_R_add_B27 {X : GX} (hE : gE X b_R_add 3 "StandInMillModel" none "add" 0 0) {S : gS} {o : Nat} {r : Unit} {d' : gD} {kb : gD → Int32 → Int32 → Option (Unit × gD)} {kx67 : gD → Option (Unit × gD)} (hkb : ∀ (d : gD) (v1 : Int32) (v2 : Int32), kb d v1 v2 = some (r, d') → gw X 0 0 (gQ X (none) S d' 0 0) S d 27 [some (va_rf (some o)), some (.int v1), some (.int v2)] []) (hkx67 : ∀ (d : gD), kx67 d = some (r, d') → gw X 0 0 (gQ X (none) S d' 0 0) S d 67 [some (va_rf (some o)), none, none] []) :
    ∀ (d : gD) (v1 : Int32) (v2 : Int32), f_R_add_B27 S o kx67 kb d v1 v2 = some (r, d') → gw X 0 0 (gQ X (none) S d' 0 0) S d 27 [some (va_rf (some o)), some (.int v1), some (.int v2)] [] := by
  intro d v1 v2 h
  unfold f_R_add_B27 at h
  refine g_iload_n (i := 2) hE d_R_add_27 rfl rfl ?_
  refine g_aload_n (i := 0) hE d_R_add_28 rfl rfl ?_
  obtain ⟨k1, h⟩ := kd_s h
  refine g_getR 16 hE kc_R k1 (Nat.le_of_ble_eq_true rfl) rfl m_393 d_R_add_29 (fun x2 e => ?_)
  replace h := lt_i e h; clear e
  refine g_iload_n (i := 1) hE d_R_add_32 rfl rfl ?_
  obtain ⟨a3, rfl, h⟩ := nn_s h
  obtain ⟨k4, h⟩ := kd_s h
  obtain ⟨g5, h⟩ := gi_s h
  refine g_iald hE k4 g5 d_R_add_33 (fun x6 e => ?_)
  replace h := lt_i e h; clear e
  refine g_icmp_ge hE d_R_add_34 (fun c18 => ?_) (fun c18 => ?_)
  · replace h := if_t c18 h
    exact gw.less (lv' := [some (va_rf (some o)), none, none]) (And.intro rfl trivial) (hkx67 d h)
  · replace h := if_f c18 h
    refine g_aload_n (i := 0) hE d_R_add_37 rfl rfl ?_
    refine g_getR 33 hE kc_R k1 (Nat.le_of_ble_eq_true rfl) rfl m_410 d_R_add_38 (fun x7 e => ?_)
    replace h := lt_i e h; clear e
    refine g_bipush hE d_R_add_41 kb_16 ?_
    refine g_aload_n (i := 0) hE d_R_add_43 rfl rfl ?_
    refine g_getI 31 hE kc_R k1 (Nat.le_of_ble_eq_true rfl) rfl m_408 d_R_add_44 (fun x8 e => ?_)
    replace h := lt_i e h; clear e
    refine g_imul hE d_R_add_47 ?_
    refine g_iload_n (i := 2) hE d_R_add_48 rfl rfl ?_
    refine g_iadd hE d_R_add_49 ?_
    refine g_aload_n (i := 0) hE d_R_add_50 rfl rfl ?_
    refine g_getR 17 hE kc_R k1 (Nat.le_of_ble_eq_true rfl) rfl m_394 d_R_add_51 (fun x9 e => ?_)
    replace h := lt_i e h; clear e
    refine g_iconst hE d_R_add_54 ki_3 ?_
    refine g_iload_n (i := 1) hE d_R_add_55 rfl rfl ?_
    refine g_imul hE d_R_add_56 ?_
    refine g_iload_n (i := 2) hE d_R_add_57 rfl rfl ?_
    refine g_iadd hE d_R_add_58 ?_
    obtain ⟨a10, rfl, h⟩ := nn_s h
    obtain ⟨k11, h⟩ := kd_s h
    obtain ⟨g12, h⟩ := gi_s h
    refine g_iald hE k11 g12 d_R_add_59 (fun x13 e => ?_)
    replace h := lt_i e h; clear e
    obtain ⟨a14, rfl, h⟩ := nn_s h
    obtain ⟨k15, h⟩ := kd_s h
    obtain ⟨g16, h⟩ := gi_s h
    refine g_iast hE k15 g16 d_R_add_60 (fun d17 e => ?_)
    replace h := lt_i e h; clear e
    refine g_iinc (i := 2) (lv' := [some (va_rf (some o)), some (.int v1), some (.int (v2 + 1))]) hE d_R_add_61 ki_1 rfl (Nat.le_of_ble_eq_true rfl) ⟨rfl, Nat.le_of_ble_eq_true rfl⟩ (lvp_i rfl) ?_
    refine g_goto hE d_R_add_64 ?_
    exact gw.less (lv' := [some (va_rf (some o)), some (.int v1), some (.int (v2 + 1))]) (And.intro rfl (And.intro rfl (And.intro rfl trivial))) (hkb d17 v1 (v2 + 1) h)
theorem w_R_add_L27 {X : GX} (hE : gE X b_R_add 3 "StandInMillModel" none "add" 0 0) {S : gS} {o : Nat} {r : Unit} {d' : gD} {kx67 : gD → Option (Unit × gD)} (hkx67 : ∀ (d : gD), kx67 d = some (r, d') → gw X 0 0 (gQ X (none) S d' 0 0) S d 67 [some (va_rf (some o)), none, none] []) : ∀ (n : Nat) (d : gD) (v1 : Int32) (v2 : Int32), itr (f_R_add_B27 S o kx67) (fun _ _ _ => none) n d v1 v2 = some (r, d') → gw X 0 0 (gQ X (none) S d' 0 0) S d 27 [some (va_rf (some o)), some (.int v1), some (.int v2)] [] := by
  intro n
  induction n with
  | zero => intro d v1 v2 h; cases h
  | succ n ih => exact w_R_add_B27 hE ih hkx67
def f_R_add_J67 (S : gS) (o : Nat) (d : gD) : Option (Unit × gD) :=
  kd S o 10 <|
  lt_ (dI d o 31) fun x2 =>
  lt_ (wI d o 31 (x2 + 1)) fun d3 =>
  some ((), d3)
set_option maxRecDepth 100000 in
set_option maxHeartbeats 4000000 in
theorem w_R_add_J67 {X : GX} (hE : gE X b_R_add 3 "StandInMillModel" none "add" 0 0) {S : gS} {o : Nat} {r : Unit} {d' : gD} :
    ∀ (d : gD), f_R_add_J67 S o d = some (r, d') → gw X 0 0 (gQ X (none) S d' 0 0) S d 67 [some (va_rf (some o)), none, none] [] := by
  intro d h
  unfold f_R_add_J67 at h
  refine g_aload_n (i := 0) hE d_R_add_67 rfl rfl ?_
  refine g_dupr hE d_R_add_68 ?_
  obtain ⟨k1, h⟩ := kd_s h
  refine g_getI 31 hE kc_R k1 (Nat.le_of_ble_eq_true rfl) rfl m_408 d_R_add_69 (fun x2 e => ?_)
  replace h := lt_i e h; clear e
  refine g_iconst hE d_R_add_72 ki_1 ?_
  refine g_iadd hE d_R_add_73 ?_
  refine g_putI 31 hE kc_R k1 (Nat.le_of_ble_eq_true rfl) rfl m_408 rfl (by decide +kernel) d_R_add_74 (fun d3 e => ?_)
  replace h := lt_i e h; clear e
  cases h
  exact g_vret hE d_R_add_77 rfl rfl
set_option maxRecDepth 100000 in
def f_R_add (S : gS) (d : gD) (o : Nat) (v1 : Int32) : Option (Unit × gD) :=
  kd S o 10 <|
  lt_ (sP S o 32) fun x2 =>
  lt_ (dI d o 31) fun x3 =>
  nn x2 fun a4 =>
  kd S a4 50 <|
  gi x3 (sN S a4) <|
  lt_ (wI d a4 x3.toNatClampNeg v1) fun d7 =>
  lt_ (sP S o 34) fun x8 =>
  lt_ (dI d7 o 31) fun x9 =>
  lt_ (sP S o 16) fun x10 =>
  nn x10 fun a11 =>
  kd S a11 50 <|
  gi v1 (sN S a11) <|
  lt_ (dI d7 a11 v1.toNatClampNeg) fun x14 =>
  nn x8 fun a15 =>
  kd S a15 50 <|
  gi x9 (sN S a15) <|
  lt_ (wI d7 a15 x9.toNatClampNeg x14) fun d18 =>
  itr (f_R_add_B27 S o (f_R_add_J67 S o)) (fun _ _ _ => none) fu d18 v1 0
set_option maxRecDepth 100000 in
set_option maxHeartbeats 4000000 in
theorem c_R_add (l : Launch) (G : gG) {S : gS} {d : gD} {o : Nat} {v1 : Int32} {r : Unit} {d' : gD} (h : f_R_add S d o v1 = some (r, d')) : GM l G y_R_add b_R_add 3 none 0 0 0 0 [.inr (.inr (some o)), .inl v1] S d (none) S d' := by
  refine GM.of (by decide) (Nat.le_of_ble_eq_true rfl) ?_
  intro X hl0 hG0 hR0 hE0
  have hE : gE X b_R_add 3 "StandInMillModel" none "add" 0 0 := hE0
  unfold f_R_add at h
  refine gw.less (lv' := [some (va_rf (some o)), some (.int v1), none]) (And.intro rfl (And.intro rfl trivial)) ?_
  refine g_aload_n (i := 0) hE d_R_add_0 rfl rfl ?_
  obtain ⟨k1, h⟩ := kd_s h
  refine g_getR 32 hE kc_R k1 (Nat.le_of_ble_eq_true rfl) rfl m_409 d_R_add_1 (fun x2 e => ?_)
  replace h := lt_i e h; clear e
  refine g_aload_n (i := 0) hE d_R_add_4 rfl rfl ?_
  refine g_getI 31 hE kc_R k1 (Nat.le_of_ble_eq_true rfl) rfl m_408 d_R_add_5 (fun x3 e => ?_)
  replace h := lt_i e h; clear e
  refine g_iload_n (i := 1) hE d_R_add_8 rfl rfl ?_
  obtain ⟨a4, rfl, h⟩ := nn_s h
  obtain ⟨k5, h⟩ := kd_s h
  obtain ⟨g6, h⟩ := gi_s h
  refine g_iast hE k5 g6 d_R_add_9 (fun d7 e => ?_)
  replace h := lt_i e h; clear e
  refine g_aload_n (i := 0) hE d_R_add_10 rfl rfl ?_
  refine g_getR 34 hE kc_R k1 (Nat.le_of_ble_eq_true rfl) rfl m_411 d_R_add_11 (fun x8 e => ?_)
  replace h := lt_i e h; clear e
  refine g_aload_n (i := 0) hE d_R_add_14 rfl rfl ?_
  refine g_getI 31 hE kc_R k1 (Nat.le_of_ble_eq_true rfl) rfl m_408 d_R_add_15 (fun x9 e => ?_)
  replace h := lt_i e h; clear e
  refine g_aload_n (i := 0) hE d_R_add_18 rfl rfl ?_
  refine g_getR 16 hE kc_R k1 (Nat.le_of_ble_eq_true rfl) rfl m_393 d_R_add_19 (fun x10 e => ?_)
  replace h := lt_i e h; clear e
  refine g_iload_n (i := 1) hE d_R_add_22 rfl rfl ?_
  obtain ⟨a11, rfl, h⟩ := nn_s h
  obtain ⟨k12, h⟩ := kd_s h
  obtain ⟨g13, h⟩ := gi_s h
  refine g_iald hE k12 g13 d_R_add_23 (fun x14 e => ?_)
  replace h := lt_i e h; clear e
  obtain ⟨a15, rfl, h⟩ := nn_s h
  obtain ⟨k16, h⟩ := kd_s h
  obtain ⟨g17, h⟩ := gi_s h
  refine g_iast hE k16 g17 d_R_add_24 (fun d18 e => ?_)
  replace h := lt_i e h; clear e
  refine g_iconst hE d_R_add_25 ki_0 ?_
  refine g_istore_n (i := 2) (lv' := [some (va_rf (some o)), some (.int v1), some (.int 0)]) hE d_R_add_26 rfl (Nat.le_of_ble_eq_true rfl) ⟨rfl, Nat.le_of_ble_eq_true rfl⟩ (lvp_i rfl) ?_
  exact gw.less (lv' := [some (va_rf (some o)), some (.int v1), some (.int 0)]) (And.intro rfl (And.intro rfl (And.intro rfl trivial))) (w_R_add_L27 hE (w_R_add_J67 hE) fu d18 v1 0 h)
theorem d_R_belowOneOf_0 : dc b_R_belowOneOf 0 (.iconst 0) 1 1 := ⟨by decide +kernel, rfl⟩
theorem d_R_belowOneOf_1 : dc b_R_belowOneOf 1 (.istore_n 3) 1 2 := ⟨by decide +kernel, rfl⟩
theorem d_R_belowOneOf_2 : dc b_R_belowOneOf 2 (.iload_n 3) 1 3 := ⟨by decide +kernel, rfl⟩
theorem d_R_belowOneOf_3 : dc b_R_belowOneOf 3 (.aload_n 0) 1 4 := ⟨by decide +kernel, rfl⟩
theorem d_R_belowOneOf_4 : dc b_R_belowOneOf 4 (.getfield 60) 3 7 := ⟨by decide +kernel, rfl⟩
theorem d_R_belowOneOf_7 : dc b_R_belowOneOf 7 (.iload_n 2) 1 8 := ⟨by decide +kernel, rfl⟩
theorem d_R_belowOneOf_8 : dc b_R_belowOneOf 8 (.iaload) 1 9 := ⟨by decide +kernel, rfl⟩
theorem d_R_belowOneOf_9 : db b_R_belowOneOf 9 (.if_icmp .ge 29) 29 38 12 := ⟨by decide +kernel, by decide, rfl⟩
theorem d_R_belowOneOf_12 : dc b_R_belowOneOf 12 (.aload_n 0) 1 13 := ⟨by decide +kernel, rfl⟩
theorem d_R_belowOneOf_13 : dc b_R_belowOneOf 13 (.iload_n 1) 1 14 := ⟨by decide +kernel, rfl⟩
theorem d_R_belowOneOf_14 : dc b_R_belowOneOf 14 (.aload_n 0) 1 15 := ⟨by decide +kernel, rfl⟩
theorem d_R_belowOneOf_15 : dc b_R_belowOneOf 15 (.getfield 63) 3 18 := ⟨by decide +kernel, rfl⟩
theorem d_R_belowOneOf_18 : dc b_R_belowOneOf 18 (.iconst 3) 1 19 := ⟨by decide +kernel, rfl⟩
theorem d_R_belowOneOf_19 : dc b_R_belowOneOf 19 (.iload_n 2) 1 20 := ⟨by decide +kernel, rfl⟩
theorem d_R_belowOneOf_20 : dc b_R_belowOneOf 20 (.imul) 1 21 := ⟨by decide +kernel, rfl⟩
theorem d_R_belowOneOf_21 : dc b_R_belowOneOf 21 (.iload_n 3) 1 22 := ⟨by decide +kernel, rfl⟩
theorem d_R_belowOneOf_22 : dc b_R_belowOneOf 22 (.iadd) 1 23 := ⟨by decide +kernel, rfl⟩
theorem d_R_belowOneOf_23 : dc b_R_belowOneOf 23 (.iaload) 1 24 := ⟨by decide +kernel, rfl⟩
theorem d_R_belowOneOf_24 : dc b_R_belowOneOf 24 (.invokevirtual 184) 3 27 := ⟨by decide +kernel, rfl⟩
theorem d_R_belowOneOf_27 : db b_R_belowOneOf 27 (.ifCond .eq 5) 5 32 30 := ⟨by decide +kernel, by decide, rfl⟩
theorem d_R_belowOneOf_30 : dc b_R_belowOneOf 30 (.iconst 1) 1 31 := ⟨by decide +kernel, rfl⟩
theorem d_R_belowOneOf_31 : dc b_R_belowOneOf 31 (.ireturn) 1 32 := ⟨by decide +kernel, rfl⟩
theorem d_R_belowOneOf_32 : dc b_R_belowOneOf 32 (.iinc 3 1) 3 35 := ⟨by decide +kernel, rfl⟩
theorem d_R_belowOneOf_35 : db b_R_belowOneOf 35 (.goto (-33)) (-33) 2 38 := ⟨by decide +kernel, by decide, rfl⟩
theorem d_R_belowOneOf_38 : dc b_R_belowOneOf 38 (.iconst 0) 1 39 := ⟨by decide +kernel, rfl⟩
theorem d_R_belowOneOf_39 : dc b_R_belowOneOf 39 (.ireturn) 1 40 := ⟨by decide +kernel, rfl⟩
def f_R_belowOneOf_B2 (S : gS) (d : gD) (o : Nat) (kb : Int32 → Int32 → Int32 → Option (Int32)) (v1 : Int32) (v2 : Int32) (v3 : Int32) : Option (Int32) :=
  kd S o 10 <|
  lt_ (sP S o 16) fun x2 =>
  nn x2 fun a3 =>
  kd S a3 50 <|
  gi v2 (sN S a3) <|
  lt_ (dI d a3 v2.toNatClampNeg) fun x6 =>
  if x6 ≤ v3 then (
    some 0)
  else (
    lt_ (sP S o 17) fun x7 =>
    nn x7 fun a8 =>
    kd S a8 50 <|
    gi ((3 * v2) + v3) (sN S a8) <|
    lt_ (dI d a8 ((3 * v2) + v3 : Int32).toNatClampNeg) fun x11 =>
    bd (f_R_isBelow S d o v1 x11) fun x12 =>
    if x12 = 0 then (
      kb v1 v2 (v3 + 1))
    else (
      some 1))
set_option maxRecDepth 100000 in
set_option maxHeartbeats 4000000 in
theorem w_R_belowOneOf_B2 {X : GX} (hE : gE X b_R_belowOneOf 4 "StandInMillModel" (some (.boolean)) "belowOneOf" 3 67) {S : gS} {d : gD} {o : Nat} {r : Int32} {kb : Int32 → Int32 → Int32 → Option (Int32)} (hkb : ∀ (v1 : Int32) (v2 : Int32) (v3 : Int32), kb v1 v2 v3 = some r → gw X 0 0 (gQ X (some (.int r)) S d 0 0) S d 2 [some (va_rf (some o)), some (.int v1), some (.int v2), some (.int v3)] []) :
    ∀ (v1 : Int32) (v2 : Int32) (v3 : Int32), f_R_belowOneOf_B2 S d o kb v1 v2 v3 = some r → gw X 0 0 (gQ X (some (.int r)) S d 0 0) S d 2 [some (va_rf (some o)), some (.int v1), some (.int v2), some (.int v3)] [] := by
  intro v1 v2 v3 h
  unfold f_R_belowOneOf_B2 at h
  refine g_iload_n (i := 3) hE d_R_belowOneOf_2 rfl rfl ?_
  refine g_aload_n (i := 0) hE d_R_belowOneOf_3 rfl rfl ?_
  obtain ⟨k1, h⟩ := kd_s h
  refine g_getR 16 hE kc_R k1 (Nat.le_of_ble_eq_true rfl) rfl m_393 d_R_belowOneOf_4 (fun x2 e => ?_)
  replace h := lt_i e h; clear e
  refine g_iload_n (i := 2) hE d_R_belowOneOf_7 rfl rfl ?_
  obtain ⟨a3, rfl, h⟩ := nn_s h
  obtain ⟨k4, h⟩ := kd_s h
  obtain ⟨g5, h⟩ := gi_s h
  refine g_iald hE k4 g5 d_R_belowOneOf_8 (fun x6 e => ?_)
  replace h := lt_i e h; clear e
  refine g_icmp_ge hE d_R_belowOneOf_9 (fun c15 => ?_) (fun c15 => ?_)
  · replace h := if_t c15 h
    refine g_iconst hE d_R_belowOneOf_38 ki_0 ?_
    cases h
    exact g_zret hE (Or.inl rfl) d_R_belowOneOf_39 rfl rfl
  · replace h := if_f c15 h
    refine g_aload_n (i := 0) hE d_R_belowOneOf_12 rfl rfl ?_
    refine g_iload_n (i := 1) hE d_R_belowOneOf_13 rfl rfl ?_
    refine g_aload_n (i := 0) hE d_R_belowOneOf_14 rfl rfl ?_
    refine g_getR 17 hE kc_R k1 (Nat.le_of_ble_eq_true rfl) rfl m_394 d_R_belowOneOf_15 (fun x7 e => ?_)
    replace h := lt_i e h; clear e
    refine g_iconst hE d_R_belowOneOf_18 ki_3 ?_
    refine g_iload_n (i := 2) hE d_R_belowOneOf_19 rfl rfl ?_
    refine g_imul hE d_R_belowOneOf_20 ?_
    refine g_iload_n (i := 3) hE d_R_belowOneOf_21 rfl rfl ?_
    refine g_iadd hE d_R_belowOneOf_22 ?_
    obtain ⟨a8, rfl, h⟩ := nn_s h
    obtain ⟨k9, h⟩ := kd_s h
    obtain ⟨g10, h⟩ := gi_s h
    refine g_iald hE k9 g10 d_R_belowOneOf_23 (fun x11 e => ?_)
    replace h := lt_i e h; clear e
    obtain ⟨x12, e13, h⟩ := bd_s h
    refine g_callV (av := [.inr (.inr (some o)), .inl v1, .inl x11]) (as := [.inl v1, .inl x11]) (stk := [.int x12]) [] hE (c_R_isBelow (xl X) (xG X) e13) ky_R_isBelow ⟨Nat.le_of_ble_eq_true rfl, Nat.le_of_ble_eq_true rfl⟩ rfl kc_R k1 m_447 m_448 m_449 rfl d_R_belowOneOf_24 rfl rfl ct_0 (Nat.zero_le _) (Nat.zero_le _) ?_
    refine gw.cs (c2 := 0) (s2 := 0) rfl rfl ?_
    refine g_if_eq hE d_R_belowOneOf_27 (fun c14 => ?_) (fun c14 => ?_)
    · replace h := if_t c14 h
      refine g_iinc (i := 3) (lv' := [some (va_rf (some o)), some (.int v1), some (.int v2), some (.int (v3 + 1))]) hE d_R_belowOneOf_32 ki_1 rfl (Nat.le_of_ble_eq_true rfl) ⟨rfl, Nat.le_of_ble_eq_true rfl⟩ (lvp_i rfl) ?_
      refine g_goto hE d_R_belowOneOf_35 ?_
      exact gw.less (lv' := [some (va_rf (some o)), some (.int v1), some (.int v2), some (.int (v3 + 1))]) (And.intro rfl (And.intro rfl (And.intro rfl (And.intro rfl trivial)))) (hkb v1 v2 (v3 + 1) h)
    · replace h := if_f c14 h
      refine g_iconst hE d_R_belowOneOf_30 ki_1 ?_
      cases h
      exact g_zret hE (Or.inr rfl) d_R_belowOneOf_31 rfl rfl
theorem w_R_belowOneOf_L2 {X : GX} (hE : gE X b_R_belowOneOf 4 "StandInMillModel" (some (.boolean)) "belowOneOf" 3 67) {S : gS} {d : gD} {o : Nat} {r : Int32} : ∀ (n : Nat) (v1 : Int32) (v2 : Int32) (v3 : Int32), itr (f_R_belowOneOf_B2 S d o) (fun _ _ _ => none) n v1 v2 v3 = some r → gw X 0 0 (gQ X (some (.int r)) S d 0 0) S d 2 [some (va_rf (some o)), some (.int v1), some (.int v2), some (.int v3)] [] := by
  intro n
  induction n with
  | zero => intro v1 v2 v3 h; cases h
  | succ n ih => exact w_R_belowOneOf_B2 hE ih
set_option maxRecDepth 100000 in
def f_R_belowOneOf (S : gS) (d : gD) (o : Nat) (v1 : Int32) (v2 : Int32) : Option (Int32) :=
  itr (f_R_belowOneOf_B2 S d o) (fun _ _ _ => none) fu v1 v2 0
set_option maxRecDepth 100000 in
set_option maxHeartbeats 4000000 in
theorem c_R_belowOneOf (l : Launch) (G : gG) {S : gS} {d : gD} {o : Nat} {v1 : Int32} {v2 : Int32} {r : Int32} (h : f_R_belowOneOf S d o v1 v2 = some r) : GM l G y_R_belowOneOf b_R_belowOneOf 4 (some (.boolean)) 3 67 0 0 [.inr (.inr (some o)), .inl v1, .inl v2] S d (some (.int r)) S d := by
  refine GM.of (by decide) (Nat.le_of_ble_eq_true rfl) ?_
  intro X hl0 hG0 hR0 hE0
  have hE : gE X b_R_belowOneOf 4 "StandInMillModel" (some (.boolean)) "belowOneOf" 3 67 := hE0
  unfold f_R_belowOneOf at h
  refine gw.less (lv' := [some (va_rf (some o)), some (.int v1), some (.int v2), none]) (And.intro rfl (And.intro rfl (And.intro rfl trivial))) ?_
  refine g_iconst hE d_R_belowOneOf_0 ki_0 ?_
  refine g_istore_n (i := 3) (lv' := [some (va_rf (some o)), some (.int v1), some (.int v2), some (.int 0)]) hE d_R_belowOneOf_1 rfl (Nat.le_of_ble_eq_true rfl) ⟨rfl, Nat.le_of_ble_eq_true rfl⟩ (lvp_i rfl) ?_
  exact gw.less (lv' := [some (va_rf (some o)), some (.int v1), some (.int v2), some (.int 0)]) (And.intro rfl (And.intro rfl (And.intro rfl (And.intro rfl trivial)))) (w_R_belowOneOf_L2 hE fu v1 v2 0 h)
