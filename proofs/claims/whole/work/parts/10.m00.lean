theorem d_Ty_bit_0 : dc b_Ty_bit 0 (.lconst 1) 1 1 := ⟨by decide +kernel, rfl⟩
theorem d_Ty_bit_1 : dc b_Ty_bit 1 (.iload_n 0) 1 2 := ⟨by decide +kernel, rfl⟩
theorem d_Ty_bit_2 : dc b_Ty_bit 2 (.lshl) 1 3 := ⟨by decide +kernel, rfl⟩
theorem d_Ty_bit_3 : dc b_Ty_bit 3 (.lreturn) 1 4 := ⟨by decide +kernel, rfl⟩
set_option maxRecDepth 100000 in
def f_Ty_bit (S : gS) (d : gD) (v0 : Int32) : Option (Int64) :=
  some (1 <<< (Int32.toInt64 v0 &&& 63))
set_option maxRecDepth 100000 in
set_option maxHeartbeats 4000000 in
theorem c_Ty_bit (l : Launch) (G : gG) {S : gS} {d : gD} {v0 : Int32} {r : Int64} (h : f_Ty_bit S d v0 = some r) : GM l G y_Ty_bit b_Ty_bit 1 (some (.long)) 0 0 0 0 [.inl v0] S d (some (.long r)) S d := by
  refine GM.of (by decide) (Nat.le_of_ble_eq_true rfl) ?_
  intro X hl0 hG0 hR0 hE0
  have hE : gE X b_Ty_bit 1 "StandInMill$Types" (some (.long)) "bit" 0 0 := hE0
  unfold f_Ty_bit at h
  refine gw.less (lv' := [some (.int v0)]) (And.intro rfl trivial) ?_
  refine g_lconst (v := 1) hE d_Ty_bit_0 rfl ?_
  refine g_iload_n (i := 0) hE d_Ty_bit_1 rfl rfl ?_
  refine g_lshl hE d_Ty_bit_2 ?_
  cases h
  exact g_lret hE d_Ty_bit_3 rfl rfl
theorem d_Ty_init_0 : dc b_Ty_init 0 (.aload_n 0) 1 1 := ⟨by decide +kernel, rfl⟩
theorem d_Ty_init_1 : dc b_Ty_init 1 (.invokespecial 3) 3 4 := ⟨by decide +kernel, rfl⟩
theorem d_Ty_init_4 : dc b_Ty_init 4 (.aload_n 0) 1 5 := ⟨by decide +kernel, rfl⟩
theorem d_Ty_init_5 : dc b_Ty_init 5 (.bipush 47) 2 7 := ⟨by decide +kernel, rfl⟩
theorem d_Ty_init_7 : dc b_Ty_init 7 (.newarray .long) 2 9 := ⟨by decide +kernel, rfl⟩
theorem d_Ty_init_9 : dc b_Ty_init 9 (.putfield 11) 3 12 := ⟨by decide +kernel, rfl⟩
theorem d_Ty_init_12 : dc b_Ty_init 12 (.aload_n 0) 1 13 := ⟨by decide +kernel, rfl⟩
theorem d_Ty_init_13 : dc b_Ty_init 13 (.bipush 11) 2 15 := ⟨by decide +kernel, rfl⟩
theorem d_Ty_init_15 : dc b_Ty_init 15 (.putfield 15) 3 18 := ⟨by decide +kernel, rfl⟩
theorem d_Ty_init_18 : dc b_Ty_init 18 (.aload_n 0) 1 19 := ⟨by decide +kernel, rfl⟩
theorem d_Ty_init_19 : dc b_Ty_init 19 (.getfield 11) 3 22 := ⟨by decide +kernel, rfl⟩
theorem d_Ty_init_22 : dc b_Ty_init 22 (.bipush 7) 2 24 := ⟨by decide +kernel, rfl⟩
theorem d_Ty_init_24 : dc b_Ty_init 24 (.bipush 7) 2 26 := ⟨by decide +kernel, rfl⟩
theorem d_Ty_init_26 : dc b_Ty_init 26 (.invokestatic 19) 3 29 := ⟨by decide +kernel, rfl⟩
theorem d_Ty_init_29 : dc b_Ty_init 29 (.lastore) 1 30 := ⟨by decide +kernel, rfl⟩
theorem d_Ty_init_30 : dc b_Ty_init 30 (.aload_n 0) 1 31 := ⟨by decide +kernel, rfl⟩
theorem d_Ty_init_31 : dc b_Ty_init 31 (.getfield 11) 3 34 := ⟨by decide +kernel, rfl⟩
theorem d_Ty_init_34 : dc b_Ty_init 34 (.bipush 8) 2 36 := ⟨by decide +kernel, rfl⟩
theorem d_Ty_init_36 : dc b_Ty_init 36 (.bipush 8) 2 38 := ⟨by decide +kernel, rfl⟩
theorem d_Ty_init_38 : dc b_Ty_init 38 (.invokestatic 19) 3 41 := ⟨by decide +kernel, rfl⟩
theorem d_Ty_init_41 : dc b_Ty_init 41 (.bipush 7) 2 43 := ⟨by decide +kernel, rfl⟩
theorem d_Ty_init_43 : dc b_Ty_init 43 (.invokestatic 19) 3 46 := ⟨by decide +kernel, rfl⟩
theorem d_Ty_init_46 : dc b_Ty_init 46 (.lor) 1 47 := ⟨by decide +kernel, rfl⟩
theorem d_Ty_init_47 : dc b_Ty_init 47 (.lastore) 1 48 := ⟨by decide +kernel, rfl⟩
theorem d_Ty_init_48 : dc b_Ty_init 48 (.aload_n 0) 1 49 := ⟨by decide +kernel, rfl⟩
theorem d_Ty_init_49 : dc b_Ty_init 49 (.getfield 11) 3 52 := ⟨by decide +kernel, rfl⟩
theorem d_Ty_init_52 : dc b_Ty_init 52 (.bipush 9) 2 54 := ⟨by decide +kernel, rfl⟩
theorem d_Ty_init_54 : dc b_Ty_init 54 (.bipush 9) 2 56 := ⟨by decide +kernel, rfl⟩
theorem d_Ty_init_56 : dc b_Ty_init 56 (.invokestatic 19) 3 59 := ⟨by decide +kernel, rfl⟩
theorem d_Ty_init_59 : dc b_Ty_init 59 (.aload_n 0) 1 60 := ⟨by decide +kernel, rfl⟩
theorem d_Ty_init_60 : dc b_Ty_init 60 (.getfield 11) 3 63 := ⟨by decide +kernel, rfl⟩
theorem d_Ty_init_63 : dc b_Ty_init 63 (.bipush 8) 2 65 := ⟨by decide +kernel, rfl⟩
theorem d_Ty_init_65 : dc b_Ty_init 65 (.laload) 1 66 := ⟨by decide +kernel, rfl⟩
theorem d_Ty_init_66 : dc b_Ty_init 66 (.lor) 1 67 := ⟨by decide +kernel, rfl⟩
theorem d_Ty_init_67 : dc b_Ty_init 67 (.lastore) 1 68 := ⟨by decide +kernel, rfl⟩
theorem d_Ty_init_68 : dc b_Ty_init 68 (.aload_n 0) 1 69 := ⟨by decide +kernel, rfl⟩
theorem d_Ty_init_69 : dc b_Ty_init 69 (.getfield 11) 3 72 := ⟨by decide +kernel, rfl⟩
theorem d_Ty_init_72 : dc b_Ty_init 72 (.bipush 10) 2 74 := ⟨by decide +kernel, rfl⟩
theorem d_Ty_init_74 : dc b_Ty_init 74 (.bipush 10) 2 76 := ⟨by decide +kernel, rfl⟩
theorem d_Ty_init_76 : dc b_Ty_init 76 (.invokestatic 19) 3 79 := ⟨by decide +kernel, rfl⟩
theorem d_Ty_init_79 : dc b_Ty_init 79 (.aload_n 0) 1 80 := ⟨by decide +kernel, rfl⟩
theorem d_Ty_init_80 : dc b_Ty_init 80 (.getfield 11) 3 83 := ⟨by decide +kernel, rfl⟩
theorem d_Ty_init_83 : dc b_Ty_init 83 (.bipush 8) 2 85 := ⟨by decide +kernel, rfl⟩
theorem d_Ty_init_85 : dc b_Ty_init 85 (.laload) 1 86 := ⟨by decide +kernel, rfl⟩
theorem d_Ty_init_86 : dc b_Ty_init 86 (.lor) 1 87 := ⟨by decide +kernel, rfl⟩
theorem d_Ty_init_87 : dc b_Ty_init 87 (.lastore) 1 88 := ⟨by decide +kernel, rfl⟩
theorem d_Ty_init_88 : dc b_Ty_init 88 (.bipush 41) 2 90 := ⟨by decide +kernel, rfl⟩
theorem d_Ty_init_90 : dc b_Ty_init 90 (.istore_n 1) 1 91 := ⟨by decide +kernel, rfl⟩
theorem d_Ty_init_91 : dc b_Ty_init 91 (.iload_n 1) 1 92 := ⟨by decide +kernel, rfl⟩
theorem d_Ty_init_92 : dc b_Ty_init 92 (.bipush 46) 2 94 := ⟨by decide +kernel, rfl⟩
theorem d_Ty_init_94 : db b_Ty_init 94 (.if_icmp .gt 25) 25 119 97 := ⟨by decide +kernel, by decide, rfl⟩
theorem d_Ty_init_97 : dc b_Ty_init 97 (.aload_n 0) 1 98 := ⟨by decide +kernel, rfl⟩
theorem d_Ty_init_98 : dc b_Ty_init 98 (.getfield 11) 3 101 := ⟨by decide +kernel, rfl⟩
theorem d_Ty_init_101 : dc b_Ty_init 101 (.iload_n 1) 1 102 := ⟨by decide +kernel, rfl⟩
theorem d_Ty_init_102 : dc b_Ty_init 102 (.iload_n 1) 1 103 := ⟨by decide +kernel, rfl⟩
theorem d_Ty_init_103 : dc b_Ty_init 103 (.invokestatic 19) 3 106 := ⟨by decide +kernel, rfl⟩
theorem d_Ty_init_106 : dc b_Ty_init 106 (.bipush 7) 2 108 := ⟨by decide +kernel, rfl⟩
theorem d_Ty_init_108 : dc b_Ty_init 108 (.invokestatic 19) 3 111 := ⟨by decide +kernel, rfl⟩
theorem d_Ty_init_111 : dc b_Ty_init 111 (.lor) 1 112 := ⟨by decide +kernel, rfl⟩
theorem d_Ty_init_112 : dc b_Ty_init 112 (.lastore) 1 113 := ⟨by decide +kernel, rfl⟩
theorem d_Ty_init_113 : dc b_Ty_init 113 (.iinc 1 1) 3 116 := ⟨by decide +kernel, rfl⟩
theorem d_Ty_init_116 : db b_Ty_init 116 (.goto (-25)) (-25) 91 119 := ⟨by decide +kernel, by decide, rfl⟩
theorem d_Ty_init_119 : dc b_Ty_init 119 (.return_) 1 120 := ⟨by decide +kernel, rfl⟩
def f_Ty_init_B91 (o : Nat) (kb : gS → gD → Int32 → Option ((Unit × gS × gD) × Nat × Nat)) (S : gS) (d : gD) (v1 : Int32) : Option ((Unit × gS × gD) × Nat × Nat) :=
  if 46 < v1 then (
    some (((), S, d), 0, 0))
  else (
    kd S o 8 <|
    lt_ (sP S o 0) fun x2 =>
    bd (f_Ty_bit S d v1) fun x3 =>
    bd (f_Ty_bit S d 7) fun x5 =>
    nn x2 fun a7 =>
    kd S a7 51 <|
    gi v1 (sN S a7) <|
    lt_ (wL d a7 v1.toNatClampNeg (x3 ||| x5)) fun d10 =>
    kb S d10 (v1 + 1))
set_option maxRecDepth 100000 in
set_option maxHeartbeats 4000000 in
theorem w_Ty_init_B91 {X : GX} (hE : gE X b_Ty_init 2 "StandInMill$Types" none "<init>" 1 20) {o : Nat} {r : Unit} {S' : gS} {d' : gD} {mc ms : Nat} (hmc : (xR X).cells = mc) (hms : (xR X).slots = ms) {kb : gS → gD → Int32 → Option ((Unit × gS × gD) × Nat × Nat)} (hkb : ∀ (cells slots dc ds : Nat) (S : gS) (d : gD) (v1 : Int32), kb S d v1 = some ((r, S', d'), dc, ds) → cells + dc = mc → slots + ds = ms → gw X cells slots (gQ X (none) S' d' mc ms) S d 91 [some (va_rf (some o)), some (.int v1)] []) :
    ∀ (cells slots dc ds : Nat) (S : gS) (d : gD) (v1 : Int32), f_Ty_init_B91 o kb S d v1 = some ((r, S', d'), dc, ds) → cells + dc = mc → slots + ds = ms → gw X cells slots (gQ X (none) S' d' mc ms) S d 91 [some (va_rf (some o)), some (.int v1)] [] := by
  intro cells slots dc ds S d v1 h hc hs
  unfold f_Ty_init_B91 at h
  refine g_iload_n (i := 1) hE d_Ty_init_91 rfl rfl ?_
  refine g_bipush hE d_Ty_init_92 kb_46 ?_
  refine g_icmp_gt hE d_Ty_init_94 (fun c11 => ?_) (fun c11 => ?_)
  · replace h := if_t c11 h
    cases h
    exact g_vret hE d_Ty_init_119 hc hs
  · replace h := if_f c11 h
    refine g_aload_n (i := 0) hE d_Ty_init_97 rfl rfl ?_
    obtain ⟨k1, h⟩ := kd_s h
    refine g_getR 0 hE kc_Ty k1 (Nat.le_of_ble_eq_true rfl) rfl m_4 d_Ty_init_98 (fun x2 e => ?_)
    replace h := lt_i e h; clear e
    refine g_iload_n (i := 1) hE d_Ty_init_101 rfl rfl ?_
    refine g_iload_n (i := 1) hE d_Ty_init_102 rfl rfl ?_
    obtain ⟨x3, e4, h⟩ := bd_s h
    refine g_callS (av := [.inl v1]) (stk := [.long x3, .int v1, va_rf x2]) [.int v1, va_rf x2] hE (c_Ty_bit (xl X) (xG X) e4) ky_Ty_bit ⟨Nat.le_of_ble_eq_true rfl, Nat.le_of_ble_eq_true rfl⟩ m_6 m_7 rfl d_Ty_init_103 rfl rfl (Nat.le_trans (ct_i (ct_r ct_n)) (Nat.le_of_ble_eq_true rfl)) (cnt_room0 hmc hc) (cnt_room0 hms hs) ?_
    refine gw.cs (c2 := cells) (s2 := slots) rfl rfl ?_
    refine g_bipush hE d_Ty_init_106 kb_7 ?_
    obtain ⟨x5, e6, h⟩ := bd_s h
    refine g_callS (av := [.inl 7]) (stk := [.long x5, .long x3, .int v1, va_rf x2]) [.long x3, .int v1, va_rf x2] hE (c_Ty_bit (xl X) (xG X) e6) ky_Ty_bit ⟨Nat.le_of_ble_eq_true rfl, Nat.le_of_ble_eq_true rfl⟩ m_6 m_7 rfl d_Ty_init_108 rfl rfl (Nat.le_trans (ct_l (ct_i (ct_r ct_n))) (Nat.le_of_ble_eq_true rfl)) (cnt_room0 hmc hc) (cnt_room0 hms hs) ?_
    refine gw.cs (c2 := cells) (s2 := slots) rfl rfl ?_
    refine g_lor hE d_Ty_init_111 ?_
    obtain ⟨a7, rfl, h⟩ := nn_s h
    obtain ⟨k8, h⟩ := kd_s h
    obtain ⟨g9, h⟩ := gi_s h
    refine g_last hE k8 g9 d_Ty_init_112 (fun d10 e => ?_)
    replace h := lt_i e h; clear e
    refine g_iinc (i := 1) (lv' := [some (va_rf (some o)), some (.int (v1 + 1))]) hE d_Ty_init_113 ki_1 rfl (Nat.le_of_ble_eq_true rfl) ⟨rfl, Nat.le_of_ble_eq_true rfl⟩ (lvp_r rfl) ?_
    refine g_goto hE d_Ty_init_116 ?_
    exact gw.less (lv' := [some (va_rf (some o)), some (.int (v1 + 1))]) (And.intro rfl (And.intro rfl trivial)) (hkb _ _ _ _ S d10 (v1 + 1) h hc hs)
theorem w_Ty_init_L91 {X : GX} (hE : gE X b_Ty_init 2 "StandInMill$Types" none "<init>" 1 20) {o : Nat} {r : Unit} {S' : gS} {d' : gD} {mc ms : Nat} (hmc : (xR X).cells = mc) (hms : (xR X).slots = ms) : ∀ (n : Nat) (cells slots dc ds : Nat) (S : gS) (d : gD) (v1 : Int32), itr (f_Ty_init_B91 o) (fun _ _ _ => none) n S d v1 = some ((r, S', d'), dc, ds) → cells + dc = mc → slots + ds = ms → gw X cells slots (gQ X (none) S' d' mc ms) S d 91 [some (va_rf (some o)), some (.int v1)] [] := by
  intro n
  induction n with
  | zero => intro cells slots dc ds S d v1 h hc hs; cases h
  | succ n ih => exact w_Ty_init_B91 hE hmc hms ih
set_option maxRecDepth 100000 in
def f_Ty_init (S : gS) (d : gD) (o : Nat) : Option ((Unit × gS × gD) × Nat × Nat) :=
  nl 47 <|
  ac 1 ((47 : Int32).toNatClampNeg) <|
  lt_ (nS S 51 ((47 : Int32).toNatClampNeg)) fun S1 =>
  lt_ (nD S d) fun d2 =>
  lt_ (sZ S) fun a3 =>
  kd S1 o 8 <|
  lt_ (wP S1 o 0 (some a3)) fun S9 =>
  lt_ (wI d2 o 1 11) fun d10 =>
  lt_ (sP S9 o 0) fun x11 =>
  bd (f_Ty_bit S9 d10 7) fun x12 =>
  nn x11 fun a14 =>
  kd S9 a14 51 <|
  gi 7 (sN S9 a14) <|
  lt_ (wL d10 a14 (7 : Int32).toNatClampNeg x12) fun d17 =>
  lt_ (sP S9 o 0) fun x18 =>
  bd (f_Ty_bit S9 d17 8) fun x19 =>
  bd (f_Ty_bit S9 d17 7) fun x21 =>
  nn x18 fun a23 =>
  kd S9 a23 51 <|
  gi 8 (sN S9 a23) <|
  lt_ (wL d17 a23 (8 : Int32).toNatClampNeg (x19 ||| x21)) fun d26 =>
  lt_ (sP S9 o 0) fun x27 =>
  bd (f_Ty_bit S9 d26 9) fun x28 =>
  lt_ (sP S9 o 0) fun x30 =>
  nn x30 fun a31 =>
  kd S9 a31 51 <|
  gi 8 (sN S9 a31) <|
  lt_ (dL d26 a31 (8 : Int32).toNatClampNeg) fun x34 =>
  nn x27 fun a35 =>
  kd S9 a35 51 <|
  gi 9 (sN S9 a35) <|
  lt_ (wL d26 a35 (9 : Int32).toNatClampNeg (x28 ||| x34)) fun d38 =>
  lt_ (sP S9 o 0) fun x39 =>
  bd (f_Ty_bit S9 d38 10) fun x40 =>
  lt_ (sP S9 o 0) fun x42 =>
  nn x42 fun a43 =>
  kd S9 a43 51 <|
  gi 8 (sN S9 a43) <|
  lt_ (dL d38 a43 (8 : Int32).toNatClampNeg) fun x46 =>
  nn x39 fun a47 =>
  kd S9 a47 51 <|
  gi 10 (sN S9 a47) <|
  lt_ (wL d38 a47 (10 : Int32).toNatClampNeg (x40 ||| x46)) fun d50 =>
  itr (f_Ty_init_B91 o) (fun _ _ _ => none) fu S9 d50 41
set_option maxRecDepth 100000 in
set_option maxHeartbeats 4000000 in
theorem c_Ty_init (l : Launch) (G : gG) {S : gS} {d : gD} {o : Nat} {r : Unit} {d' : gD} {S' : gS} {dc ds : Nat} (h : f_Ty_init S d o = some ((r, S', d'), dc, ds)) : GM l G y_Ty_init b_Ty_init 2 none 1 20 dc ds [.inr (.inr (some o))] S d (none) S' d' := by
  refine GM.of (by decide) (Nat.le_of_ble_eq_true rfl) ?_
  intro X hl0 hG0 hR0 hE0
  have hE : gE X b_Ty_init 2 "StandInMill$Types" none "<init>" 1 20 := hE0
  have hmc : (xR X).cells = dc := by rw [hR0]
  have hms : (xR X).slots = ds := by rw [hR0]
  obtain ⟨mc, emc⟩ : ∃ z, z = dc := ⟨_, rfl⟩
  obtain ⟨ms, ems⟩ : ∃ z, z = ds := ⟨_, rfl⟩
  rw [← emc] at hmc
  rw [← ems] at hms
  have hc : 0 + dc = mc := by omega
  have hs : 0 + ds = ms := by omega
  show gw X 0 0 (gQ X _ _ _ dc ds) _ _ _ _ _
  rw [← emc, ← ems]
  clear hR0 emc ems
  unfold f_Ty_init at h
  refine gw.less (lv' := [some (va_rf (some o)), none]) (And.intro rfl trivial) ?_
  refine g_aload_n (i := 0) hE d_Ty_init_0 rfl rfl ?_
  refine g_objInit hE m_0 m_1 m_2 ⟨Nat.le_of_ble_eq_true rfl, Nat.le_of_ble_eq_true rfl⟩ ct_0 d_Ty_init_1 ?_
  refine g_aload_n (i := 0) hE d_Ty_init_4 rfl rfl ?_
  refine g_bipush hE d_Ty_init_5 kb_47 ?_
  obtain ⟨g4, h⟩ := nl_s h
  obtain ⟨dc0, ds0, h, hc0, hs0⟩ := ac_s h
  refine g_newa (κ := 51) hE rfl (by decide) (fun _ => rfl) (fun _ _ h => h) (by decide) m_3 g4 (cnt_room hmc hc hc0) (cnt_room hms hs hs0) d_Ty_init_7 (fun S1 d2 a3 e1 e2 e3 => ?_)
  have k5 : sK S1 a3 = 51 := by rw [← e1, ← e3]; exact nS_new
  replace h := lt_i e1 h; replace h := lt_i e2 h; replace h := lt_i e3 h; clear e1 e2 e3
  refine gw.gen (fun c6 s7 ec es => ?_)
  replace hc := cnt_step hc hc0 ec; replace hs := cnt_step hs hs0 es; clear hc0 hs0 ec es
  obtain ⟨k8, h⟩ := kd_s h
  refine g_putRF (fty := .array (.long)) 0 hE kc_Ty k8 (Nat.le_of_ble_eq_true rfl) rfl m_4 rfl (by decide +kernel) rfl d_Ty_init_9 rfl rfl (fun S9 e => ?_)
  replace k5 : sK S9 a3 = 51 := by rw [← e]; exact k5
  replace k8 : sK S9 o = 8 := by rw [← e]; exact k8
  replace h := lt_i e h; clear e
  refine g_aload_n (i := 0) hE d_Ty_init_12 rfl rfl ?_
  refine g_bipush hE d_Ty_init_13 kb_11 ?_
  refine g_putI 1 hE kc_Ty k8 (Nat.le_of_ble_eq_true rfl) rfl m_5 rfl (by decide +kernel) d_Ty_init_15 (fun d10 e => ?_)
  replace h := lt_i e h; clear e
  refine g_aload_n (i := 0) hE d_Ty_init_18 rfl rfl ?_
  refine g_getR 0 hE kc_Ty k8 (Nat.le_of_ble_eq_true rfl) rfl m_4 d_Ty_init_19 (fun x11 e => ?_)
  replace h := lt_i e h; clear e
  refine g_bipush hE d_Ty_init_22 kb_7 ?_
  refine g_bipush hE d_Ty_init_24 kb_7 ?_
  obtain ⟨x12, e13, h⟩ := bd_s h
  refine g_callS (av := [.inl 7]) (stk := [.long x12, .int 7, va_rf x11]) [.int 7, va_rf x11] hE (c_Ty_bit (xl X) (xG X) e13) ky_Ty_bit ⟨Nat.le_of_ble_eq_true rfl, Nat.le_of_ble_eq_true rfl⟩ m_6 m_7 rfl d_Ty_init_26 rfl rfl (Nat.le_trans (ct_i (ct_r ct_n)) (Nat.le_of_ble_eq_true rfl)) (cnt_room0 hmc hc) (cnt_room0 hms hs) ?_
  refine gw.cs (c2 := c6) (s2 := s7) rfl rfl ?_
  obtain ⟨a14, rfl, h⟩ := nn_s h
  obtain ⟨k15, h⟩ := kd_s h
  obtain ⟨g16, h⟩ := gi_s h
  refine g_last hE k15 g16 d_Ty_init_29 (fun d17 e => ?_)
  replace h := lt_i e h; clear e
  refine g_aload_n (i := 0) hE d_Ty_init_30 rfl rfl ?_
  refine g_getR 0 hE kc_Ty k8 (Nat.le_of_ble_eq_true rfl) rfl m_4 d_Ty_init_31 (fun x18 e => ?_)
  replace h := lt_i e h; clear e
  refine g_bipush hE d_Ty_init_34 kb_8 ?_
  refine g_bipush hE d_Ty_init_36 kb_8 ?_
  obtain ⟨x19, e20, h⟩ := bd_s h
  refine g_callS (av := [.inl 8]) (stk := [.long x19, .int 8, va_rf x18]) [.int 8, va_rf x18] hE (c_Ty_bit (xl X) (xG X) e20) ky_Ty_bit ⟨Nat.le_of_ble_eq_true rfl, Nat.le_of_ble_eq_true rfl⟩ m_6 m_7 rfl d_Ty_init_38 rfl rfl (Nat.le_trans (ct_i (ct_r ct_n)) (Nat.le_of_ble_eq_true rfl)) (cnt_room0 hmc hc) (cnt_room0 hms hs) ?_
  refine gw.cs (c2 := c6) (s2 := s7) rfl rfl ?_
  refine g_bipush hE d_Ty_init_41 kb_7 ?_
  obtain ⟨x21, e22, h⟩ := bd_s h
  refine g_callS (av := [.inl 7]) (stk := [.long x21, .long x19, .int 8, va_rf x18]) [.long x19, .int 8, va_rf x18] hE (c_Ty_bit (xl X) (xG X) e22) ky_Ty_bit ⟨Nat.le_of_ble_eq_true rfl, Nat.le_of_ble_eq_true rfl⟩ m_6 m_7 rfl d_Ty_init_43 rfl rfl (Nat.le_trans (ct_l (ct_i (ct_r ct_n))) (Nat.le_of_ble_eq_true rfl)) (cnt_room0 hmc hc) (cnt_room0 hms hs) ?_
  refine gw.cs (c2 := c6) (s2 := s7) rfl rfl ?_
  refine g_lor hE d_Ty_init_46 ?_
  obtain ⟨a23, rfl, h⟩ := nn_s h
  obtain ⟨k24, h⟩ := kd_s h
  obtain ⟨g25, h⟩ := gi_s h
  refine g_last hE k24 g25 d_Ty_init_47 (fun d26 e => ?_)
  replace h := lt_i e h; clear e
  refine g_aload_n (i := 0) hE d_Ty_init_48 rfl rfl ?_
  refine g_getR 0 hE kc_Ty k8 (Nat.le_of_ble_eq_true rfl) rfl m_4 d_Ty_init_49 (fun x27 e => ?_)
  replace h := lt_i e h; clear e
  refine g_bipush hE d_Ty_init_52 kb_9 ?_
  refine g_bipush hE d_Ty_init_54 kb_9 ?_
  obtain ⟨x28, e29, h⟩ := bd_s h
  refine g_callS (av := [.inl 9]) (stk := [.long x28, .int 9, va_rf x27]) [.int 9, va_rf x27] hE (c_Ty_bit (xl X) (xG X) e29) ky_Ty_bit ⟨Nat.le_of_ble_eq_true rfl, Nat.le_of_ble_eq_true rfl⟩ m_6 m_7 rfl d_Ty_init_56 rfl rfl (Nat.le_trans (ct_i (ct_r ct_n)) (Nat.le_of_ble_eq_true rfl)) (cnt_room0 hmc hc) (cnt_room0 hms hs) ?_
  refine gw.cs (c2 := c6) (s2 := s7) rfl rfl ?_
  refine g_aload_n (i := 0) hE d_Ty_init_59 rfl rfl ?_
  refine g_getR 0 hE kc_Ty k8 (Nat.le_of_ble_eq_true rfl) rfl m_4 d_Ty_init_60 (fun x30 e => ?_)
  replace h := lt_i e h; clear e
  refine g_bipush hE d_Ty_init_63 kb_8 ?_
  obtain ⟨a31, rfl, h⟩ := nn_s h
  obtain ⟨k32, h⟩ := kd_s h
  obtain ⟨g33, h⟩ := gi_s h
  refine g_lald hE k32 g33 d_Ty_init_65 (fun x34 e => ?_)
  replace h := lt_i e h; clear e
  refine g_lor hE d_Ty_init_66 ?_
  obtain ⟨a35, rfl, h⟩ := nn_s h
  obtain ⟨k36, h⟩ := kd_s h
  obtain ⟨g37, h⟩ := gi_s h
  refine g_last hE k36 g37 d_Ty_init_67 (fun d38 e => ?_)
  replace h := lt_i e h; clear e
  refine g_aload_n (i := 0) hE d_Ty_init_68 rfl rfl ?_
  refine g_getR 0 hE kc_Ty k8 (Nat.le_of_ble_eq_true rfl) rfl m_4 d_Ty_init_69 (fun x39 e => ?_)
  replace h := lt_i e h; clear e
  refine g_bipush hE d_Ty_init_72 kb_10 ?_
  refine g_bipush hE d_Ty_init_74 kb_10 ?_
  obtain ⟨x40, e41, h⟩ := bd_s h
  refine g_callS (av := [.inl 10]) (stk := [.long x40, .int 10, va_rf x39]) [.int 10, va_rf x39] hE (c_Ty_bit (xl X) (xG X) e41) ky_Ty_bit ⟨Nat.le_of_ble_eq_true rfl, Nat.le_of_ble_eq_true rfl⟩ m_6 m_7 rfl d_Ty_init_76 rfl rfl (Nat.le_trans (ct_i (ct_r ct_n)) (Nat.le_of_ble_eq_true rfl)) (cnt_room0 hmc hc) (cnt_room0 hms hs) ?_
  refine gw.cs (c2 := c6) (s2 := s7) rfl rfl ?_
  refine g_aload_n (i := 0) hE d_Ty_init_79 rfl rfl ?_
  refine g_getR 0 hE kc_Ty k8 (Nat.le_of_ble_eq_true rfl) rfl m_4 d_Ty_init_80 (fun x42 e => ?_)
  replace h := lt_i e h; clear e
  refine g_bipush hE d_Ty_init_83 kb_8 ?_
  obtain ⟨a43, rfl, h⟩ := nn_s h
  obtain ⟨k44, h⟩ := kd_s h
  obtain ⟨g45, h⟩ := gi_s h
  refine g_lald hE k44 g45 d_Ty_init_85 (fun x46 e => ?_)
  replace h := lt_i e h; clear e
  refine g_lor hE d_Ty_init_86 ?_
  obtain ⟨a47, rfl, h⟩ := nn_s h
  obtain ⟨k48, h⟩ := kd_s h
  obtain ⟨g49, h⟩ := gi_s h
  refine g_last hE k48 g49 d_Ty_init_87 (fun d50 e => ?_)
  replace h := lt_i e h; clear e
  refine g_bipush hE d_Ty_init_88 kb_41 ?_
  refine g_istore_n (i := 1) (lv' := [some (va_rf (some o)), some (.int 41)]) hE d_Ty_init_90 rfl (Nat.le_of_ble_eq_true rfl) ⟨rfl, Nat.le_of_ble_eq_true rfl⟩ (lvp_r rfl) ?_
  exact gw.less (lv' := [some (va_rf (some o)), some (.int 41)]) (And.intro rfl (And.intro rfl trivial)) (w_Ty_init_L91 hE hmc hms fu _ _ _ _ S9 d50 41 h hc hs)
theorem d_Rw_init_0 : dc b_Rw_init 0 (.aload_n 0) 1 1 := ⟨by decide +kernel, rfl⟩
theorem d_Rw_init_1 : dc b_Rw_init 1 (.invokespecial 3) 3 4 := ⟨by decide +kernel, rfl⟩
theorem d_Rw_init_4 : dc b_Rw_init 4 (.aload_n 0) 1 5 := ⟨by decide +kernel, rfl⟩
theorem d_Rw_init_5 : dc b_Rw_init 5 (.iload_n 1) 1 6 := ⟨by decide +kernel, rfl⟩
theorem d_Rw_init_6 : dc b_Rw_init 6 (.newarray .int) 2 8 := ⟨by decide +kernel, rfl⟩
theorem d_Rw_init_8 : dc b_Rw_init 8 (.putfield 9) 3 11 := ⟨by decide +kernel, rfl⟩
theorem d_Rw_init_11 : dc b_Rw_init 11 (.return_) 1 12 := ⟨by decide +kernel, rfl⟩
set_option maxRecDepth 100000 in
def f_Rw_init (S : gS) (d : gD) (o : Nat) (v1 : Int32) : Option ((Unit × gS × gD) × Nat × Nat) :=
  nl v1 <|
  ac 1 (v1.toNatClampNeg) <|
  lt_ (nS S 50 (v1.toNatClampNeg)) fun S1 =>
  lt_ (nD S d) fun d2 =>
  lt_ (sZ S) fun a3 =>
  kd S1 o 2 <|
  lt_ (wP S1 o 0 (some a3)) fun S9 =>
  some (((), S9, d2), 0, 0)
set_option maxRecDepth 100000 in
set_option maxHeartbeats 4000000 in
theorem c_Rw_init (l : Launch) (G : gG) {S : gS} {d : gD} {o : Nat} {v1 : Int32} {r : Unit} {d' : gD} {S' : gS} {dc ds : Nat} (h : f_Rw_init S d o v1 = some ((r, S', d'), dc, ds)) : GM l G y_Rw_init b_Rw_init 2 none 1 20 dc ds [.inr (.inr (some o)), .inl v1] S d (none) S' d' := by
  refine GM.of (by decide) (Nat.le_of_ble_eq_true rfl) ?_
  intro X hl0 hG0 hR0 hE0
  have hE : gE X b_Rw_init 2 "StandInMill$ClassRow" none "<init>" 1 20 := hE0
  have hmc : (xR X).cells = dc := by rw [hR0]
  have hms : (xR X).slots = ds := by rw [hR0]
  obtain ⟨mc, emc⟩ : ∃ z, z = dc := ⟨_, rfl⟩
  obtain ⟨ms, ems⟩ : ∃ z, z = ds := ⟨_, rfl⟩
  rw [← emc] at hmc
  rw [← ems] at hms
  have hc : 0 + dc = mc := by omega
  have hs : 0 + ds = ms := by omega
  show gw X 0 0 (gQ X _ _ _ dc ds) _ _ _ _ _
  rw [← emc, ← ems]
  clear hR0 emc ems
  unfold f_Rw_init at h
  refine gw.less (lv' := [some (va_rf (some o)), some (.int v1)]) (And.intro rfl (And.intro rfl trivial)) ?_
  refine g_aload_n (i := 0) hE d_Rw_init_0 rfl rfl ?_
  refine g_objInit hE m_8 m_1 m_2 ⟨Nat.le_of_ble_eq_true rfl, Nat.le_of_ble_eq_true rfl⟩ ct_0 d_Rw_init_1 ?_
  refine g_aload_n (i := 0) hE d_Rw_init_4 rfl rfl ?_
  refine g_iload_n (i := 1) hE d_Rw_init_5 rfl rfl ?_
  obtain ⟨g4, h⟩ := nl_s h
  obtain ⟨dc0, ds0, h, hc0, hs0⟩ := ac_s h
  refine g_newa (κ := 50) hE rfl (by decide) (fun _ => rfl) (fun _ _ h => h) (by decide) m_9 g4 (cnt_room hmc hc hc0) (cnt_room hms hs hs0) d_Rw_init_6 (fun S1 d2 a3 e1 e2 e3 => ?_)
  have k5 : sK S1 a3 = 50 := by rw [← e1, ← e3]; exact nS_new
  replace h := lt_i e1 h; replace h := lt_i e2 h; replace h := lt_i e3 h; clear e1 e2 e3
  refine gw.gen (fun c6 s7 ec es => ?_)
  replace hc := cnt_step hc hc0 ec; replace hs := cnt_step hs hs0 es; clear hc0 hs0 ec es
  obtain ⟨k8, h⟩ := kd_s h
  refine g_putRF (fty := .array (.int)) 0 hE kc_Rw k8 (Nat.le_of_ble_eq_true rfl) rfl m_10 rfl (by decide +kernel) rfl d_Rw_init_8 rfl rfl (fun S9 e => ?_)
  replace k5 : sK S9 a3 = 50 := by rw [← e]; exact k5
  replace k8 : sK S9 o = 2 := by rw [← e]; exact k8
  replace h := lt_i e h; clear e
  cases h
  exact g_vret hE d_Rw_init_11 hc hs
theorem d_Dr_init_0 : dc b_Dr_init 0 (.aload_n 0) 1 1 := ⟨by decide +kernel, rfl⟩
theorem d_Dr_init_1 : dc b_Dr_init 1 (.invokespecial 3) 3 4 := ⟨by decide +kernel, rfl⟩
theorem d_Dr_init_4 : dc b_Dr_init 4 (.aload_n 0) 1 5 := ⟨by decide +kernel, rfl⟩
theorem d_Dr_init_5 : dc b_Dr_init 5 (.bipush 75) 2 7 := ⟨by decide +kernel, rfl⟩
theorem d_Dr_init_7 : dc b_Dr_init 7 (.anewarray 9) 3 10 := ⟨by decide +kernel, rfl⟩
theorem d_Dr_init_10 : dc b_Dr_init 10 (.putfield 11) 3 13 := ⟨by decide +kernel, rfl⟩
theorem d_Dr_init_13 : dc b_Dr_init 13 (.aload_n 0) 1 14 := ⟨by decide +kernel, rfl⟩
theorem d_Dr_init_14 : dc b_Dr_init 14 (.new 17) 3 17 := ⟨by decide +kernel, rfl⟩
theorem d_Dr_init_17 : dc b_Dr_init 17 (.dup) 1 18 := ⟨by decide +kernel, rfl⟩
theorem d_Dr_init_18 : dc b_Dr_init 18 (.bipush 16) 2 20 := ⟨by decide +kernel, rfl⟩
theorem d_Dr_init_20 : dc b_Dr_init 20 (.invokespecial 19) 3 23 := ⟨by decide +kernel, rfl⟩
theorem d_Dr_init_23 : dc b_Dr_init 23 (.putfield 22) 3 26 := ⟨by decide +kernel, rfl⟩
theorem d_Dr_init_26 : dc b_Dr_init 26 (.aload_n 0) 1 27 := ⟨by decide +kernel, rfl⟩
theorem d_Dr_init_27 : dc b_Dr_init 27 (.aload_n 1) 1 28 := ⟨by decide +kernel, rfl⟩
theorem d_Dr_init_28 : dc b_Dr_init 28 (.putfield 26) 3 31 := ⟨by decide +kernel, rfl⟩
theorem d_Dr_init_31 : dc b_Dr_init 31 (.return_) 1 32 := ⟨by decide +kernel, rfl⟩
set_option maxRecDepth 100000 in
def f_Dr_init (S : gS) (d : gD) (o : Nat) (v1 : Option Nat) : Option ((Unit × gS × gD) × Nat × Nat) :=
  nl 75 <|
  ac 1 ((75 : Int32).toNatClampNeg) <|
  lt_ (nS S 63 ((75 : Int32).toNatClampNeg)) fun S1 =>
  lt_ (nD S d) fun d2 =>
  lt_ (sZ S) fun a3 =>
  kd S1 o 3 <|
  lt_ (wP S1 o 1 (some a3)) fun S9 =>
  ac 1 2 <|
  lt_ (nS S9 2 0) fun S10 =>
  lt_ (nD S9 d2) fun d11 =>
  lt_ (sZ S9) fun a12 =>
  bdA (f_Rw_init S10 d11 a12 16) fun _ S18 d19 =>
  kd S18 o 3 <|
  lt_ (wP S18 o 3 (some a12)) fun S25 =>
  lt_ (wP S25 o 0 v1) fun S26 =>
  some (((), S26, d19), 0, 0)
set_option maxRecDepth 100000 in
set_option maxHeartbeats 4000000 in
theorem c_Dr_init (l : Launch) (G : gG) {S : gS} {d : gD} {o : Nat} {v1 : Option Nat} {r : Unit} {d' : gD} {S' : gS} {dc ds : Nat} (h : f_Dr_init S d o v1 = some ((r, S', d'), dc, ds)) : GM l G y_Dr_init b_Dr_init 2 none 2 41 dc ds [.inr (.inr (some o)), .inr (.inr v1)] S d (none) S' d' := by
  refine GM.of (by decide) (Nat.le_of_ble_eq_true rfl) ?_
  intro X hl0 hG0 hR0 hE0
  have hE : gE X b_Dr_init 2 "StandInMill$Draft" none "<init>" 2 41 := hE0
  have hmc : (xR X).cells = dc := by rw [hR0]
  have hms : (xR X).slots = ds := by rw [hR0]
  obtain ⟨mc, emc⟩ : ∃ z, z = dc := ⟨_, rfl⟩
  obtain ⟨ms, ems⟩ : ∃ z, z = ds := ⟨_, rfl⟩
  rw [← emc] at hmc
  rw [← ems] at hms
  have hc : 0 + dc = mc := by omega
  have hs : 0 + ds = ms := by omega
  show gw X 0 0 (gQ X _ _ _ dc ds) _ _ _ _ _
  rw [← emc, ← ems]
  clear hR0 emc ems
  unfold f_Dr_init at h
  refine gw.less (lv' := [some (va_rf (some o)), some (va_rf v1)]) (And.intro rfl (And.intro rfl trivial)) ?_
  refine g_aload_n (i := 0) hE d_Dr_init_0 rfl rfl ?_
  refine g_objInit hE m_11 m_1 m_2 ⟨Nat.le_of_ble_eq_true rfl, Nat.le_of_ble_eq_true rfl⟩ ct_0 d_Dr_init_1 ?_
  refine g_aload_n (i := 0) hE d_Dr_init_4 rfl rfl ?_
  refine g_bipush hE d_Dr_init_5 kb_75 ?_
  obtain ⟨g4, h⟩ := nl_s h
  obtain ⟨dc0, ds0, h, hc0, hs0⟩ := ac_s h
  refine g_newq (κ := 63) hE rfl (by decide) (fun _ => rfl) (by decide) m_12 g4 (cnt_room hmc hc hc0) (cnt_room hms hs hs0) d_Dr_init_7 (fun S1 d2 a3 e1 e2 e3 => ?_)
  have k5 : sK S1 a3 = 63 := by rw [← e1, ← e3]; exact nS_new
  replace h := lt_i e1 h; replace h := lt_i e2 h; replace h := lt_i e3 h; clear e1 e2 e3
  refine gw.gen (fun c6 s7 ec es => ?_)
  replace hc := cnt_step hc hc0 ec; replace hs := cnt_step hs hs0 es; clear hc0 hs0 ec es
  obtain ⟨k8, h⟩ := kd_s h
  refine g_putRF (fty := .array (.object "StandInMill$StandMethod")) 1 hE kc_Dr k8 (Nat.le_of_ble_eq_true rfl) rfl m_13 rfl (by decide +kernel) rfl d_Dr_init_10 rfl rfl (fun S9 e => ?_)
  replace k5 : sK S9 a3 = 63 := by rw [← e]; exact k5
  replace k8 : sK S9 o = 3 := by rw [← e]; exact k8
  replace h := lt_i e h; clear e
  refine g_aload_n (i := 0) hE d_Dr_init_13 rfl rfl ?_
  obtain ⟨dc0, ds0, h, hc0, hs0⟩ := ac_s h
  refine g_new hE kc_Rw kn_Rw m_14 m_15 m_16 (cnt_room hmc hc hc0) (cnt_room hms hs hs0) d_Dr_init_14 (fun S10 d11 a12 e1 e2 e3 => ?_)
  have k13 : sK S10 a12 = 2 := by rw [← e1, ← e3]; exact nS_new
  replace h := lt_i e1 h; replace h := lt_i e2 h; replace h := lt_i e3 h; clear e1 e2 e3
  refine gw.gen (fun c14 s15 ec es => ?_)
  replace hc := cnt_step hc hc0 ec; replace hs := cnt_step hs hs0 es; clear hc0 hs0 ec es
  refine g_dupr hE d_Dr_init_17 ?_
  refine g_bipush hE d_Dr_init_18 kb_16 ?_
  obtain ⟨x16, S18, d19, n20, n21, dc0, ds0, e17, h, hc0, hs0⟩ := bdA_s h
  refine g_callI (av := [.inr (.inr (some a12)), .inl 16]) (as := [.inl 16]) (stk := [va_rf (some a12), va_rf (some o)]) [va_rf (some a12), va_rf (some o)] hE (c_Rw_init (xl X) (xG X) e17) ky_Rw_init ⟨Nat.le_of_ble_eq_true rfl, Nat.le_of_ble_eq_true rfl⟩ rfl m_17 m_18 rfl rfl d_Dr_init_20 rfl rfl (Nat.le_trans (ct_r (ct_r ct_n)) (Nat.le_of_ble_eq_true rfl)) (cnt_room hmc hc hc0) (cnt_room hms hs hs0) ?_
  refine gw.gen (fun c22 s23 ec es => ?_)
  replace hc := cnt_step hc hc0 ec; replace hs := cnt_step hs hs0 es; clear hc0 hs0 ec es
  obtain ⟨k24, h⟩ := kd_s h
  refine g_putRF (fty := .object "StandInMill$ClassRow") 3 hE kc_Dr k24 (Nat.le_of_ble_eq_true rfl) rfl m_19 rfl (by decide +kernel) rfl d_Dr_init_23 rfl rfl (fun S25 e => ?_)
  replace k24 : sK S25 o = 3 := by rw [← e]; exact k24
  replace h := lt_i e h; clear e
  refine g_aload_n (i := 0) hE d_Dr_init_26 rfl rfl ?_
  refine g_aload_n (i := 1) hE d_Dr_init_27 rfl rfl ?_
  refine g_putRF (fty := .object "StandInMill$Types") 0 hE kc_Dr k24 (Nat.le_of_ble_eq_true rfl) rfl m_20 rfl (by decide +kernel) rfl d_Dr_init_28 rfl rfl (fun S26 e => ?_)
  replace k24 : sK S26 o = 3 := by rw [← e]; exact k24
  replace h := lt_i e h; clear e
  cases h
  exact g_vret hE d_Dr_init_31 hc hs
theorem d_Uw_init_0 : dc b_Uw_init 0 (.aload_n 0) 1 1 := ⟨by decide +kernel, rfl⟩
theorem d_Uw_init_1 : dc b_Uw_init 1 (.invokespecial 5) 3 4 := ⟨by decide +kernel, rfl⟩
theorem d_Uw_init_4 : dc b_Uw_init 4 (.aload_n 0) 1 5 := ⟨by decide +kernel, rfl⟩
theorem d_Uw_init_5 : dc b_Uw_init 5 (.sipush 292) 3 8 := ⟨by decide +kernel, rfl⟩
theorem d_Uw_init_8 : dc b_Uw_init 8 (.newarray .int) 2 10 := ⟨by decide +kernel, rfl⟩
theorem d_Uw_init_10 : dc b_Uw_init 10 (.putfield 11) 3 13 := ⟨by decide +kernel, rfl⟩
theorem d_Uw_init_13 : dc b_Uw_init 13 (.aload_n 0) 1 14 := ⟨by decide +kernel, rfl⟩
theorem d_Uw_init_14 : dc b_Uw_init 14 (.sipush 512) 3 17 := ⟨by decide +kernel, rfl⟩
theorem d_Uw_init_17 : dc b_Uw_init 17 (.newarray .byte) 2 19 := ⟨by decide +kernel, rfl⟩
theorem d_Uw_init_19 : dc b_Uw_init 19 (.putfield 15) 3 22 := ⟨by decide +kernel, rfl⟩
theorem d_Uw_init_22 : dc b_Uw_init 22 (.aload_n 0) 1 23 := ⟨by decide +kernel, rfl⟩
theorem d_Uw_init_23 : dc b_Uw_init 23 (.sipush 3200) 3 26 := ⟨by decide +kernel, rfl⟩
theorem d_Uw_init_26 : dc b_Uw_init 26 (.newarray .byte) 2 28 := ⟨by decide +kernel, rfl⟩
theorem d_Uw_init_28 : dc b_Uw_init 28 (.putfield 19) 3 31 := ⟨by decide +kernel, rfl⟩
theorem d_Uw_init_31 : dc b_Uw_init 31 (.return_) 1 32 := ⟨by decide +kernel, rfl⟩
set_option maxRecDepth 100000 in
def f_Uw_init (S : gS) (d : gD) (o : Nat) : Option ((Unit × gS × gD) × Nat × Nat) :=
  nl 292 <|
  ac 1 ((292 : Int32).toNatClampNeg) <|
  lt_ (nS S 50 ((292 : Int32).toNatClampNeg)) fun S1 =>
  lt_ (nD S d) fun d2 =>
  lt_ (sZ S) fun a3 =>
  kd S1 o 9 <|
  lt_ (wP S1 o 0 (some a3)) fun S9 =>
  nl 512 <|
  ac 1 ((512 : Int32).toNatClampNeg) <|
  lt_ (nS S9 52 ((512 : Int32).toNatClampNeg)) fun S10 =>
  lt_ (nD S9 d2) fun d11 =>
  lt_ (sZ S9) fun a12 =>
  kd S10 o 9 <|
  lt_ (wP S10 o 2 (some a12)) fun S18 =>
  nl 3200 <|
  ac 1 ((3200 : Int32).toNatClampNeg) <|
  lt_ (nS S18 52 ((3200 : Int32).toNatClampNeg)) fun S19 =>
  lt_ (nD S18 d11) fun d20 =>
  lt_ (sZ S18) fun a21 =>
  kd S19 o 9 <|
  lt_ (wP S19 o 4 (some a21)) fun S27 =>
  some (((), S27, d20), 0, 0)
set_option maxRecDepth 100000 in
set_option maxHeartbeats 4000000 in
theorem c_Uw_init (l : Launch) (G : gG) {S : gS} {d : gD} {o : Nat} {r : Unit} {d' : gD} {S' : gS} {dc ds : Nat} (h : f_Uw_init S d o = some ((r, S', d'), dc, ds)) : GM l G y_Uw_init b_Uw_init 1 none 1 20 dc ds [.inr (.inr (some o))] S d (none) S' d' := by
  refine GM.of (by decide) (Nat.le_of_ble_eq_true rfl) ?_
  intro X hl0 hG0 hR0 hE0
  have hE : gE X b_Uw_init 1 "StandInMill$UnitWriter" none "<init>" 1 20 := hE0
  have hmc : (xR X).cells = dc := by rw [hR0]
  have hms : (xR X).slots = ds := by rw [hR0]
  obtain ⟨mc, emc⟩ : ∃ z, z = dc := ⟨_, rfl⟩
  obtain ⟨ms, ems⟩ : ∃ z, z = ds := ⟨_, rfl⟩
  rw [← emc] at hmc
  rw [← ems] at hms
  have hc : 0 + dc = mc := by omega
  have hs : 0 + ds = ms := by omega
  show gw X 0 0 (gQ X _ _ _ dc ds) _ _ _ _ _
  rw [← emc, ← ems]
  clear hR0 emc ems
  unfold f_Uw_init at h
  refine gw.less (lv' := [some (va_rf (some o))]) (And.intro rfl trivial) ?_
  refine g_aload_n (i := 0) hE d_Uw_init_0 rfl rfl ?_
  refine g_objInit hE m_21 m_1 m_2 ⟨Nat.le_of_ble_eq_true rfl, Nat.le_of_ble_eq_true rfl⟩ ct_0 d_Uw_init_1 ?_
  refine g_aload_n (i := 0) hE d_Uw_init_4 rfl rfl ?_
  refine g_sipush hE d_Uw_init_5 ks_292 ?_
  obtain ⟨g4, h⟩ := nl_s h
  obtain ⟨dc0, ds0, h, hc0, hs0⟩ := ac_s h
  refine g_newa (κ := 50) hE rfl (by decide) (fun _ => rfl) (fun _ _ h => h) (by decide) m_9 g4 (cnt_room hmc hc hc0) (cnt_room hms hs hs0) d_Uw_init_8 (fun S1 d2 a3 e1 e2 e3 => ?_)
  have k5 : sK S1 a3 = 50 := by rw [← e1, ← e3]; exact nS_new
  replace h := lt_i e1 h; replace h := lt_i e2 h; replace h := lt_i e3 h; clear e1 e2 e3
  refine gw.gen (fun c6 s7 ec es => ?_)
  replace hc := cnt_step hc hc0 ec; replace hs := cnt_step hs hs0 es; clear hc0 hs0 ec es
  obtain ⟨k8, h⟩ := kd_s h
  refine g_putRF (fty := .array (.int)) 0 hE kc_Uw k8 (Nat.le_of_ble_eq_true rfl) rfl m_22 rfl (by decide +kernel) rfl d_Uw_init_10 rfl rfl (fun S9 e => ?_)
  replace k5 : sK S9 a3 = 50 := by rw [← e]; exact k5
  replace k8 : sK S9 o = 9 := by rw [← e]; exact k8
  replace h := lt_i e h; clear e
  refine g_aload_n (i := 0) hE d_Uw_init_13 rfl rfl ?_
  refine g_sipush hE d_Uw_init_14 ks_512 ?_
  obtain ⟨g13, h⟩ := nl_s h
  obtain ⟨dc0, ds0, h, hc0, hs0⟩ := ac_s h
  refine g_newa (κ := 52) hE rfl (by decide) (fun _ => rfl) (fun _ _ h => h) (by decide) m_23 g13 (cnt_room hmc hc hc0) (cnt_room hms hs hs0) d_Uw_init_17 (fun S10 d11 a12 e1 e2 e3 => ?_)
  have k14 : sK S10 a12 = 52 := by rw [← e1, ← e3]; exact nS_new
  replace h := lt_i e1 h; replace h := lt_i e2 h; replace h := lt_i e3 h; clear e1 e2 e3
  refine gw.gen (fun c15 s16 ec es => ?_)
  replace hc := cnt_step hc hc0 ec; replace hs := cnt_step hs hs0 es; clear hc0 hs0 ec es
  obtain ⟨k17, h⟩ := kd_s h
  refine g_putRF (fty := .array (.byte)) 2 hE kc_Uw k17 (Nat.le_of_ble_eq_true rfl) rfl m_24 rfl (by decide +kernel) rfl d_Uw_init_19 rfl rfl (fun S18 e => ?_)
  replace k14 : sK S18 a12 = 52 := by rw [← e]; exact k14
  replace k17 : sK S18 o = 9 := by rw [← e]; exact k17
  replace h := lt_i e h; clear e
  refine g_aload_n (i := 0) hE d_Uw_init_22 rfl rfl ?_
  refine g_sipush hE d_Uw_init_23 ks_3200 ?_
  obtain ⟨g22, h⟩ := nl_s h
  obtain ⟨dc0, ds0, h, hc0, hs0⟩ := ac_s h
  refine g_newa (κ := 52) hE rfl (by decide) (fun _ => rfl) (fun _ _ h => h) (by decide) m_23 g22 (cnt_room hmc hc hc0) (cnt_room hms hs hs0) d_Uw_init_26 (fun S19 d20 a21 e1 e2 e3 => ?_)
  have k23 : sK S19 a21 = 52 := by rw [← e1, ← e3]; exact nS_new
  replace h := lt_i e1 h; replace h := lt_i e2 h; replace h := lt_i e3 h; clear e1 e2 e3
  refine gw.gen (fun c24 s25 ec es => ?_)
  replace hc := cnt_step hc hc0 ec; replace hs := cnt_step hs hs0 es; clear hc0 hs0 ec es
  obtain ⟨k26, h⟩ := kd_s h
  refine g_putRF (fty := .array (.byte)) 4 hE kc_Uw k26 (Nat.le_of_ble_eq_true rfl) rfl m_25 rfl (by decide +kernel) rfl d_Uw_init_28 rfl rfl (fun S27 e => ?_)
  replace k23 : sK S27 a21 = 52 := by rw [← e]; exact k23
  replace k26 : sK S27 o = 9 := by rw [← e]; exact k26
  replace h := lt_i e h; clear e
  cases h
  exact g_vret hE d_Uw_init_31 hc hs
theorem d_Om_init_0 : dc b_Om_init 0 (.aload_n 0) 1 1 := ⟨by decide +kernel, rfl⟩
theorem d_Om_init_1 : dc b_Om_init 1 (.invokespecial 3) 3 4 := ⟨by decide +kernel, rfl⟩
theorem d_Om_init_4 : dc b_Om_init 4 (.aload_n 0) 1 5 := ⟨by decide +kernel, rfl⟩
theorem d_Om_init_5 : dc b_Om_init 5 (.new 9) 3 8 := ⟨by decide +kernel, rfl⟩
theorem d_Om_init_8 : dc b_Om_init 8 (.dup) 1 9 := ⟨by decide +kernel, rfl⟩
theorem d_Om_init_9 : dc b_Om_init 9 (.iconst 3) 1 10 := ⟨by decide +kernel, rfl⟩
theorem d_Om_init_10 : dc b_Om_init 10 (.invokespecial 11) 3 13 := ⟨by decide +kernel, rfl⟩
theorem d_Om_init_13 : dc b_Om_init 13 (.putfield 14) 3 16 := ⟨by decide +kernel, rfl⟩
theorem d_Om_init_16 : dc b_Om_init 16 (.aload_n 0) 1 17 := ⟨by decide +kernel, rfl⟩
theorem d_Om_init_17 : dc b_Om_init 17 (.iload_n 1) 1 18 := ⟨by decide +kernel, rfl⟩
theorem d_Om_init_18 : dc b_Om_init 18 (.putfield 20) 3 21 := ⟨by decide +kernel, rfl⟩
theorem d_Om_init_21 : dc b_Om_init 21 (.aload_n 0) 1 22 := ⟨by decide +kernel, rfl⟩
theorem d_Om_init_22 : dc b_Om_init 22 (.iload_n 2) 1 23 := ⟨by decide +kernel, rfl⟩
theorem d_Om_init_23 : dc b_Om_init 23 (.putfield 24) 3 26 := ⟨by decide +kernel, rfl⟩
theorem d_Om_init_26 : dc b_Om_init 26 (.aload_n 0) 1 27 := ⟨by decide +kernel, rfl⟩
theorem d_Om_init_27 : dc b_Om_init 27 (.iload_n 3) 1 28 := ⟨by decide +kernel, rfl⟩
theorem d_Om_init_28 : dc b_Om_init 28 (.putfield 27) 3 31 := ⟨by decide +kernel, rfl⟩
theorem d_Om_init_31 : dc b_Om_init 31 (.aload_n 0) 1 32 := ⟨by decide +kernel, rfl⟩
theorem d_Om_init_32 : dc b_Om_init 32 (.iload 4) 2 34 := ⟨by decide +kernel, rfl⟩
theorem d_Om_init_34 : dc b_Om_init 34 (.putfield 30) 3 37 := ⟨by decide +kernel, rfl⟩
theorem d_Om_init_37 : dc b_Om_init 37 (.aload_n 0) 1 38 := ⟨by decide +kernel, rfl⟩
theorem d_Om_init_38 : dc b_Om_init 38 (.iload 5) 2 40 := ⟨by decide +kernel, rfl⟩
theorem d_Om_init_40 : dc b_Om_init 40 (.putfield 33) 3 43 := ⟨by decide +kernel, rfl⟩
theorem d_Om_init_43 : dc b_Om_init 43 (.return_) 1 44 := ⟨by decide +kernel, rfl⟩
set_option maxRecDepth 100000 in
def f_Om_init (S : gS) (d : gD) (o : Nat) (v1 : Int32) (v2 : Int32) (v3 : Int32) (v4 : Int32) (v5 : Int32) : Option ((Unit × gS × gD) × Nat × Nat) :=
  ac 1 2 <|
  lt_ (nS S 2 0) fun S1 =>
  lt_ (nD S d) fun d2 =>
  lt_ (sZ S) fun a3 =>
  bdA (f_Rw_init S1 d2 a3 3) fun _ S9 d10 =>
  kd S9 o 5 <|
  lt_ (wP S9 o 5 (some a3)) fun S16 =>
  lt_ (wI d10 o 0 v1) fun d17 =>
  lt_ (wI d17 o 1 v2) fun d18 =>
  lt_ (wI d18 o 2 v3) fun d19 =>
  lt_ (wI d19 o 3 v4) fun d20 =>
  lt_ (wI d20 o 4 v5) fun d21 =>
  some (((), S16, d21), 0, 0)
set_option maxRecDepth 100000 in
set_option maxHeartbeats 4000000 in
theorem c_Om_init (l : Launch) (G : gG) {S : gS} {d : gD} {o : Nat} {v1 : Int32} {v2 : Int32} {v3 : Int32} {v4 : Int32} {v5 : Int32} {r : Unit} {d' : gD} {S' : gS} {dc ds : Nat} (h : f_Om_init S d o v1 v2 v3 v4 v5 = some ((r, S', d'), dc, ds)) : GM l G y_Om_init b_Om_init 6 none 2 41 dc ds [.inr (.inr (some o)), .inl v1, .inl v2, .inl v3, .inl v4, .inl v5] S d (none) S' d' := by
  refine GM.of (by decide) (Nat.le_of_ble_eq_true rfl) ?_
  intro X hl0 hG0 hR0 hE0
  have hE : gE X b_Om_init 6 "StandInMill$OwnMethod" none "<init>" 2 41 := hE0
  have hmc : (xR X).cells = dc := by rw [hR0]
  have hms : (xR X).slots = ds := by rw [hR0]
  obtain ⟨mc, emc⟩ : ∃ z, z = dc := ⟨_, rfl⟩
  obtain ⟨ms, ems⟩ : ∃ z, z = ds := ⟨_, rfl⟩
  rw [← emc] at hmc
  rw [← ems] at hms
  have hc : 0 + dc = mc := by omega
  have hs : 0 + ds = ms := by omega
  show gw X 0 0 (gQ X _ _ _ dc ds) _ _ _ _ _
  rw [← emc, ← ems]
  clear hR0 emc ems
  unfold f_Om_init at h
  refine gw.less (lv' := [some (va_rf (some o)), some (.int v1), some (.int v2), some (.int v3), some (.int v4), some (.int v5)]) (And.intro rfl (And.intro rfl (And.intro rfl (And.intro rfl (And.intro rfl (And.intro rfl trivial)))))) ?_
  refine g_aload_n (i := 0) hE d_Om_init_0 rfl rfl ?_
  refine g_objInit hE m_26 m_1 m_2 ⟨Nat.le_of_ble_eq_true rfl, Nat.le_of_ble_eq_true rfl⟩ ct_0 d_Om_init_1 ?_
  refine g_aload_n (i := 0) hE d_Om_init_4 rfl rfl ?_
  obtain ⟨dc0, ds0, h, hc0, hs0⟩ := ac_s h
  refine g_new hE kc_Rw kn_Rw m_27 m_15 m_16 (cnt_room hmc hc hc0) (cnt_room hms hs hs0) d_Om_init_5 (fun S1 d2 a3 e1 e2 e3 => ?_)
  have k4 : sK S1 a3 = 2 := by rw [← e1, ← e3]; exact nS_new
  replace h := lt_i e1 h; replace h := lt_i e2 h; replace h := lt_i e3 h; clear e1 e2 e3
  refine gw.gen (fun c5 s6 ec es => ?_)
  replace hc := cnt_step hc hc0 ec; replace hs := cnt_step hs hs0 es; clear hc0 hs0 ec es
  refine g_dupr hE d_Om_init_8 ?_
  refine g_iconst hE d_Om_init_9 ki_3 ?_
  obtain ⟨x7, S9, d10, n11, n12, dc0, ds0, e8, h, hc0, hs0⟩ := bdA_s h
  refine g_callI (av := [.inr (.inr (some a3)), .inl 3]) (as := [.inl 3]) (stk := [va_rf (some a3), va_rf (some o)]) [va_rf (some a3), va_rf (some o)] hE (c_Rw_init (xl X) (xG X) e8) ky_Rw_init ⟨Nat.le_of_ble_eq_true rfl, Nat.le_of_ble_eq_true rfl⟩ rfl m_28 m_18 rfl rfl d_Om_init_10 rfl rfl (Nat.le_trans (ct_r (ct_r ct_n)) (Nat.le_of_ble_eq_true rfl)) (cnt_room hmc hc hc0) (cnt_room hms hs hs0) ?_
  refine gw.gen (fun c13 s14 ec es => ?_)
  replace hc := cnt_step hc hc0 ec; replace hs := cnt_step hs hs0 es; clear hc0 hs0 ec es
  obtain ⟨k15, h⟩ := kd_s h
  refine g_putRF (fty := .object "StandInMill$ClassRow") 5 hE kc_Om k15 (Nat.le_of_ble_eq_true rfl) rfl m_29 rfl (by decide +kernel) rfl d_Om_init_13 rfl rfl (fun S16 e => ?_)
  replace k15 : sK S16 o = 5 := by rw [← e]; exact k15
  replace h := lt_i e h; clear e
  refine g_aload_n (i := 0) hE d_Om_init_16 rfl rfl ?_
  refine g_iload_n (i := 1) hE d_Om_init_17 rfl rfl ?_
  refine g_putIF 0 hE kc_Om k15 (Nat.le_of_ble_eq_true rfl) rfl m_30 rfl (by decide +kernel) d_Om_init_18 rfl rfl (fun d17 e => ?_)
  replace h := lt_i e h; clear e
  refine g_aload_n (i := 0) hE d_Om_init_21 rfl rfl ?_
  refine g_iload_n (i := 2) hE d_Om_init_22 rfl rfl ?_
  refine g_putIF 1 hE kc_Om k15 (Nat.le_of_ble_eq_true rfl) rfl m_31 rfl (by decide +kernel) d_Om_init_23 rfl rfl (fun d18 e => ?_)
  replace h := lt_i e h; clear e
  refine g_aload_n (i := 0) hE d_Om_init_26 rfl rfl ?_
  refine g_iload_n (i := 3) hE d_Om_init_27 rfl rfl ?_
  refine g_putIF 2 hE kc_Om k15 (Nat.le_of_ble_eq_true rfl) rfl m_32 rfl (by decide +kernel) d_Om_init_28 rfl rfl (fun d19 e => ?_)
  replace h := lt_i e h; clear e
  refine g_aload_n (i := 0) hE d_Om_init_31 rfl rfl ?_
  refine g_iload (i := 4) hE d_Om_init_32 rfl ?_
  refine g_putIF 3 hE kc_Om k15 (Nat.le_of_ble_eq_true rfl) rfl m_33 rfl (by decide +kernel) d_Om_init_34 rfl rfl (fun d20 e => ?_)
  replace h := lt_i e h; clear e
  refine g_aload_n (i := 0) hE d_Om_init_37 rfl rfl ?_
  refine g_iload (i := 5) hE d_Om_init_38 rfl ?_
  refine g_putIF 4 hE kc_Om k15 (Nat.le_of_ble_eq_true rfl) rfl m_34 rfl (by decide +kernel) d_Om_init_40 rfl rfl (fun d21 e => ?_)
  replace h := lt_i e h; clear e
  cases h
  exact g_vret hE d_Om_init_43 hc hs
theorem d_Ar_fillJ_0 : dc b_Ar_fillJ 0 (.iconst 0) 1 1 := ⟨by decide +kernel, rfl⟩
theorem d_Ar_fillJ_1 : dc b_Ar_fillJ 1 (.istore_n 3) 1 2 := ⟨by decide +kernel, rfl⟩
theorem d_Ar_fillJ_2 : dc b_Ar_fillJ 2 (.aload_n 0) 1 3 := ⟨by decide +kernel, rfl⟩
theorem d_Ar_fillJ_3 : dc b_Ar_fillJ 3 (.arraylength) 1 4 := ⟨by decide +kernel, rfl⟩
theorem d_Ar_fillJ_4 : dc b_Ar_fillJ 4 (.istore 4) 2 6 := ⟨by decide +kernel, rfl⟩
theorem d_Ar_fillJ_6 : dc b_Ar_fillJ 6 (.iload_n 3) 1 7 := ⟨by decide +kernel, rfl⟩
theorem d_Ar_fillJ_7 : dc b_Ar_fillJ 7 (.iload 4) 2 9 := ⟨by decide +kernel, rfl⟩
theorem d_Ar_fillJ_9 : db b_Ar_fillJ 9 (.if_icmp .ge 13) 13 22 12 := ⟨by decide +kernel, by decide, rfl⟩
theorem d_Ar_fillJ_12 : dc b_Ar_fillJ 12 (.aload_n 0) 1 13 := ⟨by decide +kernel, rfl⟩
theorem d_Ar_fillJ_13 : dc b_Ar_fillJ 13 (.iload_n 3) 1 14 := ⟨by decide +kernel, rfl⟩
theorem d_Ar_fillJ_14 : dc b_Ar_fillJ 14 (.lload_n 1) 1 15 := ⟨by decide +kernel, rfl⟩
theorem d_Ar_fillJ_15 : dc b_Ar_fillJ 15 (.lastore) 1 16 := ⟨by decide +kernel, rfl⟩
theorem d_Ar_fillJ_16 : dc b_Ar_fillJ 16 (.iinc 3 1) 3 19 := ⟨by decide +kernel, rfl⟩
theorem d_Ar_fillJ_19 : db b_Ar_fillJ 19 (.goto (-13)) (-13) 6 22 := ⟨by decide +kernel, by decide, rfl⟩
theorem d_Ar_fillJ_22 : dc b_Ar_fillJ 22 (.return_) 1 23 := ⟨by decide +kernel, rfl⟩
def f_Ar_fillJ_B6 (S : gS) (kb : gD → Option Nat → Int64 → Int32 → Int32 → Option (Unit × gD)) (d : gD) (v0 : Option Nat) (v1 : Int64) (v3 : Int32) (v4 : Int32) : Option (Unit × gD) :=
  if v4 ≤ v3 then (
    some ((), d))
  else (
    nn v0 fun a1 =>
    kd S a1 51 <|
    gi v3 (sN S a1) <|
    lt_ (wL d a1 v3.toNatClampNeg v1) fun d4 =>
    kb d4 (some a1) v1 (v3 + 1) v4)
set_option maxRecDepth 100000 in
set_option maxHeartbeats 4000000 in
theorem w_Ar_fillJ_B6 {X : GX} (hE : gE X b_Ar_fillJ 5 "java/util/Arrays" none "fill" 0 0) {S : gS} {r : Unit} {d' : gD} {kb : gD → Option Nat → Int64 → Int32 → Int32 → Option (Unit × gD)} (hkb : ∀ (d : gD) (v0 : Option Nat) (v1 : Int64) (v3 : Int32) (v4 : Int32), kb d v0 v1 v3 v4 = some (r, d') → gw X 0 0 (gQ X (none) S d' 0 0) S d 6 [some (va_rf v0), some (.long v1), none, some (.int v3), some (.int v4)] []) :
    ∀ (d : gD) (v0 : Option Nat) (v1 : Int64) (v3 : Int32) (v4 : Int32), f_Ar_fillJ_B6 S kb d v0 v1 v3 v4 = some (r, d') → gw X 0 0 (gQ X (none) S d' 0 0) S d 6 [some (va_rf v0), some (.long v1), none, some (.int v3), some (.int v4)] [] := by
  intro d v0 v1 v3 v4 h
  unfold f_Ar_fillJ_B6 at h
  refine g_iload_n (i := 3) hE d_Ar_fillJ_6 rfl rfl ?_
  refine g_iload (i := 4) hE d_Ar_fillJ_7 rfl ?_
  refine g_icmp_ge hE d_Ar_fillJ_9 (fun c5 => ?_) (fun c5 => ?_)
  · replace h := if_t c5 h
    cases h
    exact g_vret hE d_Ar_fillJ_22 rfl rfl
  · replace h := if_f c5 h
    refine g_aload_n (i := 0) hE d_Ar_fillJ_12 rfl rfl ?_
    refine g_iload_n (i := 3) hE d_Ar_fillJ_13 rfl rfl ?_
    refine g_lload_n (i := 1) hE d_Ar_fillJ_14 rfl rfl ?_
    obtain ⟨a1, rfl, h⟩ := nn_s h
    obtain ⟨k2, h⟩ := kd_s h
    obtain ⟨g3, h⟩ := gi_s h
    refine g_last hE k2 g3 d_Ar_fillJ_15 (fun d4 e => ?_)
    replace h := lt_i e h; clear e
    refine g_iinc (i := 3) (lv' := [some (va_rf (some a1)), some (.long v1), none, some (.int (v3 + 1)), some (.int v4)]) hE d_Ar_fillJ_16 ki_1 rfl (Nat.le_of_ble_eq_true rfl) ⟨rfl, Nat.le_of_ble_eq_true rfl⟩ (lvp_n rfl) ?_
    refine g_goto hE d_Ar_fillJ_19 ?_
    exact gw.less (lv' := [some (va_rf (some a1)), some (.long v1), none, some (.int (v3 + 1)), some (.int v4)]) (And.intro rfl (And.intro rfl (And.intro rfl (And.intro rfl trivial)))) (hkb d4 (some a1) v1 (v3 + 1) v4 h)
theorem w_Ar_fillJ_L6 {X : GX} (hE : gE X b_Ar_fillJ 5 "java/util/Arrays" none "fill" 0 0) {S : gS} {r : Unit} {d' : gD} : ∀ (n : Nat) (d : gD) (v0 : Option Nat) (v1 : Int64) (v3 : Int32) (v4 : Int32), itr (f_Ar_fillJ_B6 S) (fun _ _ _ _ _ => none) n d v0 v1 v3 v4 = some (r, d') → gw X 0 0 (gQ X (none) S d' 0 0) S d 6 [some (va_rf v0), some (.long v1), none, some (.int v3), some (.int v4)] [] := by
  intro n
  induction n with
  | zero => intro d v0 v1 v3 v4 h; cases h
  | succ n ih => exact w_Ar_fillJ_B6 hE ih
set_option maxRecDepth 100000 in
def f_Ar_fillJ (S : gS) (d : gD) (v0 : Option Nat) (v1 : Int64) : Option (Unit × gD) :=
  nn v0 fun a1 =>
  kd S a1 51 <|
  itr (f_Ar_fillJ_B6 S) (fun _ _ _ _ _ => none) fu d (some a1) v1 0 (Int32.ofNat (sN S a1))
set_option maxRecDepth 100000 in
set_option maxHeartbeats 4000000 in
theorem c_Ar_fillJ (l : Launch) (G : gG) {S : gS} {d : gD} {v0 : Option Nat} {v1 : Int64} {r : Unit} {d' : gD} (h : f_Ar_fillJ S d v0 v1 = some (r, d')) : GM l G y_Ar_fillJ b_Ar_fillJ 5 none 0 0 0 0 [.inr (.inr v0), .inr (.inl v1)] S d (none) S d' := by
  refine GM.of (by decide) (Nat.le_of_ble_eq_true rfl) ?_
  intro X hl0 hG0 hR0 hE0
  have hE : gE X b_Ar_fillJ 5 "java/util/Arrays" none "fill" 0 0 := hE0
  unfold f_Ar_fillJ at h
  refine gw.less (lv' := [some (va_rf v0), some (.long v1), none, none, none]) (And.intro rfl (And.intro rfl trivial)) ?_
  refine g_iconst hE d_Ar_fillJ_0 ki_0 ?_
  refine g_istore_n (i := 3) (lv' := [some (va_rf v0), some (.long v1), none, some (.int 0), none]) hE d_Ar_fillJ_1 rfl (Nat.le_of_ble_eq_true rfl) ⟨rfl, Nat.le_of_ble_eq_true rfl⟩ (lvp_n rfl) ?_
  refine g_aload_n (i := 0) hE d_Ar_fillJ_2 rfl rfl ?_
  obtain ⟨a1, rfl, h⟩ := nn_s h
  obtain ⟨k2, h⟩ := kd_s h
  refine g_alen hE k2 (by decide) d_Ar_fillJ_3 ?_
  refine g_istore (i := 4) (lv' := [some (va_rf (some a1)), some (.long v1), none, some (.int 0), some (.int (Int32.ofNat (sN S a1)))]) hE d_Ar_fillJ_4 (Nat.le_of_ble_eq_true rfl) ⟨rfl, Nat.le_of_ble_eq_true rfl⟩ (lvp_i rfl) ?_
  exact gw.less (lv' := [some (va_rf (some a1)), some (.long v1), none, some (.int 0), some (.int (Int32.ofNat (sN S a1)))]) (And.intro rfl (And.intro rfl (And.intro rfl (And.intro rfl trivial)))) (w_Ar_fillJ_L6 hE fu d (some a1) v1 0 (Int32.ofNat (sN S a1)) h)
