theorem d_Sm_init_0 : dc b_Sm_init 0 (.aload_n 0) 1 1 := ⟨by decide +kernel, rfl⟩
theorem d_Sm_init_1 : dc b_Sm_init 1 (.invokespecial 3) 3 4 := ⟨by decide +kernel, rfl⟩
theorem d_Sm_init_4 : dc b_Sm_init 4 (.aload_n 0) 1 5 := ⟨by decide +kernel, rfl⟩
theorem d_Sm_init_5 : dc b_Sm_init 5 (.new 9) 3 8 := ⟨by decide +kernel, rfl⟩
theorem d_Sm_init_8 : dc b_Sm_init 8 (.dup) 1 9 := ⟨by decide +kernel, rfl⟩
theorem d_Sm_init_9 : dc b_Sm_init 9 (.bipush 16) 2 11 := ⟨by decide +kernel, rfl⟩
theorem d_Sm_init_11 : dc b_Sm_init 11 (.invokespecial 11) 3 14 := ⟨by decide +kernel, rfl⟩
theorem d_Sm_init_14 : dc b_Sm_init 14 (.putfield 14) 3 17 := ⟨by decide +kernel, rfl⟩
theorem d_Sm_init_17 : dc b_Sm_init 17 (.aload_n 0) 1 18 := ⟨by decide +kernel, rfl⟩
theorem d_Sm_init_18 : dc b_Sm_init 18 (.new 9) 3 21 := ⟨by decide +kernel, rfl⟩
theorem d_Sm_init_21 : dc b_Sm_init 21 (.dup) 1 22 := ⟨by decide +kernel, rfl⟩
theorem d_Sm_init_22 : dc b_Sm_init 22 (.bipush 16) 2 24 := ⟨by decide +kernel, rfl⟩
theorem d_Sm_init_24 : dc b_Sm_init 24 (.invokespecial 11) 3 27 := ⟨by decide +kernel, rfl⟩
theorem d_Sm_init_27 : dc b_Sm_init 27 (.putfield 20) 3 30 := ⟨by decide +kernel, rfl⟩
theorem d_Sm_init_30 : dc b_Sm_init 30 (.return_) 1 31 := ⟨by decide +kernel, rfl⟩
set_option maxRecDepth 100000 in
def f_Sm_init (S : gS) (d : gD) (o : Nat) : Option ((Unit × gS × gD) × Nat × Nat) :=
  ac 1 2 <|
  lt_ (nS S 2 0) fun S1 =>
  lt_ (nD S d) fun d2 =>
  lt_ (sZ S) fun a3 =>
  bdA (f_Rw_init S1 d2 a3 16) fun _ S9 d10 =>
  kd S9 o 7 <|
  lt_ (wP S9 o 1 (some a3)) fun S16 =>
  ac 1 2 <|
  lt_ (nS S16 2 0) fun S17 =>
  lt_ (nD S16 d10) fun d18 =>
  lt_ (sZ S16) fun a19 =>
  bdA (f_Rw_init S17 d18 a19 16) fun _ S25 d26 =>
  kd S25 o 7 <|
  lt_ (wP S25 o 2 (some a19)) fun S32 =>
  some (((), S32, d26), 0, 0)
set_option maxRecDepth 100000 in
set_option maxHeartbeats 4000000 in
theorem c_Sm_init (l : Launch) (G : gG) {S : gS} {d : gD} {o : Nat} {r : Unit} {d' : gD} {S' : gS} {dc ds : Nat} (h : f_Sm_init S d o = some ((r, S', d'), dc, ds)) : GM l G y_Sm_init b_Sm_init 1 none 2 41 dc ds [.inr (.inr (some o))] S d (none) S' d' := by
  refine GM.of (by decide) (Nat.le_of_ble_eq_true rfl) ?_
  intro X hl0 hG0 hR0 hE0
  have hE : gE X b_Sm_init 1 "StandInMill$StandMethod" none "<init>" 2 41 := hE0
  have hmc : (xR X).cells = dc := by rw [hR0]
  have hms : (xR X).slots = ds := by rw [hR0]
  obtain ⟨mc, emc⟩ : ∃ z, z = dc := ⟨_, rfl⟩
  obtain ⟨ms, ems⟩ : ∃ z, z = ds := ⟨_, rfl⟩
  rw [← emc] at hmc
  rw [← ems] at hms
  have hc : 0 + dc = mc := by omega
  have hs : 0 + ds = ms := by omega
  show gw X 0 0 (gQ X _ _ _ dc ds) _ _ _ _ _
  rw [← emc, ← ems]
  clear hR0 emc ems
  unfold f_Sm_init at h
  refine gw.less (lv' := [some (va_rf (some o))]) (And.intro rfl trivial) ?_
  refine g_aload_n (i := 0) hE d_Sm_init_0 rfl rfl ?_
  refine g_objInit hE m_204 m_1 m_2 ⟨Nat.le_of_ble_eq_true rfl, Nat.le_of_ble_eq_true rfl⟩ ct_0 d_Sm_init_1 ?_
  refine g_aload_n (i := 0) hE d_Sm_init_4 rfl rfl ?_
  obtain ⟨dc0, ds0, h, hc0, hs0⟩ := ac_s h
  refine g_new hE kc_Rw kn_Rw m_205 m_15 m_16 (cnt_room hmc hc hc0) (cnt_room hms hs hs0) d_Sm_init_5 (fun S1 d2 a3 e1 e2 e3 => ?_)
  have k4 : sK S1 a3 = 2 := by rw [← e1, ← e3]; exact nS_new
  replace h := lt_i e1 h; replace h := lt_i e2 h; replace h := lt_i e3 h; clear e1 e2 e3
  refine gw.gen (fun c5 s6 ec es => ?_)
  replace hc := cnt_step hc hc0 ec; replace hs := cnt_step hs hs0 es; clear hc0 hs0 ec es
  refine g_dupr hE d_Sm_init_8 ?_
  refine g_bipush hE d_Sm_init_9 kb_16 ?_
  obtain ⟨x7, S9, d10, n11, n12, dc0, ds0, e8, h, hc0, hs0⟩ := bdA_s h
  refine g_callI (av := [.inr (.inr (some a3)), .inl 16]) (as := [.inl 16]) (stk := [va_rf (some a3), va_rf (some o)]) [va_rf (some a3), va_rf (some o)] hE (c_Rw_init (xl X) (xG X) e8) ky_Rw_init ⟨Nat.le_of_ble_eq_true rfl, Nat.le_of_ble_eq_true rfl⟩ rfl m_206 m_18 rfl rfl d_Sm_init_11 rfl rfl (Nat.le_trans (ct_r (ct_r ct_n)) (Nat.le_of_ble_eq_true rfl)) (cnt_room hmc hc hc0) (cnt_room hms hs hs0) ?_
  refine gw.gen (fun c13 s14 ec es => ?_)
  replace hc := cnt_step hc hc0 ec; replace hs := cnt_step hs hs0 es; clear hc0 hs0 ec es
  obtain ⟨k15, h⟩ := kd_s h
  refine g_putRF (fty := .object "StandInMill$ClassRow") 1 hE kc_Sm k15 (Nat.le_of_ble_eq_true rfl) rfl m_207 rfl (by decide +kernel) rfl d_Sm_init_14 rfl rfl (fun S16 e => ?_)
  replace k15 : sK S16 o = 7 := by rw [← e]; exact k15
  replace h := lt_i e h; clear e
  refine g_aload_n (i := 0) hE d_Sm_init_17 rfl rfl ?_
  obtain ⟨dc0, ds0, h, hc0, hs0⟩ := ac_s h
  refine g_new hE kc_Rw kn_Rw m_205 m_15 m_16 (cnt_room hmc hc hc0) (cnt_room hms hs hs0) d_Sm_init_18 (fun S17 d18 a19 e1 e2 e3 => ?_)
  have k20 : sK S17 a19 = 2 := by rw [← e1, ← e3]; exact nS_new
  replace h := lt_i e1 h; replace h := lt_i e2 h; replace h := lt_i e3 h; clear e1 e2 e3
  refine gw.gen (fun c21 s22 ec es => ?_)
  replace hc := cnt_step hc hc0 ec; replace hs := cnt_step hs hs0 es; clear hc0 hs0 ec es
  refine g_dupr hE d_Sm_init_21 ?_
  refine g_bipush hE d_Sm_init_22 kb_16 ?_
  obtain ⟨x23, S25, d26, n27, n28, dc0, ds0, e24, h, hc0, hs0⟩ := bdA_s h
  refine g_callI (av := [.inr (.inr (some a19)), .inl 16]) (as := [.inl 16]) (stk := [va_rf (some a19), va_rf (some o)]) [va_rf (some a19), va_rf (some o)] hE (c_Rw_init (xl X) (xG X) e24) ky_Rw_init ⟨Nat.le_of_ble_eq_true rfl, Nat.le_of_ble_eq_true rfl⟩ rfl m_206 m_18 rfl rfl d_Sm_init_24 rfl rfl (Nat.le_trans (ct_r (ct_r ct_n)) (Nat.le_of_ble_eq_true rfl)) (cnt_room hmc hc hc0) (cnt_room hms hs hs0) ?_
  refine gw.gen (fun c29 s30 ec es => ?_)
  replace hc := cnt_step hc hc0 ec; replace hs := cnt_step hs hs0 es; clear hc0 hs0 ec es
  obtain ⟨k31, h⟩ := kd_s h
  refine g_putRF (fty := .object "StandInMill$ClassRow") 2 hE kc_Sm k31 (Nat.le_of_ble_eq_true rfl) rfl m_208 rfl (by decide +kernel) rfl d_Sm_init_27 rfl rfl (fun S32 e => ?_)
  replace k31 : sK S32 o = 7 := by rw [← e]; exact k31
  replace h := lt_i e h; clear e
  cases h
  exact g_vret hE d_Sm_init_30 hc hs
theorem d_Dr_insert_0 : dc b_Dr_insert 0 (.aload_n 0) 1 1 := ⟨by decide +kernel, rfl⟩
theorem d_Dr_insert_1 : dc b_Dr_insert 1 (.getfield 30) 3 4 := ⟨by decide +kernel, rfl⟩
theorem d_Dr_insert_4 : dc b_Dr_insert 4 (.aload_n 0) 1 5 := ⟨by decide +kernel, rfl⟩
theorem d_Dr_insert_5 : dc b_Dr_insert 5 (.getfield 11) 3 8 := ⟨by decide +kernel, rfl⟩
theorem d_Dr_insert_8 : dc b_Dr_insert 8 (.arraylength) 1 9 := ⟨by decide +kernel, rfl⟩
theorem d_Dr_insert_9 : db b_Dr_insert 9 (.if_icmp .ne 4) 4 13 12 := ⟨by decide +kernel, by decide, rfl⟩
theorem d_Dr_insert_12 : dc b_Dr_insert 12 (.return_) 1 13 := ⟨by decide +kernel, rfl⟩
theorem d_Dr_insert_13 : dc b_Dr_insert 13 (.aload_n 0) 1 14 := ⟨by decide +kernel, rfl⟩
theorem d_Dr_insert_14 : dc b_Dr_insert 14 (.getfield 11) 3 17 := ⟨by decide +kernel, rfl⟩
theorem d_Dr_insert_17 : dc b_Dr_insert 17 (.aload_n 0) 1 18 := ⟨by decide +kernel, rfl⟩
theorem d_Dr_insert_18 : dc b_Dr_insert 18 (.getfield 30) 3 21 := ⟨by decide +kernel, rfl⟩
theorem d_Dr_insert_21 : dc b_Dr_insert 21 (.aaload) 1 22 := ⟨by decide +kernel, rfl⟩
theorem d_Dr_insert_22 : db b_Dr_insert 22 (.ifnull 15) 15 37 25 := ⟨by decide +kernel, by decide, rfl⟩
theorem d_Dr_insert_25 : dc b_Dr_insert 25 (.aload_n 0) 1 26 := ⟨by decide +kernel, rfl⟩
theorem d_Dr_insert_26 : dc b_Dr_insert 26 (.getfield 11) 3 29 := ⟨by decide +kernel, rfl⟩
theorem d_Dr_insert_29 : dc b_Dr_insert 29 (.aload_n 0) 1 30 := ⟨by decide +kernel, rfl⟩
theorem d_Dr_insert_30 : dc b_Dr_insert 30 (.getfield 30) 3 33 := ⟨by decide +kernel, rfl⟩
theorem d_Dr_insert_33 : dc b_Dr_insert 33 (.aaload) 1 34 := ⟨by decide +kernel, rfl⟩
theorem d_Dr_insert_34 : db b_Dr_insert 34 (.goto 10) 10 44 37 := ⟨by decide +kernel, by decide, rfl⟩
theorem d_Dr_insert_37 : dc b_Dr_insert 37 (.new 9) 3 40 := ⟨by decide +kernel, rfl⟩
theorem d_Dr_insert_40 : dc b_Dr_insert 40 (.dup) 1 41 := ⟨by decide +kernel, rfl⟩
theorem d_Dr_insert_41 : dc b_Dr_insert 41 (.invokespecial 72) 3 44 := ⟨by decide +kernel, rfl⟩
theorem d_Dr_insert_44 : dc b_Dr_insert 44 (.astore_n 3) 1 45 := ⟨by decide +kernel, rfl⟩
theorem d_Dr_insert_45 : dc b_Dr_insert 45 (.aload_n 0) 1 46 := ⟨by decide +kernel, rfl⟩
theorem d_Dr_insert_46 : dc b_Dr_insert 46 (.getfield 30) 3 49 := ⟨by decide +kernel, rfl⟩
theorem d_Dr_insert_49 : dc b_Dr_insert 49 (.istore 4) 2 51 := ⟨by decide +kernel, rfl⟩
theorem d_Dr_insert_51 : dc b_Dr_insert 51 (.iload 4) 2 53 := ⟨by decide +kernel, rfl⟩
theorem d_Dr_insert_53 : dc b_Dr_insert 53 (.iload_n 1) 1 54 := ⟨by decide +kernel, rfl⟩
theorem d_Dr_insert_54 : db b_Dr_insert 54 (.if_icmp .le 25) 25 79 57 := ⟨by decide +kernel, by decide, rfl⟩
theorem d_Dr_insert_57 : dc b_Dr_insert 57 (.aload_n 0) 1 58 := ⟨by decide +kernel, rfl⟩
theorem d_Dr_insert_58 : dc b_Dr_insert 58 (.getfield 11) 3 61 := ⟨by decide +kernel, rfl⟩
theorem d_Dr_insert_61 : dc b_Dr_insert 61 (.iload 4) 2 63 := ⟨by decide +kernel, rfl⟩
theorem d_Dr_insert_63 : dc b_Dr_insert 63 (.aload_n 0) 1 64 := ⟨by decide +kernel, rfl⟩
theorem d_Dr_insert_64 : dc b_Dr_insert 64 (.getfield 11) 3 67 := ⟨by decide +kernel, rfl⟩
theorem d_Dr_insert_67 : dc b_Dr_insert 67 (.iload 4) 2 69 := ⟨by decide +kernel, rfl⟩
theorem d_Dr_insert_69 : dc b_Dr_insert 69 (.iconst 1) 1 70 := ⟨by decide +kernel, rfl⟩
theorem d_Dr_insert_70 : dc b_Dr_insert 70 (.isub) 1 71 := ⟨by decide +kernel, rfl⟩
theorem d_Dr_insert_71 : dc b_Dr_insert 71 (.aaload) 1 72 := ⟨by decide +kernel, rfl⟩
theorem d_Dr_insert_72 : dc b_Dr_insert 72 (.aastore) 1 73 := ⟨by decide +kernel, rfl⟩
theorem d_Dr_insert_73 : dc b_Dr_insert 73 (.iinc 4 (-1)) 3 76 := ⟨by decide +kernel, rfl⟩
theorem d_Dr_insert_76 : db b_Dr_insert 76 (.goto (-25)) (-25) 51 79 := ⟨by decide +kernel, by decide, rfl⟩
theorem d_Dr_insert_79 : dc b_Dr_insert 79 (.aload_n 3) 1 80 := ⟨by decide +kernel, rfl⟩
theorem d_Dr_insert_80 : dc b_Dr_insert 80 (.aload_n 2) 1 81 := ⟨by decide +kernel, rfl⟩
theorem d_Dr_insert_81 : dc b_Dr_insert 81 (.putfield 34) 3 84 := ⟨by decide +kernel, rfl⟩
theorem d_Dr_insert_84 : dc b_Dr_insert 84 (.aload_n 3) 1 85 := ⟨by decide +kernel, rfl⟩
theorem d_Dr_insert_85 : dc b_Dr_insert 85 (.getfield 47) 3 88 := ⟨by decide +kernel, rfl⟩
theorem d_Dr_insert_88 : dc b_Dr_insert 88 (.aload_n 2) 1 89 := ⟨by decide +kernel, rfl⟩
theorem d_Dr_insert_89 : dc b_Dr_insert 89 (.getfield 50) 3 92 := ⟨by decide +kernel, rfl⟩
theorem d_Dr_insert_92 : dc b_Dr_insert 92 (.invokevirtual 59) 3 95 := ⟨by decide +kernel, rfl⟩
theorem d_Dr_insert_95 : dc b_Dr_insert 95 (.aload_n 0) 1 96 := ⟨by decide +kernel, rfl⟩
theorem d_Dr_insert_96 : dc b_Dr_insert 96 (.getfield 11) 3 99 := ⟨by decide +kernel, rfl⟩
theorem d_Dr_insert_99 : dc b_Dr_insert 99 (.iload_n 1) 1 100 := ⟨by decide +kernel, rfl⟩
theorem d_Dr_insert_100 : dc b_Dr_insert 100 (.aload_n 3) 1 101 := ⟨by decide +kernel, rfl⟩
theorem d_Dr_insert_101 : dc b_Dr_insert 101 (.aastore) 1 102 := ⟨by decide +kernel, rfl⟩
theorem d_Dr_insert_102 : dc b_Dr_insert 102 (.aload_n 0) 1 103 := ⟨by decide +kernel, rfl⟩
theorem d_Dr_insert_103 : dc b_Dr_insert 103 (.dup) 1 104 := ⟨by decide +kernel, rfl⟩
theorem d_Dr_insert_104 : dc b_Dr_insert 104 (.getfield 30) 3 107 := ⟨by decide +kernel, rfl⟩
theorem d_Dr_insert_107 : dc b_Dr_insert 107 (.iconst 1) 1 108 := ⟨by decide +kernel, rfl⟩
theorem d_Dr_insert_108 : dc b_Dr_insert 108 (.iadd) 1 109 := ⟨by decide +kernel, rfl⟩
theorem d_Dr_insert_109 : dc b_Dr_insert 109 (.putfield 30) 3 112 := ⟨by decide +kernel, rfl⟩
theorem d_Dr_insert_112 : dc b_Dr_insert 112 (.return_) 1 113 := ⟨by decide +kernel, rfl⟩
def f_Dr_insert_B51 (o : Nat) (kx79 : gS → gD → Int32 → Option Nat → Option Nat → Option ((Unit × gS × gD) × Nat × Nat)) (kb : gS → gD → Int32 → Option Nat → Option Nat → Int32 → Option ((Unit × gS × gD) × Nat × Nat)) (S : gS) (d : gD) (v1 : Int32) (v2 : Option Nat) (v3 : Option Nat) (v4 : Int32) : Option ((Unit × gS × gD) × Nat × Nat) :=
  if v4 ≤ v1 then (
    kx79 S d v1 v2 v3)
  else (
    kd S o 3 <|
    lt_ (sP S o 1) fun x2 =>
    lt_ (sP S o 1) fun x3 =>
    nn x3 fun a4 =>
    kd S a4 63 <|
    gi (v4 - 1) (sN S a4) <|
    lt_ (sP S a4 (v4 - 1 : Int32).toNatClampNeg) fun x7 =>
    nn x2 fun a8 =>
    kd S a8 63 <|
    gi v4 (sN S a8) <|
    nn x7 fun a12 =>
    kd S a12 7 <|
    lt_ (wP S a8 v4.toNatClampNeg (some a12)) fun S11 =>
    kb S11 d v1 v2 v3 (v4 + (-1)))
set_option maxRecDepth 100000 in
set_option maxHeartbeats 4000000 in
theorem w_Dr_insert_B51 {X : GX} (hE : gE X b_Dr_insert 5 "StandInMill$Draft" none "insert" 3 65) {o : Nat} {r : Unit} {S' : gS} {d' : gD} {mc ms : Nat} (hmc : (xR X).cells = mc) (hms : (xR X).slots = ms) {kb : gS → gD → Int32 → Option Nat → Option Nat → Int32 → Option ((Unit × gS × gD) × Nat × Nat)} {kx79 : gS → gD → Int32 → Option Nat → Option Nat → Option ((Unit × gS × gD) × Nat × Nat)} (hkb : ∀ (cells slots dc ds : Nat) (S : gS) (d : gD) (v1 : Int32) (v2 : Option Nat) (v3 : Option Nat) (v4 : Int32), kb S d v1 v2 v3 v4 = some ((r, S', d'), dc, ds) → cells + dc = mc → slots + ds = ms → gw X cells slots (gQ X (none) S' d' mc ms) S d 51 [some (va_rf (some o)), some (.int v1), some (va_rf v2), some (va_rf v3), some (.int v4)] []) (hkx79 : ∀ (cells slots dc ds : Nat) (S : gS) (d : gD) (v1 : Int32) (v2 : Option Nat) (v3 : Option Nat), kx79 S d v1 v2 v3 = some ((r, S', d'), dc, ds) → cells + dc = mc → slots + ds = ms → gw X cells slots (gQ X (none) S' d' mc ms) S d 79 [some (va_rf (some o)), some (.int v1), some (va_rf v2), some (va_rf v3), none] []) :
    ∀ (cells slots dc ds : Nat) (S : gS) (d : gD) (v1 : Int32) (v2 : Option Nat) (v3 : Option Nat) (v4 : Int32), f_Dr_insert_B51 o kx79 kb S d v1 v2 v3 v4 = some ((r, S', d'), dc, ds) → cells + dc = mc → slots + ds = ms → gw X cells slots (gQ X (none) S' d' mc ms) S d 51 [some (va_rf (some o)), some (.int v1), some (va_rf v2), some (va_rf v3), some (.int v4)] [] := by
  intro cells slots dc ds S d v1 v2 v3 v4 h hc hs
  unfold f_Dr_insert_B51 at h
  refine g_iload (i := 4) hE d_Dr_insert_51 rfl ?_
  refine g_iload_n (i := 1) hE d_Dr_insert_53 rfl rfl ?_
  refine g_icmp_le hE d_Dr_insert_54 (fun c14 => ?_) (fun c14 => ?_)
  · replace h := if_t c14 h
    exact gw.less (lv' := [some (va_rf (some o)), some (.int v1), some (va_rf v2), some (va_rf v3), none]) (And.intro rfl (And.intro rfl (And.intro rfl (And.intro rfl trivial)))) (hkx79 _ _ _ _ S d v1 v2 v3 h hc hs)
  · replace h := if_f c14 h
    refine g_aload_n (i := 0) hE d_Dr_insert_57 rfl rfl ?_
    obtain ⟨k1, h⟩ := kd_s h
    refine g_getR 1 hE kc_Dr k1 (Nat.le_of_ble_eq_true rfl) rfl m_13 d_Dr_insert_58 (fun x2 e => ?_)
    replace h := lt_i e h; clear e
    refine g_iload (i := 4) hE d_Dr_insert_61 rfl ?_
    refine g_aload_n (i := 0) hE d_Dr_insert_63 rfl rfl ?_
    refine g_getR 1 hE kc_Dr k1 (Nat.le_of_ble_eq_true rfl) rfl m_13 d_Dr_insert_64 (fun x3 e => ?_)
    replace h := lt_i e h; clear e
    refine g_iload (i := 4) hE d_Dr_insert_67 rfl ?_
    refine g_iconst hE d_Dr_insert_69 ki_1 ?_
    refine g_isub hE d_Dr_insert_70 ?_
    obtain ⟨a4, rfl, h⟩ := nn_s h
    obtain ⟨k5, h⟩ := kd_s h
    obtain ⟨g6, h⟩ := gi_s h
    refine g_aald hE k5 (by decide) rfl (fun _ => rfl) g6 d_Dr_insert_71 (fun x7 e => ?_)
    replace h := lt_i e h; clear e
    obtain ⟨a8, rfl, h⟩ := nn_s h
    obtain ⟨k9, h⟩ := kd_s h
    obtain ⟨g10, h⟩ := gi_s h
    obtain ⟨a12, rfl, h⟩ := nn_s h
    obtain ⟨k13, h⟩ := kd_s h
    refine g_aast hE k9 (by decide) (fun _ => rfl) rfl kc_Sm k13 g10 d_Dr_insert_72 (fun S11 e => ?_)
    replace k1 : sK S11 o = 3 := by rw [← e]; exact k1
    replace k5 : sK S11 a4 = 63 := by rw [← e]; exact k5
    replace k9 : sK S11 a8 = 63 := by rw [← e]; exact k9
    replace k13 : sK S11 a12 = 7 := by rw [← e]; exact k13
    replace h := lt_i e h; clear e
    refine g_iinc (i := 4) (lv' := [some (va_rf (some o)), some (.int v1), some (va_rf v2), some (va_rf v3), some (.int (v4 + (-1)))]) hE d_Dr_insert_73 ki_m1 rfl (Nat.le_of_ble_eq_true rfl) ⟨rfl, Nat.le_of_ble_eq_true rfl⟩ (lvp_r rfl) ?_
    refine g_goto hE d_Dr_insert_76 ?_
    exact gw.less (lv' := [some (va_rf (some o)), some (.int v1), some (va_rf v2), some (va_rf v3), some (.int (v4 + (-1)))]) (And.intro rfl (And.intro rfl (And.intro rfl (And.intro rfl (And.intro rfl trivial))))) (hkb _ _ _ _ S11 d v1 v2 v3 (v4 + (-1)) h hc hs)
theorem w_Dr_insert_L51 {X : GX} (hE : gE X b_Dr_insert 5 "StandInMill$Draft" none "insert" 3 65) {o : Nat} {r : Unit} {S' : gS} {d' : gD} {mc ms : Nat} (hmc : (xR X).cells = mc) (hms : (xR X).slots = ms) {kx79 : gS → gD → Int32 → Option Nat → Option Nat → Option ((Unit × gS × gD) × Nat × Nat)} (hkx79 : ∀ (cells slots dc ds : Nat) (S : gS) (d : gD) (v1 : Int32) (v2 : Option Nat) (v3 : Option Nat), kx79 S d v1 v2 v3 = some ((r, S', d'), dc, ds) → cells + dc = mc → slots + ds = ms → gw X cells slots (gQ X (none) S' d' mc ms) S d 79 [some (va_rf (some o)), some (.int v1), some (va_rf v2), some (va_rf v3), none] []) : ∀ (n : Nat) (cells slots dc ds : Nat) (S : gS) (d : gD) (v1 : Int32) (v2 : Option Nat) (v3 : Option Nat) (v4 : Int32), itr (f_Dr_insert_B51 o kx79) (fun _ _ _ _ _ _ => none) n S d v1 v2 v3 v4 = some ((r, S', d'), dc, ds) → cells + dc = mc → slots + ds = ms → gw X cells slots (gQ X (none) S' d' mc ms) S d 51 [some (va_rf (some o)), some (.int v1), some (va_rf v2), some (va_rf v3), some (.int v4)] [] := by
  intro n
  induction n with
  | zero => intro cells slots dc ds S d v1 v2 v3 v4 h hc hs; cases h
  | succ n ih => exact w_Dr_insert_B51 hE hmc hms ih hkx79
def f_Dr_insert_J79 (o : Nat) (S : gS) (d : gD) (v1 : Int32) (v2 : Option Nat) (v3 : Option Nat) : Option ((Unit × gS × gD) × Nat × Nat) :=
  nn v3 fun a1 =>
  kd S a1 7 <|
  lt_ (wP S a1 0 v2) fun S3 =>
  lt_ (sP S3 a1 1) fun x4 =>
  nn v2 fun a5 =>
  kd S3 a5 5 <|
  lt_ (sP S3 a5 5) fun x7 =>
  nn x4 fun a8 =>
  kd S3 a8 2 <|
  bdD (f_Rw_copyFrom S3 d a8 x7) fun _ d12 =>
  kd S3 o 3 <|
  lt_ (sP S3 o 1) fun x14 =>
  nn x14 fun a15 =>
  kd S3 a15 63 <|
  gi v1 (sN S3 a15) <|
  lt_ (wP S3 a15 v1.toNatClampNeg (some a1)) fun S18 =>
  lt_ (dI d12 o 2) fun x19 =>
  lt_ (wI d12 o 2 (x19 + 1)) fun d20 =>
  some (((), S18, d20), 0, 0)
set_option maxRecDepth 100000 in
set_option maxHeartbeats 4000000 in
theorem w_Dr_insert_J79 {X : GX} (hE : gE X b_Dr_insert 5 "StandInMill$Draft" none "insert" 3 65) {o : Nat} {r : Unit} {S' : gS} {d' : gD} {mc ms : Nat} (hmc : (xR X).cells = mc) (hms : (xR X).slots = ms) :
    ∀ (cells slots dc ds : Nat) (S : gS) (d : gD) (v1 : Int32) (v2 : Option Nat) (v3 : Option Nat), f_Dr_insert_J79 o S d v1 v2 v3 = some ((r, S', d'), dc, ds) → cells + dc = mc → slots + ds = ms → gw X cells slots (gQ X (none) S' d' mc ms) S d 79 [some (va_rf (some o)), some (.int v1), some (va_rf v2), some (va_rf v3), none] [] := by
  intro cells slots dc ds S d v1 v2 v3 h hc hs
  unfold f_Dr_insert_J79 at h
  refine g_aload_n (i := 3) hE d_Dr_insert_79 rfl rfl ?_
  refine g_aload_n (i := 2) hE d_Dr_insert_80 rfl rfl ?_
  obtain ⟨a1, rfl, h⟩ := nn_s h
  obtain ⟨k2, h⟩ := kd_s h
  refine g_putRN (fty := .object "StandInMill$OwnMethod") 0 hE kc_Sm k2 (Nat.le_of_ble_eq_true rfl) rfl nf_18 rfl (by decide +kernel) rfl d_Dr_insert_81 (fun S3 e => ?_)
  replace k2 : sK S3 a1 = 7 := by rw [← e]; exact k2
  replace h := lt_i e h; clear e
  refine g_aload_n (i := 3) hE d_Dr_insert_84 rfl rfl ?_
  refine g_getRN 1 hE kc_Sm k2 (Nat.le_of_ble_eq_true rfl) rfl nf_19 d_Dr_insert_85 (fun x4 e => ?_)
  replace h := lt_i e h; clear e
  refine g_aload_n (i := 2) hE d_Dr_insert_88 rfl rfl ?_
  obtain ⟨a5, rfl, h⟩ := nn_s h
  obtain ⟨k6, h⟩ := kd_s h
  refine g_getRN 5 hE kc_Om k6 (Nat.le_of_ble_eq_true rfl) rfl nf_20 d_Dr_insert_89 (fun x7 e => ?_)
  replace h := lt_i e h; clear e
  obtain ⟨a8, rfl, h⟩ := nn_s h
  obtain ⟨k9, h⟩ := kd_s h
  obtain ⟨x10, d12, e11, h⟩ := bdD_s h
  refine g_callV (av := [.inr (.inr (some a8)), .inr (.inr x7)]) (as := [.inr (.inr x7)]) (stk := []) [] hE (c_Rw_copyFrom (xl X) (xG X) e11) ky_Rw_copyFrom ⟨Nat.le_of_ble_eq_true rfl, Nat.le_of_ble_eq_true rfl⟩ rfl kc_Rw k9 m_197 m_198 m_199 rfl d_Dr_insert_92 rfl rfl ct_0 (cnt_room0 hmc hc) (cnt_room0 hms hs) ?_
  refine gw.cs (c2 := cells) (s2 := slots) rfl rfl ?_
  refine g_aload_n (i := 0) hE d_Dr_insert_95 rfl rfl ?_
  obtain ⟨k13, h⟩ := kd_s h
  refine g_getR 1 hE kc_Dr k13 (Nat.le_of_ble_eq_true rfl) rfl m_13 d_Dr_insert_96 (fun x14 e => ?_)
  replace h := lt_i e h; clear e
  refine g_iload_n (i := 1) hE d_Dr_insert_99 rfl rfl ?_
  refine g_aload_n (i := 3) hE d_Dr_insert_100 rfl rfl ?_
  obtain ⟨a15, rfl, h⟩ := nn_s h
  obtain ⟨k16, h⟩ := kd_s h
  obtain ⟨g17, h⟩ := gi_s h
  refine g_aast hE k16 (by decide) (fun _ => rfl) rfl kc_Sm k2 g17 d_Dr_insert_101 (fun S18 e => ?_)
  replace k2 : sK S18 a1 = 7 := by rw [← e]; exact k2
  replace k6 : sK S18 a5 = 5 := by rw [← e]; exact k6
  replace k9 : sK S18 a8 = 2 := by rw [← e]; exact k9
  replace k13 : sK S18 o = 3 := by rw [← e]; exact k13
  replace k16 : sK S18 a15 = 63 := by rw [← e]; exact k16
  replace h := lt_i e h; clear e
  refine g_aload_n (i := 0) hE d_Dr_insert_102 rfl rfl ?_
  refine g_dupr hE d_Dr_insert_103 ?_
  refine g_getI 2 hE kc_Dr k13 (Nat.le_of_ble_eq_true rfl) rfl m_188 d_Dr_insert_104 (fun x19 e => ?_)
  replace h := lt_i e h; clear e
  refine g_iconst hE d_Dr_insert_107 ki_1 ?_
  refine g_iadd hE d_Dr_insert_108 ?_
  refine g_putI 2 hE kc_Dr k13 (Nat.le_of_ble_eq_true rfl) rfl m_188 rfl (by decide +kernel) d_Dr_insert_109 (fun d20 e => ?_)
  replace h := lt_i e h; clear e
  cases h
  exact g_vret hE d_Dr_insert_112 hc hs
def f_Dr_insert_J44 (o : Nat) (S : gS) (d : gD) (v1 : Int32) (v2 : Option Nat) (u0 : Option Nat) : Option ((Unit × gS × gD) × Nat × Nat) :=
  kd S o 3 <|
  lt_ (dI d o 2) fun x2 =>
  itr (f_Dr_insert_B51 o (f_Dr_insert_J79 o)) (fun _ _ _ _ _ _ => none) fu S d v1 v2 u0 x2
set_option maxRecDepth 100000 in
set_option maxHeartbeats 4000000 in
theorem w_Dr_insert_J44 {X : GX} (hE : gE X b_Dr_insert 5 "StandInMill$Draft" none "insert" 3 65) {o : Nat} {r : Unit} {S' : gS} {d' : gD} {mc ms : Nat} (hmc : (xR X).cells = mc) (hms : (xR X).slots = ms) :
    ∀ (cells slots dc ds : Nat) (S : gS) (d : gD) (v1 : Int32) (v2 : Option Nat) (u0 : Option Nat), f_Dr_insert_J44 o S d v1 v2 u0 = some ((r, S', d'), dc, ds) → cells + dc = mc → slots + ds = ms → gw X cells slots (gQ X (none) S' d' mc ms) S d 44 [some (va_rf (some o)), some (.int v1), some (va_rf v2), none, none] [va_rf u0] := by
  intro cells slots dc ds S d v1 v2 u0 h hc hs
  unfold f_Dr_insert_J44 at h
  refine g_astore_n (i := 3) (lv' := [some (va_rf (some o)), some (.int v1), some (va_rf v2), some (va_rf u0), none]) hE d_Dr_insert_44 rfl (Nat.le_of_ble_eq_true rfl) ⟨rfl, Nat.le_of_ble_eq_true rfl⟩ (lvp_r rfl) ?_
  refine g_aload_n (i := 0) hE d_Dr_insert_45 rfl rfl ?_
  obtain ⟨k1, h⟩ := kd_s h
  refine g_getI 2 hE kc_Dr k1 (Nat.le_of_ble_eq_true rfl) rfl m_188 d_Dr_insert_46 (fun x2 e => ?_)
  replace h := lt_i e h; clear e
  refine g_istore (i := 4) (lv' := [some (va_rf (some o)), some (.int v1), some (va_rf v2), some (va_rf u0), some (.int x2)]) hE d_Dr_insert_49 (Nat.le_of_ble_eq_true rfl) ⟨rfl, Nat.le_of_ble_eq_true rfl⟩ (lvp_r rfl) ?_
  exact gw.less (lv' := [some (va_rf (some o)), some (.int v1), some (va_rf v2), some (va_rf u0), some (.int x2)]) (And.intro rfl (And.intro rfl (And.intro rfl (And.intro rfl (And.intro rfl trivial))))) (w_Dr_insert_L51 hE hmc hms (w_Dr_insert_J79 hE hmc hms) fu _ _ _ _ S d v1 v2 u0 x2 h hc hs)
set_option maxRecDepth 100000 in
def f_Dr_insert (S : gS) (d : gD) (o : Nat) (v1 : Int32) (v2 : Option Nat) : Option ((Unit × gS × gD) × Nat × Nat) :=
  kd S o 3 <|
  lt_ (dI d o 2) fun x2 =>
  lt_ (sP S o 1) fun x3 =>
  nn x3 fun a4 =>
  kd S a4 63 <|
  if x2 = (Int32.ofNat (sN S a4)) then (
    some (((), S, d), 0, 0))
  else (
    lt_ (sP S o 1) fun x6 =>
    lt_ (dI d o 2) fun x7 =>
    nn x6 fun a8 =>
    kd S a8 63 <|
    gi x7 (sN S a8) <|
    lt_ (sP S a8 x7.toNatClampNeg) fun x11 =>
    if x11 = none then (
      ac 1 3 <|
      lt_ (nS S 7 0) fun S12 =>
      lt_ (nD S d) fun d13 =>
      lt_ (sZ S) fun a14 =>
      bdA (f_Sm_init S12 d13 a14) fun _ S20 d21 =>
      f_Dr_insert_J44 o S20 d21 v1 v2 (some a14))
    else (
      lt_ (sP S o 1) fun x26 =>
      lt_ (dI d o 2) fun x27 =>
      nn x26 fun a28 =>
      kd S a28 63 <|
      gi x27 (sN S a28) <|
      lt_ (sP S a28 x27.toNatClampNeg) fun x31 =>
      f_Dr_insert_J44 o S d v1 v2 x31))
set_option maxRecDepth 100000 in
set_option maxHeartbeats 4000000 in
theorem c_Dr_insert (l : Launch) (G : gG) {S : gS} {d : gD} {o : Nat} {v1 : Int32} {v2 : Option Nat} {r : Unit} {d' : gD} {S' : gS} {dc ds : Nat} (h : f_Dr_insert S d o v1 v2 = some ((r, S', d'), dc, ds)) : GM l G y_Dr_insert b_Dr_insert 5 none 3 65 dc ds [.inr (.inr (some o)), .inl v1, .inr (.inr v2)] S d (none) S' d' := by
  refine GM.of (by decide) (Nat.le_of_ble_eq_true rfl) ?_
  intro X hl0 hG0 hR0 hE0
  have hE : gE X b_Dr_insert 5 "StandInMill$Draft" none "insert" 3 65 := hE0
  have hmc : (xR X).cells = dc := by rw [hR0]
  have hms : (xR X).slots = ds := by rw [hR0]
  obtain ⟨mc, emc⟩ : ∃ z, z = dc := ⟨_, rfl⟩
  obtain ⟨ms, ems⟩ : ∃ z, z = ds := ⟨_, rfl⟩
  rw [← emc] at hmc
  rw [← ems] at hms
  have hc : 0 + dc = mc := by omega
  have hs : 0 + ds = ms := by omega
  show gw X 0 0 (gQ X _ _ _ dc ds) _ _ _ _ _
  rw [← emc, ← ems]
  clear hR0 emc ems
  unfold f_Dr_insert at h
  refine gw.less (lv' := [some (va_rf (some o)), some (.int v1), some (va_rf v2), none, none]) (And.intro rfl (And.intro rfl (And.intro rfl trivial))) ?_
  refine g_aload_n (i := 0) hE d_Dr_insert_0 rfl rfl ?_
  obtain ⟨k1, h⟩ := kd_s h
  refine g_getI 2 hE kc_Dr k1 (Nat.le_of_ble_eq_true rfl) rfl m_188 d_Dr_insert_1 (fun x2 e => ?_)
  replace h := lt_i e h; clear e
  refine g_aload_n (i := 0) hE d_Dr_insert_4 rfl rfl ?_
  refine g_getR 1 hE kc_Dr k1 (Nat.le_of_ble_eq_true rfl) rfl m_13 d_Dr_insert_5 (fun x3 e => ?_)
  replace h := lt_i e h; clear e
  obtain ⟨a4, rfl, h⟩ := nn_s h
  obtain ⟨k5, h⟩ := kd_s h
  refine g_alen hE k5 (by decide) d_Dr_insert_8 ?_
  refine g_icmp_ne hE d_Dr_insert_9 (fun c33 => ?_) (fun c33 => ?_)
  · replace h := if_f c33 h
    refine g_aload_n (i := 0) hE d_Dr_insert_13 rfl rfl ?_
    refine g_getR 1 hE kc_Dr k1 (Nat.le_of_ble_eq_true rfl) rfl m_13 d_Dr_insert_14 (fun x6 e => ?_)
    replace h := lt_i e h; clear e
    refine g_aload_n (i := 0) hE d_Dr_insert_17 rfl rfl ?_
    refine g_getI 2 hE kc_Dr k1 (Nat.le_of_ble_eq_true rfl) rfl m_188 d_Dr_insert_18 (fun x7 e => ?_)
    replace h := lt_i e h; clear e
    obtain ⟨a8, rfl, h⟩ := nn_s h
    obtain ⟨k9, h⟩ := kd_s h
    obtain ⟨g10, h⟩ := gi_s h
    refine g_aald hE k9 (by decide) rfl (fun _ => rfl) g10 d_Dr_insert_21 (fun x11 e => ?_)
    replace h := lt_i e h; clear e
    refine g_ifnull hE d_Dr_insert_22 (fun c32 => ?_) (fun c32 => ?_)
    · replace h := if_t c32 h
      obtain ⟨dc0, ds0, h, hc0, hs0⟩ := ac_s h
      refine g_new hE kc_Sm kn_Sm m_12 m_209 m_210 (cnt_room hmc hc hc0) (cnt_room hms hs hs0) d_Dr_insert_37 (fun S12 d13 a14 e1 e2 e3 => ?_)
      have k15 : sK S12 a14 = 7 := by rw [← e1, ← e3]; exact nS_new
      replace h := lt_i e1 h; replace h := lt_i e2 h; replace h := lt_i e3 h; clear e1 e2 e3
      refine gw.gen (fun c16 s17 ec es => ?_)
      replace hc := cnt_step hc hc0 ec; replace hs := cnt_step hs hs0 es; clear hc0 hs0 ec es
      refine g_dupr hE d_Dr_insert_40 ?_
      obtain ⟨x18, S20, d21, n22, n23, dc0, ds0, e19, h, hc0, hs0⟩ := bdA_s h
      refine g_callIN (av := [.inr (.inr (some a14))]) (as := []) (stk := [va_rf (some a14)]) [va_rf (some a14)] hE (c_Sm_init (xl X) (xG X) e19) ky_Sm_init ⟨Nat.le_of_ble_eq_true rfl, Nat.le_of_ble_eq_true rfl⟩ rfl nm_3 m_211 rfl rfl d_Dr_insert_41 rfl rfl (Nat.le_trans (ct_r ct_n) (Nat.le_of_ble_eq_true rfl)) (cnt_room hmc hc hc0) (cnt_room hms hs hs0) ?_
      refine gw.gen (fun c24 s25 ec es => ?_)
      replace hc := cnt_step hc hc0 ec; replace hs := cnt_step hs hs0 es; clear hc0 hs0 ec es
      exact gw.less (lv' := [some (va_rf (some o)), some (.int v1), some (va_rf v2), none, none]) (And.intro rfl (And.intro rfl (And.intro rfl trivial))) (w_Dr_insert_J44 hE hmc hms _ _ _ _ S20 d21 v1 v2 (some a14) h hc hs)
    · replace h := if_f c32 h
      refine g_aload_n (i := 0) hE d_Dr_insert_25 rfl rfl ?_
      refine g_getR 1 hE kc_Dr k1 (Nat.le_of_ble_eq_true rfl) rfl m_13 d_Dr_insert_26 (fun x26 e => ?_)
      replace h := lt_i e h; clear e
      refine g_aload_n (i := 0) hE d_Dr_insert_29 rfl rfl ?_
      refine g_getI 2 hE kc_Dr k1 (Nat.le_of_ble_eq_true rfl) rfl m_188 d_Dr_insert_30 (fun x27 e => ?_)
      replace h := lt_i e h; clear e
      obtain ⟨a28, rfl, h⟩ := nn_s h
      obtain ⟨k29, h⟩ := kd_s h
      obtain ⟨g30, h⟩ := gi_s h
      refine g_aald hE k29 (by decide) rfl (fun _ => rfl) g30 d_Dr_insert_33 (fun x31 e => ?_)
      replace h := lt_i e h; clear e
      refine g_goto hE d_Dr_insert_34 ?_
      exact gw.less (lv' := [some (va_rf (some o)), some (.int v1), some (va_rf v2), none, none]) (And.intro rfl (And.intro rfl (And.intro rfl trivial))) (w_Dr_insert_J44 hE hmc hms _ _ _ _ S d v1 v2 x31 h hc hs)
  · replace h := if_t c33 h
    cases h
    exact g_vret hE d_Dr_insert_12 hc hs
theorem d_Dr_take_0 : dc b_Dr_take 0 (.aload_n 0) 1 1 := ⟨by decide +kernel, rfl⟩
theorem d_Dr_take_1 : dc b_Dr_take 1 (.getfield 30) 3 4 := ⟨by decide +kernel, rfl⟩
theorem d_Dr_take_4 : dc b_Dr_take 4 (.istore_n 2) 1 5 := ⟨by decide +kernel, rfl⟩
theorem d_Dr_take_5 : dc b_Dr_take 5 (.iconst 0) 1 6 := ⟨by decide +kernel, rfl⟩
theorem d_Dr_take_6 : dc b_Dr_take 6 (.istore_n 3) 1 7 := ⟨by decide +kernel, rfl⟩
theorem d_Dr_take_7 : dc b_Dr_take 7 (.iload_n 3) 1 8 := ⟨by decide +kernel, rfl⟩
theorem d_Dr_take_8 : dc b_Dr_take 8 (.aload_n 0) 1 9 := ⟨by decide +kernel, rfl⟩
theorem d_Dr_take_9 : dc b_Dr_take 9 (.getfield 30) 3 12 := ⟨by decide +kernel, rfl⟩
theorem d_Dr_take_12 : db b_Dr_take 12 (.if_icmp .ge 66) 66 78 15 := ⟨by decide +kernel, by decide, rfl⟩
theorem d_Dr_take_15 : dc b_Dr_take 15 (.aload_n 0) 1 16 := ⟨by decide +kernel, rfl⟩
theorem d_Dr_take_16 : dc b_Dr_take 16 (.getfield 11) 3 19 := ⟨by decide +kernel, rfl⟩
theorem d_Dr_take_19 : dc b_Dr_take 19 (.iload_n 3) 1 20 := ⟨by decide +kernel, rfl⟩
theorem d_Dr_take_20 : dc b_Dr_take 20 (.aaload) 1 21 := ⟨by decide +kernel, rfl⟩
theorem d_Dr_take_21 : dc b_Dr_take 21 (.getfield 34) 3 24 := ⟨by decide +kernel, rfl⟩
theorem d_Dr_take_24 : dc b_Dr_take 24 (.aload_n 1) 1 25 := ⟨by decide +kernel, rfl⟩
theorem d_Dr_take_25 : dc b_Dr_take 25 (.invokevirtual 38) 3 28 := ⟨by decide +kernel, rfl⟩
theorem d_Dr_take_28 : db b_Dr_take 28 (.ifCond .eq 44) 44 72 31 := ⟨by decide +kernel, by decide, rfl⟩
theorem d_Dr_take_31 : dc b_Dr_take 31 (.aload_n 0) 1 32 := ⟨by decide +kernel, rfl⟩
theorem d_Dr_take_32 : dc b_Dr_take 32 (.getfield 11) 3 35 := ⟨by decide +kernel, rfl⟩
theorem d_Dr_take_35 : dc b_Dr_take 35 (.iload_n 3) 1 36 := ⟨by decide +kernel, rfl⟩
theorem d_Dr_take_36 : dc b_Dr_take 36 (.aaload) 1 37 := ⟨by decide +kernel, rfl⟩
theorem d_Dr_take_37 : dc b_Dr_take 37 (.getfield 34) 3 40 := ⟨by decide +kernel, rfl⟩
theorem d_Dr_take_40 : dc b_Dr_take 40 (.getfield 44) 3 43 := ⟨by decide +kernel, rfl⟩
theorem d_Dr_take_43 : dc b_Dr_take 43 (.aload_n 1) 1 44 := ⟨by decide +kernel, rfl⟩
theorem d_Dr_take_44 : dc b_Dr_take 44 (.getfield 44) 3 47 := ⟨by decide +kernel, rfl⟩
theorem d_Dr_take_47 : db b_Dr_take 47 (.if_icmp .ne 21) 21 68 50 := ⟨by decide +kernel, by decide, rfl⟩
theorem d_Dr_take_50 : dc b_Dr_take 50 (.aload_n 0) 1 51 := ⟨by decide +kernel, rfl⟩
theorem d_Dr_take_51 : dc b_Dr_take 51 (.aload_n 0) 1 52 := ⟨by decide +kernel, rfl⟩
theorem d_Dr_take_52 : dc b_Dr_take 52 (.getfield 11) 3 55 := ⟨by decide +kernel, rfl⟩
theorem d_Dr_take_55 : dc b_Dr_take 55 (.iload_n 3) 1 56 := ⟨by decide +kernel, rfl⟩
theorem d_Dr_take_56 : dc b_Dr_take 56 (.aaload) 1 57 := ⟨by decide +kernel, rfl⟩
theorem d_Dr_take_57 : dc b_Dr_take 57 (.getfield 47) 3 60 := ⟨by decide +kernel, rfl⟩
theorem d_Dr_take_60 : dc b_Dr_take 60 (.aload_n 1) 1 61 := ⟨by decide +kernel, rfl⟩
theorem d_Dr_take_61 : dc b_Dr_take 61 (.getfield 50) 3 64 := ⟨by decide +kernel, rfl⟩
theorem d_Dr_take_64 : dc b_Dr_take 64 (.invokevirtual 51) 3 67 := ⟨by decide +kernel, rfl⟩
theorem d_Dr_take_67 : dc b_Dr_take 67 (.return_) 1 68 := ⟨by decide +kernel, rfl⟩
theorem d_Dr_take_68 : dc b_Dr_take 68 (.iload_n 3) 1 69 := ⟨by decide +kernel, rfl⟩
theorem d_Dr_take_69 : dc b_Dr_take 69 (.iconst 1) 1 70 := ⟨by decide +kernel, rfl⟩
theorem d_Dr_take_70 : dc b_Dr_take 70 (.iadd) 1 71 := ⟨by decide +kernel, rfl⟩
theorem d_Dr_take_71 : dc b_Dr_take 71 (.istore_n 2) 1 72 := ⟨by decide +kernel, rfl⟩
theorem d_Dr_take_72 : dc b_Dr_take 72 (.iinc 3 1) 3 75 := ⟨by decide +kernel, rfl⟩
theorem d_Dr_take_75 : db b_Dr_take 75 (.goto (-68)) (-68) 7 78 := ⟨by decide +kernel, by decide, rfl⟩
theorem d_Dr_take_78 : dc b_Dr_take 78 (.aload_n 0) 1 79 := ⟨by decide +kernel, rfl⟩
theorem d_Dr_take_79 : dc b_Dr_take 79 (.iload_n 2) 1 80 := ⟨by decide +kernel, rfl⟩
theorem d_Dr_take_80 : dc b_Dr_take 80 (.aload_n 1) 1 81 := ⟨by decide +kernel, rfl⟩
theorem d_Dr_take_81 : dc b_Dr_take 81 (.invokevirtual 55) 3 84 := ⟨by decide +kernel, rfl⟩
theorem d_Dr_take_84 : dc b_Dr_take 84 (.return_) 1 85 := ⟨by decide +kernel, rfl⟩
def f_Dr_take_J72 (o : Nat) (kx50 : gS → gD → Option Nat → Int32 → Option ((Unit × gS × gD) × Nat × Nat)) (kx78 : gS → gD → Option Nat → Int32 → Option ((Unit × gS × gD) × Nat × Nat)) (kb : gS → gD → Option Nat → Int32 → Int32 → Option ((Unit × gS × gD) × Nat × Nat)) (S : gS) (d : gD) (v1 : Option Nat) (v2 : Int32) (v3 : Int32) : Option ((Unit × gS × gD) × Nat × Nat) :=
  kb S d v1 v2 (v3 + 1)
set_option maxRecDepth 100000 in
set_option maxHeartbeats 4000000 in
theorem w_Dr_take_J72 {X : GX} (hE : gE X b_Dr_take 4 "StandInMill$Draft" none "take" 5 112) {o : Nat} {r : Unit} {S' : gS} {d' : gD} {mc ms : Nat} (hmc : (xR X).cells = mc) (hms : (xR X).slots = ms) {kb : gS → gD → Option Nat → Int32 → Int32 → Option ((Unit × gS × gD) × Nat × Nat)} {kx50 : gS → gD → Option Nat → Int32 → Option ((Unit × gS × gD) × Nat × Nat)} {kx78 : gS → gD → Option Nat → Int32 → Option ((Unit × gS × gD) × Nat × Nat)} (hkb : ∀ (cells slots dc ds : Nat) (S : gS) (d : gD) (v1 : Option Nat) (v2 : Int32) (v3 : Int32), kb S d v1 v2 v3 = some ((r, S', d'), dc, ds) → cells + dc = mc → slots + ds = ms → gw X cells slots (gQ X (none) S' d' mc ms) S d 7 [some (va_rf (some o)), some (va_rf v1), some (.int v2), some (.int v3)] []) (hkx50 : ∀ (cells slots dc ds : Nat) (S : gS) (d : gD) (v1 : Option Nat) (v3 : Int32), kx50 S d v1 v3 = some ((r, S', d'), dc, ds) → cells + dc = mc → slots + ds = ms → gw X cells slots (gQ X (none) S' d' mc ms) S d 50 [some (va_rf (some o)), some (va_rf v1), none, some (.int v3)] []) (hkx78 : ∀ (cells slots dc ds : Nat) (S : gS) (d : gD) (v1 : Option Nat) (v2 : Int32), kx78 S d v1 v2 = some ((r, S', d'), dc, ds) → cells + dc = mc → slots + ds = ms → gw X cells slots (gQ X (none) S' d' mc ms) S d 78 [some (va_rf (some o)), some (va_rf v1), some (.int v2), none] []) :
    ∀ (cells slots dc ds : Nat) (S : gS) (d : gD) (v1 : Option Nat) (v2 : Int32) (v3 : Int32), f_Dr_take_J72 o kx50 kx78 kb S d v1 v2 v3 = some ((r, S', d'), dc, ds) → cells + dc = mc → slots + ds = ms → gw X cells slots (gQ X (none) S' d' mc ms) S d 72 [some (va_rf (some o)), some (va_rf v1), some (.int v2), some (.int v3)] [] := by
  intro cells slots dc ds S d v1 v2 v3 h hc hs
  unfold f_Dr_take_J72 at h
  refine g_iinc (i := 3) (lv' := [some (va_rf (some o)), some (va_rf v1), some (.int v2), some (.int (v3 + 1))]) hE d_Dr_take_72 ki_1 rfl (Nat.le_of_ble_eq_true rfl) ⟨rfl, Nat.le_of_ble_eq_true rfl⟩ (lvp_i rfl) ?_
  refine g_goto hE d_Dr_take_75 ?_
  exact gw.less (lv' := [some (va_rf (some o)), some (va_rf v1), some (.int v2), some (.int (v3 + 1))]) (And.intro rfl (And.intro rfl (And.intro rfl (And.intro rfl trivial)))) (hkb _ _ _ _ S d v1 v2 (v3 + 1) h hc hs)
def f_Dr_take_B7 (o : Nat) (kx50 : gS → gD → Option Nat → Int32 → Option ((Unit × gS × gD) × Nat × Nat)) (kx78 : gS → gD → Option Nat → Int32 → Option ((Unit × gS × gD) × Nat × Nat)) (kb : gS → gD → Option Nat → Int32 → Int32 → Option ((Unit × gS × gD) × Nat × Nat)) (S : gS) (d : gD) (v1 : Option Nat) (v2 : Int32) (v3 : Int32) : Option ((Unit × gS × gD) × Nat × Nat) :=
  kd S o 3 <|
  lt_ (dI d o 2) fun x2 =>
  if x2 ≤ v3 then (
    kx78 S d v1 v2)
  else (
    lt_ (sP S o 1) fun x3 =>
    nn x3 fun a4 =>
    kd S a4 63 <|
    gi v3 (sN S a4) <|
    lt_ (sP S a4 v3.toNatClampNeg) fun x7 =>
    nn x7 fun a8 =>
    kd S a8 7 <|
    lt_ (sP S a8 0) fun x10 =>
    nn x10 fun a11 =>
    kd S a11 5 <|
    bd (f_Om_hasSignatureOf S d a11 v1) fun x13 =>
    if x13 = 0 then (
      f_Dr_take_J72 o kx50 kx78 kb S d v1 v2 v3)
    else (
      lt_ (sP S o 1) fun x15 =>
      nn x15 fun a16 =>
      kd S a16 63 <|
      gi v3 (sN S a16) <|
      lt_ (sP S a16 v3.toNatClampNeg) fun x19 =>
      nn x19 fun a20 =>
      kd S a20 7 <|
      lt_ (sP S a20 0) fun x22 =>
      nn x22 fun a23 =>
      kd S a23 5 <|
      lt_ (dI d a23 4) fun x25 =>
      nn v1 fun a26 =>
      kd S a26 5 <|
      lt_ (dI d a26 4) fun x28 =>
      if x25 = x28 then (
        kx50 S d (some a26) v3)
      else (
        f_Dr_take_J72 o kx50 kx78 kb S d (some a26) (v3 + 1) v3)))
set_option maxRecDepth 100000 in
set_option maxHeartbeats 4000000 in
theorem w_Dr_take_B7 {X : GX} (hE : gE X b_Dr_take 4 "StandInMill$Draft" none "take" 5 112) {o : Nat} {r : Unit} {S' : gS} {d' : gD} {mc ms : Nat} (hmc : (xR X).cells = mc) (hms : (xR X).slots = ms) {kb : gS → gD → Option Nat → Int32 → Int32 → Option ((Unit × gS × gD) × Nat × Nat)} {kx50 : gS → gD → Option Nat → Int32 → Option ((Unit × gS × gD) × Nat × Nat)} {kx78 : gS → gD → Option Nat → Int32 → Option ((Unit × gS × gD) × Nat × Nat)} (hkb : ∀ (cells slots dc ds : Nat) (S : gS) (d : gD) (v1 : Option Nat) (v2 : Int32) (v3 : Int32), kb S d v1 v2 v3 = some ((r, S', d'), dc, ds) → cells + dc = mc → slots + ds = ms → gw X cells slots (gQ X (none) S' d' mc ms) S d 7 [some (va_rf (some o)), some (va_rf v1), some (.int v2), some (.int v3)] []) (hkx50 : ∀ (cells slots dc ds : Nat) (S : gS) (d : gD) (v1 : Option Nat) (v3 : Int32), kx50 S d v1 v3 = some ((r, S', d'), dc, ds) → cells + dc = mc → slots + ds = ms → gw X cells slots (gQ X (none) S' d' mc ms) S d 50 [some (va_rf (some o)), some (va_rf v1), none, some (.int v3)] []) (hkx78 : ∀ (cells slots dc ds : Nat) (S : gS) (d : gD) (v1 : Option Nat) (v2 : Int32), kx78 S d v1 v2 = some ((r, S', d'), dc, ds) → cells + dc = mc → slots + ds = ms → gw X cells slots (gQ X (none) S' d' mc ms) S d 78 [some (va_rf (some o)), some (va_rf v1), some (.int v2), none] []) :
    ∀ (cells slots dc ds : Nat) (S : gS) (d : gD) (v1 : Option Nat) (v2 : Int32) (v3 : Int32), f_Dr_take_B7 o kx50 kx78 kb S d v1 v2 v3 = some ((r, S', d'), dc, ds) → cells + dc = mc → slots + ds = ms → gw X cells slots (gQ X (none) S' d' mc ms) S d 7 [some (va_rf (some o)), some (va_rf v1), some (.int v2), some (.int v3)] [] := by
  intro cells slots dc ds S d v1 v2 v3 h hc hs
  unfold f_Dr_take_B7 at h
  refine g_iload_n (i := 3) hE d_Dr_take_7 rfl rfl ?_
  refine g_aload_n (i := 0) hE d_Dr_take_8 rfl rfl ?_
  obtain ⟨k1, h⟩ := kd_s h
  refine g_getI 2 hE kc_Dr k1 (Nat.le_of_ble_eq_true rfl) rfl m_188 d_Dr_take_9 (fun x2 e => ?_)
  replace h := lt_i e h; clear e
  refine g_icmp_ge hE d_Dr_take_12 (fun c31 => ?_) (fun c31 => ?_)
  · replace h := if_t c31 h
    exact gw.less (lv' := [some (va_rf (some o)), some (va_rf v1), some (.int v2), none]) (And.intro rfl (And.intro rfl (And.intro rfl trivial))) (hkx78 _ _ _ _ S d v1 v2 h hc hs)
  · replace h := if_f c31 h
    refine g_aload_n (i := 0) hE d_Dr_take_15 rfl rfl ?_
    refine g_getR 1 hE kc_Dr k1 (Nat.le_of_ble_eq_true rfl) rfl m_13 d_Dr_take_16 (fun x3 e => ?_)
    replace h := lt_i e h; clear e
    refine g_iload_n (i := 3) hE d_Dr_take_19 rfl rfl ?_
    obtain ⟨a4, rfl, h⟩ := nn_s h
    obtain ⟨k5, h⟩ := kd_s h
    obtain ⟨g6, h⟩ := gi_s h
    refine g_aald hE k5 (by decide) rfl (fun _ => rfl) g6 d_Dr_take_20 (fun x7 e => ?_)
    replace h := lt_i e h; clear e
    obtain ⟨a8, rfl, h⟩ := nn_s h
    obtain ⟨k9, h⟩ := kd_s h
    refine g_getRN 0 hE kc_Sm k9 (Nat.le_of_ble_eq_true rfl) rfl nf_18 d_Dr_take_21 (fun x10 e => ?_)
    replace h := lt_i e h; clear e
    refine g_aload_n (i := 1) hE d_Dr_take_24 rfl rfl ?_
    obtain ⟨a11, rfl, h⟩ := nn_s h
    obtain ⟨k12, h⟩ := kd_s h
    obtain ⟨x13, e14, h⟩ := bd_s h
    refine g_callV (av := [.inr (.inr (some a11)), .inr (.inr v1)]) (as := [.inr (.inr v1)]) (stk := [.int x13]) [] hE (c_Om_hasSignatureOf (xl X) (xG X) e14) ky_Om_hasSignatureOf ⟨Nat.le_of_ble_eq_true rfl, Nat.le_of_ble_eq_true rfl⟩ rfl kc_Om k12 m_212 m_213 m_214 rfl d_Dr_take_25 rfl rfl ct_0 (cnt_room0 hmc hc) (cnt_room0 hms hs) ?_
    refine gw.cs (c2 := cells) (s2 := slots) rfl rfl ?_
    refine g_if_eq hE d_Dr_take_28 (fun c30 => ?_) (fun c30 => ?_)
    · replace h := if_t c30 h
      exact gw.less (lv' := [some (va_rf (some o)), some (va_rf v1), some (.int v2), some (.int v3)]) (And.intro rfl (And.intro rfl (And.intro rfl (And.intro rfl trivial)))) (w_Dr_take_J72 hE hmc hms hkb hkx50 hkx78 _ _ _ _ S d v1 v2 v3 h hc hs)
    · replace h := if_f c30 h
      refine g_aload_n (i := 0) hE d_Dr_take_31 rfl rfl ?_
      refine g_getR 1 hE kc_Dr k1 (Nat.le_of_ble_eq_true rfl) rfl m_13 d_Dr_take_32 (fun x15 e => ?_)
      replace h := lt_i e h; clear e
      refine g_iload_n (i := 3) hE d_Dr_take_35 rfl rfl ?_
      obtain ⟨a16, rfl, h⟩ := nn_s h
      obtain ⟨k17, h⟩ := kd_s h
      obtain ⟨g18, h⟩ := gi_s h
      refine g_aald hE k17 (by decide) rfl (fun _ => rfl) g18 d_Dr_take_36 (fun x19 e => ?_)
      replace h := lt_i e h; clear e
      obtain ⟨a20, rfl, h⟩ := nn_s h
      obtain ⟨k21, h⟩ := kd_s h
      refine g_getRN 0 hE kc_Sm k21 (Nat.le_of_ble_eq_true rfl) rfl nf_18 d_Dr_take_37 (fun x22 e => ?_)
      replace h := lt_i e h; clear e
      obtain ⟨a23, rfl, h⟩ := nn_s h
      obtain ⟨k24, h⟩ := kd_s h
      refine g_getIN 4 hE kc_Om k24 (Nat.le_of_ble_eq_true rfl) rfl nf_21 d_Dr_take_40 (fun x25 e => ?_)
      replace h := lt_i e h; clear e
      refine g_aload_n (i := 1) hE d_Dr_take_43 rfl rfl ?_
      obtain ⟨a26, rfl, h⟩ := nn_s h
      obtain ⟨k27, h⟩ := kd_s h
      refine g_getIN 4 hE kc_Om k27 (Nat.le_of_ble_eq_true rfl) rfl nf_21 d_Dr_take_44 (fun x28 e => ?_)
      replace h := lt_i e h; clear e
      refine g_icmp_ne hE d_Dr_take_47 (fun c29 => ?_) (fun c29 => ?_)
      · replace h := if_f c29 h
        refine g_iload_n (i := 3) hE d_Dr_take_68 rfl rfl ?_
        refine g_iconst hE d_Dr_take_69 ki_1 ?_
        refine g_iadd hE d_Dr_take_70 ?_
        refine g_istore_n (i := 2) (lv' := [some (va_rf (some o)), some (va_rf (some a26)), some (.int (v3 + 1)), some (.int v3)]) hE d_Dr_take_71 rfl (Nat.le_of_ble_eq_true rfl) ⟨rfl, Nat.le_of_ble_eq_true rfl⟩ (lvp_r rfl) ?_
        exact gw.less (lv' := [some (va_rf (some o)), some (va_rf (some a26)), some (.int (v3 + 1)), some (.int v3)]) (And.intro rfl (And.intro rfl (And.intro rfl (And.intro rfl trivial)))) (w_Dr_take_J72 hE hmc hms hkb hkx50 hkx78 _ _ _ _ S d (some a26) (v3 + 1) v3 h hc hs)
      · replace h := if_t c29 h
        exact gw.less (lv' := [some (va_rf (some o)), some (va_rf (some a26)), none, some (.int v3)]) (And.intro rfl (And.intro rfl (And.intro rfl trivial))) (hkx50 _ _ _ _ S d (some a26) v3 h hc hs)
theorem w_Dr_take_L7 {X : GX} (hE : gE X b_Dr_take 4 "StandInMill$Draft" none "take" 5 112) {o : Nat} {r : Unit} {S' : gS} {d' : gD} {mc ms : Nat} (hmc : (xR X).cells = mc) (hms : (xR X).slots = ms) {kx50 : gS → gD → Option Nat → Int32 → Option ((Unit × gS × gD) × Nat × Nat)} {kx78 : gS → gD → Option Nat → Int32 → Option ((Unit × gS × gD) × Nat × Nat)} (hkx50 : ∀ (cells slots dc ds : Nat) (S : gS) (d : gD) (v1 : Option Nat) (v3 : Int32), kx50 S d v1 v3 = some ((r, S', d'), dc, ds) → cells + dc = mc → slots + ds = ms → gw X cells slots (gQ X (none) S' d' mc ms) S d 50 [some (va_rf (some o)), some (va_rf v1), none, some (.int v3)] []) (hkx78 : ∀ (cells slots dc ds : Nat) (S : gS) (d : gD) (v1 : Option Nat) (v2 : Int32), kx78 S d v1 v2 = some ((r, S', d'), dc, ds) → cells + dc = mc → slots + ds = ms → gw X cells slots (gQ X (none) S' d' mc ms) S d 78 [some (va_rf (some o)), some (va_rf v1), some (.int v2), none] []) : ∀ (n : Nat) (cells slots dc ds : Nat) (S : gS) (d : gD) (v1 : Option Nat) (v2 : Int32) (v3 : Int32), itr (f_Dr_take_B7 o kx50 kx78) (fun _ _ _ _ _ => none) n S d v1 v2 v3 = some ((r, S', d'), dc, ds) → cells + dc = mc → slots + ds = ms → gw X cells slots (gQ X (none) S' d' mc ms) S d 7 [some (va_rf (some o)), some (va_rf v1), some (.int v2), some (.int v3)] [] := by
  intro n
  induction n with
  | zero => intro cells slots dc ds S d v1 v2 v3 h hc hs; cases h
  | succ n ih => exact w_Dr_take_B7 hE hmc hms ih hkx50 hkx78
def f_Dr_take_J50 (o : Nat) (S : gS) (d : gD) (v1 : Option Nat) (v3 : Int32) : Option ((Unit × gS × gD) × Nat × Nat) :=
  kd S o 3 <|
  lt_ (sP S o 1) fun x2 =>
  nn x2 fun a3 =>
  kd S a3 63 <|
  gi v3 (sN S a3) <|
  lt_ (sP S a3 v3.toNatClampNeg) fun x6 =>
  nn x6 fun a7 =>
  kd S a7 7 <|
  lt_ (sP S a7 1) fun x9 =>
  nn v1 fun a10 =>
  kd S a10 5 <|
  lt_ (sP S a10 5) fun x12 =>
  bdD (f_Dr_narrow S d o x9 x12) fun _ d15 =>
  some (((), S, d15), 0, 0)
set_option maxRecDepth 100000 in
set_option maxHeartbeats 4000000 in
theorem w_Dr_take_J50 {X : GX} (hE : gE X b_Dr_take 4 "StandInMill$Draft" none "take" 5 112) {o : Nat} {r : Unit} {S' : gS} {d' : gD} {mc ms : Nat} (hmc : (xR X).cells = mc) (hms : (xR X).slots = ms) :
    ∀ (cells slots dc ds : Nat) (S : gS) (d : gD) (v1 : Option Nat) (v3 : Int32), f_Dr_take_J50 o S d v1 v3 = some ((r, S', d'), dc, ds) → cells + dc = mc → slots + ds = ms → gw X cells slots (gQ X (none) S' d' mc ms) S d 50 [some (va_rf (some o)), some (va_rf v1), none, some (.int v3)] [] := by
  intro cells slots dc ds S d v1 v3 h hc hs
  unfold f_Dr_take_J50 at h
  refine g_aload_n (i := 0) hE d_Dr_take_50 rfl rfl ?_
  refine g_aload_n (i := 0) hE d_Dr_take_51 rfl rfl ?_
  obtain ⟨k1, h⟩ := kd_s h
  refine g_getR 1 hE kc_Dr k1 (Nat.le_of_ble_eq_true rfl) rfl m_13 d_Dr_take_52 (fun x2 e => ?_)
  replace h := lt_i e h; clear e
  refine g_iload_n (i := 3) hE d_Dr_take_55 rfl rfl ?_
  obtain ⟨a3, rfl, h⟩ := nn_s h
  obtain ⟨k4, h⟩ := kd_s h
  obtain ⟨g5, h⟩ := gi_s h
  refine g_aald hE k4 (by decide) rfl (fun _ => rfl) g5 d_Dr_take_56 (fun x6 e => ?_)
  replace h := lt_i e h; clear e
  obtain ⟨a7, rfl, h⟩ := nn_s h
  obtain ⟨k8, h⟩ := kd_s h
  refine g_getRN 1 hE kc_Sm k8 (Nat.le_of_ble_eq_true rfl) rfl nf_19 d_Dr_take_57 (fun x9 e => ?_)
  replace h := lt_i e h; clear e
  refine g_aload_n (i := 1) hE d_Dr_take_60 rfl rfl ?_
  obtain ⟨a10, rfl, h⟩ := nn_s h
  obtain ⟨k11, h⟩ := kd_s h
  refine g_getRN 5 hE kc_Om k11 (Nat.le_of_ble_eq_true rfl) rfl nf_20 d_Dr_take_61 (fun x12 e => ?_)
  replace h := lt_i e h; clear e
  obtain ⟨x13, d15, e14, h⟩ := bdD_s h
  refine g_callV (av := [.inr (.inr (some o)), .inr (.inr x9), .inr (.inr x12)]) (as := [.inr (.inr x9), .inr (.inr x12)]) (stk := []) [] hE (c_Dr_narrow (xl X) (xG X) e14) ky_Dr_narrow ⟨Nat.le_of_ble_eq_true rfl, Nat.le_of_ble_eq_true rfl⟩ rfl kc_Dr k1 m_215 m_216 m_217 rfl d_Dr_take_64 rfl rfl ct_0 (cnt_room0 hmc hc) (cnt_room0 hms hs) ?_
  refine gw.cs (c2 := cells) (s2 := slots) rfl rfl ?_
  cases h
  exact g_vret hE d_Dr_take_67 hc hs
def f_Dr_take_J78 (o : Nat) (S : gS) (d : gD) (v1 : Option Nat) (v2 : Int32) : Option ((Unit × gS × gD) × Nat × Nat) :=
  kd S o 3 <|
  bdA (f_Dr_insert S d o v2 v1) fun _ S4 d5 =>
  some (((), S4, d5), 0, 0)
set_option maxRecDepth 100000 in
set_option maxHeartbeats 4000000 in
theorem w_Dr_take_J78 {X : GX} (hE : gE X b_Dr_take 4 "StandInMill$Draft" none "take" 5 112) {o : Nat} {r : Unit} {S' : gS} {d' : gD} {mc ms : Nat} (hmc : (xR X).cells = mc) (hms : (xR X).slots = ms) :
    ∀ (cells slots dc ds : Nat) (S : gS) (d : gD) (v1 : Option Nat) (v2 : Int32), f_Dr_take_J78 o S d v1 v2 = some ((r, S', d'), dc, ds) → cells + dc = mc → slots + ds = ms → gw X cells slots (gQ X (none) S' d' mc ms) S d 78 [some (va_rf (some o)), some (va_rf v1), some (.int v2), none] [] := by
  intro cells slots dc ds S d v1 v2 h hc hs
  unfold f_Dr_take_J78 at h
  refine g_aload_n (i := 0) hE d_Dr_take_78 rfl rfl ?_
  refine g_iload_n (i := 2) hE d_Dr_take_79 rfl rfl ?_
  refine g_aload_n (i := 1) hE d_Dr_take_80 rfl rfl ?_
  obtain ⟨k1, h⟩ := kd_s h
  obtain ⟨x2, S4, d5, n6, n7, dc0, ds0, e3, h, hc0, hs0⟩ := bdA_s h
  refine g_callV (av := [.inr (.inr (some o)), .inl v2, .inr (.inr v1)]) (as := [.inl v2, .inr (.inr v1)]) (stk := []) [] hE (c_Dr_insert (xl X) (xG X) e3) ky_Dr_insert ⟨Nat.le_of_ble_eq_true rfl, Nat.le_of_ble_eq_true rfl⟩ rfl kc_Dr k1 m_218 m_219 m_220 rfl d_Dr_take_81 rfl rfl ct_0 (cnt_room hmc hc hc0) (cnt_room hms hs hs0) ?_
  refine gw.gen (fun c8 s9 ec es => ?_)
  replace hc := cnt_step hc hc0 ec; replace hs := cnt_step hs hs0 es; clear hc0 hs0 ec es
  cases h
  exact g_vret hE d_Dr_take_84 hc hs
set_option maxRecDepth 100000 in
def f_Dr_take (S : gS) (d : gD) (o : Nat) (v1 : Option Nat) : Option ((Unit × gS × gD) × Nat × Nat) :=
  kd S o 3 <|
  lt_ (dI d o 2) fun x2 =>
  itr (f_Dr_take_B7 o (f_Dr_take_J50 o) (f_Dr_take_J78 o)) (fun _ _ _ _ _ => none) fu S d v1 x2 0
set_option maxRecDepth 100000 in
set_option maxHeartbeats 4000000 in
theorem c_Dr_take (l : Launch) (G : gG) {S : gS} {d : gD} {o : Nat} {v1 : Option Nat} {r : Unit} {d' : gD} {S' : gS} {dc ds : Nat} (h : f_Dr_take S d o v1 = some ((r, S', d'), dc, ds)) : GM l G y_Dr_take b_Dr_take 4 none 5 112 dc ds [.inr (.inr (some o)), .inr (.inr v1)] S d (none) S' d' := by
  refine GM.of (by decide) (Nat.le_of_ble_eq_true rfl) ?_
  intro X hl0 hG0 hR0 hE0
  have hE : gE X b_Dr_take 4 "StandInMill$Draft" none "take" 5 112 := hE0
  have hmc : (xR X).cells = dc := by rw [hR0]
  have hms : (xR X).slots = ds := by rw [hR0]
  obtain ⟨mc, emc⟩ : ∃ z, z = dc := ⟨_, rfl⟩
  obtain ⟨ms, ems⟩ : ∃ z, z = ds := ⟨_, rfl⟩
  rw [← emc] at hmc
  rw [← ems] at hms
  have hc : 0 + dc = mc := by omega
  have hs : 0 + ds = ms := by omega
  show gw X 0 0 (gQ X _ _ _ dc ds) _ _ _ _ _
  rw [← emc, ← ems]
  clear hR0 emc ems
  unfold f_Dr_take at h
  refine gw.less (lv' := [some (va_rf (some o)), some (va_rf v1), none, none]) (And.intro rfl (And.intro rfl trivial)) ?_
  refine g_aload_n (i := 0) hE d_Dr_take_0 rfl rfl ?_
  obtain ⟨k1, h⟩ := kd_s h
  refine g_getI 2 hE kc_Dr k1 (Nat.le_of_ble_eq_true rfl) rfl m_188 d_Dr_take_1 (fun x2 e => ?_)
  replace h := lt_i e h; clear e
  refine g_istore_n (i := 2) (lv' := [some (va_rf (some o)), some (va_rf v1), some (.int x2), none]) hE d_Dr_take_4 rfl (Nat.le_of_ble_eq_true rfl) ⟨rfl, Nat.le_of_ble_eq_true rfl⟩ (lvp_r rfl) ?_
  refine g_iconst hE d_Dr_take_5 ki_0 ?_
  refine g_istore_n (i := 3) (lv' := [some (va_rf (some o)), some (va_rf v1), some (.int x2), some (.int 0)]) hE d_Dr_take_6 rfl (Nat.le_of_ble_eq_true rfl) ⟨rfl, Nat.le_of_ble_eq_true rfl⟩ (lvp_i rfl) ?_
  exact gw.less (lv' := [some (va_rf (some o)), some (va_rf v1), some (.int x2), some (.int 0)]) (And.intro rfl (And.intro rfl (And.intro rfl (And.intro rfl trivial)))) (w_Dr_take_L7 hE hmc hms (w_Dr_take_J50 hE hmc hms) (w_Dr_take_J78 hE hmc hms) fu _ _ _ _ S d v1 x2 0 h hc hs)
