theorem d_M_fillDraft_0 : dc b_M_fillDraft 0 (.aload_n 0) 1 1 := ⟨by decide +kernel, rfl⟩
theorem d_M_fillDraft_1 : dc b_M_fillDraft 1 (.getfield 137) 3 4 := ⟨by decide +kernel, rfl⟩
theorem d_M_fillDraft_4 : db b_M_fillDraft 4 (.ifCond .ne 7) 7 11 7 := ⟨by decide +kernel, by decide, rfl⟩
theorem d_M_fillDraft_7 : dc b_M_fillDraft 7 (.aload_n 0) 1 8 := ⟨by decide +kernel, rfl⟩
theorem d_M_fillDraft_8 : dc b_M_fillDraft 8 (.invokevirtual 339) 3 11 := ⟨by decide +kernel, rfl⟩
theorem d_M_fillDraft_11 : dc b_M_fillDraft 11 (.aload_n 0) 1 12 := ⟨by decide +kernel, rfl⟩
theorem d_M_fillDraft_12 : dc b_M_fillDraft 12 (.getfield 50) 3 15 := ⟨by decide +kernel, rfl⟩
theorem d_M_fillDraft_15 : dc b_M_fillDraft 15 (.invokevirtual 342) 3 18 := ⟨by decide +kernel, rfl⟩
theorem d_M_fillDraft_18 : dc b_M_fillDraft 18 (.iconst 0) 1 19 := ⟨by decide +kernel, rfl⟩
theorem d_M_fillDraft_19 : dc b_M_fillDraft 19 (.istore_n 2) 1 20 := ⟨by decide +kernel, rfl⟩
theorem d_M_fillDraft_20 : dc b_M_fillDraft 20 (.iload_n 2) 1 21 := ⟨by decide +kernel, rfl⟩
theorem d_M_fillDraft_21 : dc b_M_fillDraft 21 (.aload_n 0) 1 22 := ⟨by decide +kernel, rfl⟩
theorem d_M_fillDraft_22 : dc b_M_fillDraft 22 (.getfield 35) 3 25 := ⟨by decide +kernel, rfl⟩
theorem d_M_fillDraft_25 : dc b_M_fillDraft 25 (.arraylength) 1 26 := ⟨by decide +kernel, rfl⟩
theorem d_M_fillDraft_26 : db b_M_fillDraft 26 (.if_icmp .ge 22) 22 48 29 := ⟨by decide +kernel, by decide, rfl⟩
theorem d_M_fillDraft_29 : dc b_M_fillDraft 29 (.aload_n 0) 1 30 := ⟨by decide +kernel, rfl⟩
theorem d_M_fillDraft_30 : dc b_M_fillDraft 30 (.getfield 50) 3 33 := ⟨by decide +kernel, rfl⟩
theorem d_M_fillDraft_33 : dc b_M_fillDraft 33 (.aload_n 0) 1 34 := ⟨by decide +kernel, rfl⟩
theorem d_M_fillDraft_34 : dc b_M_fillDraft 34 (.getfield 35) 3 37 := ⟨by decide +kernel, rfl⟩
theorem d_M_fillDraft_37 : dc b_M_fillDraft 37 (.iload_n 2) 1 38 := ⟨by decide +kernel, rfl⟩
theorem d_M_fillDraft_38 : dc b_M_fillDraft 38 (.aaload) 1 39 := ⟨by decide +kernel, rfl⟩
theorem d_M_fillDraft_39 : dc b_M_fillDraft 39 (.invokevirtual 345) 3 42 := ⟨by decide +kernel, rfl⟩
theorem d_M_fillDraft_42 : dc b_M_fillDraft 42 (.iinc 2 1) 3 45 := ⟨by decide +kernel, rfl⟩
theorem d_M_fillDraft_45 : db b_M_fillDraft 45 (.goto (-25)) (-25) 20 48 := ⟨by decide +kernel, by decide, rfl⟩
theorem d_M_fillDraft_48 : dc b_M_fillDraft 48 (.iconst 0) 1 49 := ⟨by decide +kernel, rfl⟩
theorem d_M_fillDraft_49 : dc b_M_fillDraft 49 (.istore_n 2) 1 50 := ⟨by decide +kernel, rfl⟩
theorem d_M_fillDraft_50 : dc b_M_fillDraft 50 (.iload_n 2) 1 51 := ⟨by decide +kernel, rfl⟩
theorem d_M_fillDraft_51 : dc b_M_fillDraft 51 (.iload_n 1) 1 52 := ⟨by decide +kernel, rfl⟩
theorem d_M_fillDraft_52 : dc b_M_fillDraft 52 (.invokestatic 308) 3 55 := ⟨by decide +kernel, rfl⟩
theorem d_M_fillDraft_55 : db b_M_fillDraft 55 (.if_icmp .ge 55) 55 110 58 := ⟨by decide +kernel, by decide, rfl⟩
theorem d_M_fillDraft_58 : dc b_M_fillDraft 58 (.aload_n 0) 1 59 := ⟨by decide +kernel, rfl⟩
theorem d_M_fillDraft_59 : dc b_M_fillDraft 59 (.getfield 22) 3 62 := ⟨by decide +kernel, rfl⟩
theorem d_M_fillDraft_62 : dc b_M_fillDraft 62 (.iload_n 1) 1 63 := ⟨by decide +kernel, rfl⟩
theorem d_M_fillDraft_63 : dc b_M_fillDraft 63 (.iload_n 2) 1 64 := ⟨by decide +kernel, rfl⟩
theorem d_M_fillDraft_64 : dc b_M_fillDraft 64 (.invokestatic 274) 3 67 := ⟨by decide +kernel, rfl⟩
theorem d_M_fillDraft_67 : dc b_M_fillDraft 67 (.bipush 24) 2 69 := ⟨by decide +kernel, rfl⟩
theorem d_M_fillDraft_69 : dc b_M_fillDraft 69 (.isub) 1 70 := ⟨by decide +kernel, rfl⟩
theorem d_M_fillDraft_70 : dc b_M_fillDraft 70 (.aaload) 1 71 := ⟨by decide +kernel, rfl⟩
theorem d_M_fillDraft_71 : dc b_M_fillDraft 71 (.astore_n 3) 1 72 := ⟨by decide +kernel, rfl⟩
theorem d_M_fillDraft_72 : dc b_M_fillDraft 72 (.iconst 0) 1 73 := ⟨by decide +kernel, rfl⟩
theorem d_M_fillDraft_73 : dc b_M_fillDraft 73 (.istore 4) 2 75 := ⟨by decide +kernel, rfl⟩
theorem d_M_fillDraft_75 : dc b_M_fillDraft 75 (.iload 4) 2 77 := ⟨by decide +kernel, rfl⟩
theorem d_M_fillDraft_77 : dc b_M_fillDraft 77 (.aload_n 3) 1 78 := ⟨by decide +kernel, rfl⟩
theorem d_M_fillDraft_78 : dc b_M_fillDraft 78 (.getfield 348) 3 81 := ⟨by decide +kernel, rfl⟩
theorem d_M_fillDraft_81 : db b_M_fillDraft 81 (.if_icmp .ge 23) 23 104 84 := ⟨by decide +kernel, by decide, rfl⟩
theorem d_M_fillDraft_84 : dc b_M_fillDraft 84 (.aload_n 0) 1 85 := ⟨by decide +kernel, rfl⟩
theorem d_M_fillDraft_85 : dc b_M_fillDraft 85 (.getfield 50) 3 88 := ⟨by decide +kernel, rfl⟩
theorem d_M_fillDraft_88 : dc b_M_fillDraft 88 (.aload_n 3) 1 89 := ⟨by decide +kernel, rfl⟩
theorem d_M_fillDraft_89 : dc b_M_fillDraft 89 (.getfield 351) 3 92 := ⟨by decide +kernel, rfl⟩
theorem d_M_fillDraft_92 : dc b_M_fillDraft 92 (.iload 4) 2 94 := ⟨by decide +kernel, rfl⟩
theorem d_M_fillDraft_94 : dc b_M_fillDraft 94 (.aaload) 1 95 := ⟨by decide +kernel, rfl⟩
theorem d_M_fillDraft_95 : dc b_M_fillDraft 95 (.invokevirtual 345) 3 98 := ⟨by decide +kernel, rfl⟩
theorem d_M_fillDraft_98 : dc b_M_fillDraft 98 (.iinc 4 1) 3 101 := ⟨by decide +kernel, rfl⟩
theorem d_M_fillDraft_101 : db b_M_fillDraft 101 (.goto (-26)) (-26) 75 104 := ⟨by decide +kernel, by decide, rfl⟩
theorem d_M_fillDraft_104 : dc b_M_fillDraft 104 (.iinc 2 1) 3 107 := ⟨by decide +kernel, rfl⟩
theorem d_M_fillDraft_107 : db b_M_fillDraft 107 (.goto (-57)) (-57) 50 110 := ⟨by decide +kernel, by decide, rfl⟩
theorem d_M_fillDraft_110 : dc b_M_fillDraft 110 (.return_) 1 111 := ⟨by decide +kernel, rfl⟩
def f_M_fillDraft_B20 (o : Nat) (kx48 : gS → gD → Int32 → Option ((Unit × gS × gD) × Nat × Nat)) (kb : gS → gD → Int32 → Int32 → Option ((Unit × gS × gD) × Nat × Nat)) (S : gS) (d : gD) (v1 : Int32) (v2 : Int32) : Option ((Unit × gS × gD) × Nat × Nat) :=
  kd S o 1 <|
  lt_ (sP S o 8) fun x2 =>
  nn x2 fun a3 =>
  kd S a3 61 <|
  if (Int32.ofNat (sN S a3)) ≤ v2 then (
    kx48 S d v1)
  else (
    lt_ (sP S o 11) fun x5 =>
    lt_ (sP S o 8) fun x6 =>
    nn x6 fun a7 =>
    kd S a7 61 <|
    gi v2 (sN S a7) <|
    lt_ (sP S a7 v2.toNatClampNeg) fun x10 =>
    nn x5 fun a11 =>
    kd S a11 3 <|
    bdA (f_Dr_take S d a11 x10) fun _ S15 d16 =>
    kb S15 d16 v1 (v2 + 1))
set_option maxRecDepth 100000 in
set_option maxHeartbeats 4000000 in
theorem w_M_fillDraft_B20 {X : GX} (hE : gE X b_M_fillDraft 5 "StandInMill" none "fillDraft" 6 135) {o : Nat} {r : Unit} {S' : gS} {d' : gD} {mc ms : Nat} (hmc : (xR X).cells = mc) (hms : (xR X).slots = ms) {kb : gS → gD → Int32 → Int32 → Option ((Unit × gS × gD) × Nat × Nat)} {kx48 : gS → gD → Int32 → Option ((Unit × gS × gD) × Nat × Nat)} (hkb : ∀ (cells slots dc ds : Nat) (S : gS) (d : gD) (v1 : Int32) (v2 : Int32), kb S d v1 v2 = some ((r, S', d'), dc, ds) → cells + dc = mc → slots + ds = ms → gw X cells slots (gQ X (none) S' d' mc ms) S d 20 [some (va_rf (some o)), some (.int v1), some (.int v2), none, none] []) (hkx48 : ∀ (cells slots dc ds : Nat) (S : gS) (d : gD) (v1 : Int32), kx48 S d v1 = some ((r, S', d'), dc, ds) → cells + dc = mc → slots + ds = ms → gw X cells slots (gQ X (none) S' d' mc ms) S d 48 [some (va_rf (some o)), some (.int v1), none, none, none] []) :
    ∀ (cells slots dc ds : Nat) (S : gS) (d : gD) (v1 : Int32) (v2 : Int32), f_M_fillDraft_B20 o kx48 kb S d v1 v2 = some ((r, S', d'), dc, ds) → cells + dc = mc → slots + ds = ms → gw X cells slots (gQ X (none) S' d' mc ms) S d 20 [some (va_rf (some o)), some (.int v1), some (.int v2), none, none] [] := by
  intro cells slots dc ds S d v1 v2 h hc hs
  unfold f_M_fillDraft_B20 at h
  refine g_iload_n (i := 2) hE d_M_fillDraft_20 rfl rfl ?_
  refine g_aload_n (i := 0) hE d_M_fillDraft_21 rfl rfl ?_
  obtain ⟨k1, h⟩ := kd_s h
  refine g_getR 8 hE kc_M k1 (Nat.le_of_ble_eq_true rfl) rfl m_48 d_M_fillDraft_22 (fun x2 e => ?_)
  replace h := lt_i e h; clear e
  obtain ⟨a3, rfl, h⟩ := nn_s h
  obtain ⟨k4, h⟩ := kd_s h
  refine g_alen hE k4 (by decide) d_M_fillDraft_25 ?_
  refine g_icmp_ge hE d_M_fillDraft_26 (fun c21 => ?_) (fun c21 => ?_)
  · replace h := if_t c21 h
    exact gw.less (lv' := [some (va_rf (some o)), some (.int v1), none, none, none]) (And.intro rfl (And.intro rfl trivial)) (hkx48 _ _ _ _ S d v1 h hc hs)
  · replace h := if_f c21 h
    refine g_aload_n (i := 0) hE d_M_fillDraft_29 rfl rfl ?_
    refine g_getR 11 hE kc_M k1 (Nat.le_of_ble_eq_true rfl) rfl m_56 d_M_fillDraft_30 (fun x5 e => ?_)
    replace h := lt_i e h; clear e
    refine g_aload_n (i := 0) hE d_M_fillDraft_33 rfl rfl ?_
    refine g_getR 8 hE kc_M k1 (Nat.le_of_ble_eq_true rfl) rfl m_48 d_M_fillDraft_34 (fun x6 e => ?_)
    replace h := lt_i e h; clear e
    refine g_iload_n (i := 2) hE d_M_fillDraft_37 rfl rfl ?_
    obtain ⟨a7, rfl, h⟩ := nn_s h
    obtain ⟨k8, h⟩ := kd_s h
    obtain ⟨g9, h⟩ := gi_s h
    refine g_aald hE k8 (by decide) rfl (fun _ => rfl) g9 d_M_fillDraft_38 (fun x10 e => ?_)
    replace h := lt_i e h; clear e
    obtain ⟨a11, rfl, h⟩ := nn_s h
    obtain ⟨k12, h⟩ := kd_s h
    obtain ⟨x13, S15, d16, n17, n18, dc0, ds0, e14, h, hc0, hs0⟩ := bdA_s h
    refine g_callV (av := [.inr (.inr (some a11)), .inr (.inr x10)]) (as := [.inr (.inr x10)]) (stk := []) [] hE (c_Dr_take (xl X) (xG X) e14) ky_Dr_take ⟨Nat.le_of_ble_eq_true rfl, Nat.le_of_ble_eq_true rfl⟩ rfl kc_Dr k12 m_224 m_225 m_226 rfl d_M_fillDraft_39 rfl rfl ct_0 (cnt_room hmc hc hc0) (cnt_room hms hs hs0) ?_
    refine gw.gen (fun c19 s20 ec es => ?_)
    replace hc := cnt_step hc hc0 ec; replace hs := cnt_step hs hs0 es; clear hc0 hs0 ec es
    refine g_iinc (i := 2) (lv' := [some (va_rf (some o)), some (.int v1), some (.int (v2 + 1)), none, none]) hE d_M_fillDraft_42 ki_1 rfl (Nat.le_of_ble_eq_true rfl) ⟨rfl, Nat.le_of_ble_eq_true rfl⟩ (lvp_i rfl) ?_
    refine g_goto hE d_M_fillDraft_45 ?_
    exact gw.less (lv' := [some (va_rf (some o)), some (.int v1), some (.int (v2 + 1)), none, none]) (And.intro rfl (And.intro rfl (And.intro rfl trivial))) (hkb _ _ _ _ S15 d16 v1 (v2 + 1) h hc hs)
theorem w_M_fillDraft_L20 {X : GX} (hE : gE X b_M_fillDraft 5 "StandInMill" none "fillDraft" 6 135) {o : Nat} {r : Unit} {S' : gS} {d' : gD} {mc ms : Nat} (hmc : (xR X).cells = mc) (hms : (xR X).slots = ms) {kx48 : gS → gD → Int32 → Option ((Unit × gS × gD) × Nat × Nat)} (hkx48 : ∀ (cells slots dc ds : Nat) (S : gS) (d : gD) (v1 : Int32), kx48 S d v1 = some ((r, S', d'), dc, ds) → cells + dc = mc → slots + ds = ms → gw X cells slots (gQ X (none) S' d' mc ms) S d 48 [some (va_rf (some o)), some (.int v1), none, none, none] []) : ∀ (n : Nat) (cells slots dc ds : Nat) (S : gS) (d : gD) (v1 : Int32) (v2 : Int32), itr (f_M_fillDraft_B20 o kx48) (fun _ _ _ _ => none) n S d v1 v2 = some ((r, S', d'), dc, ds) → cells + dc = mc → slots + ds = ms → gw X cells slots (gQ X (none) S' d' mc ms) S d 20 [some (va_rf (some o)), some (.int v1), some (.int v2), none, none] [] := by
  intro n
  induction n with
  | zero => intro cells slots dc ds S d v1 v2 h hc hs; cases h
  | succ n ih => exact w_M_fillDraft_B20 hE hmc hms ih hkx48
def f_M_fillDraft_B75 (o : Nat) (kx104 : gS → gD → Int32 → Int32 → Option ((Unit × gS × gD) × Nat × Nat)) (kb : gS → gD → Int32 → Int32 → Option Nat → Int32 → Option ((Unit × gS × gD) × Nat × Nat)) (S : gS) (d : gD) (v1 : Int32) (v2 : Int32) (v3 : Option Nat) (v4 : Int32) : Option ((Unit × gS × gD) × Nat × Nat) :=
  nn v3 fun a1 =>
  kd S a1 4 <|
  lt_ (dI d a1 9) fun x3 =>
  if x3 ≤ v4 then (
    kx104 S d v1 v2)
  else (
    kd S o 1 <|
    lt_ (sP S o 11) fun x5 =>
    lt_ (sP S a1 8) fun x6 =>
    nn x6 fun a7 =>
    kd S a7 61 <|
    gi v4 (sN S a7) <|
    lt_ (sP S a7 v4.toNatClampNeg) fun x10 =>
    nn x5 fun a11 =>
    kd S a11 3 <|
    bdA (f_Dr_take S d a11 x10) fun _ S15 d16 =>
    kb S15 d16 v1 v2 (some a1) (v4 + 1))
set_option maxRecDepth 100000 in
set_option maxHeartbeats 4000000 in
theorem w_M_fillDraft_B75 {X : GX} (hE : gE X b_M_fillDraft 5 "StandInMill" none "fillDraft" 6 135) {o : Nat} {r : Unit} {S' : gS} {d' : gD} {mc ms : Nat} (hmc : (xR X).cells = mc) (hms : (xR X).slots = ms) {kb : gS → gD → Int32 → Int32 → Option Nat → Int32 → Option ((Unit × gS × gD) × Nat × Nat)} {kx104 : gS → gD → Int32 → Int32 → Option ((Unit × gS × gD) × Nat × Nat)} (hkb : ∀ (cells slots dc ds : Nat) (S : gS) (d : gD) (v1 : Int32) (v2 : Int32) (v3 : Option Nat) (v4 : Int32), kb S d v1 v2 v3 v4 = some ((r, S', d'), dc, ds) → cells + dc = mc → slots + ds = ms → gw X cells slots (gQ X (none) S' d' mc ms) S d 75 [some (va_rf (some o)), some (.int v1), some (.int v2), some (va_rf v3), some (.int v4)] []) (hkx104 : ∀ (cells slots dc ds : Nat) (S : gS) (d : gD) (v1 : Int32) (v2 : Int32), kx104 S d v1 v2 = some ((r, S', d'), dc, ds) → cells + dc = mc → slots + ds = ms → gw X cells slots (gQ X (none) S' d' mc ms) S d 104 [some (va_rf (some o)), some (.int v1), some (.int v2), none, none] []) :
    ∀ (cells slots dc ds : Nat) (S : gS) (d : gD) (v1 : Int32) (v2 : Int32) (v3 : Option Nat) (v4 : Int32), f_M_fillDraft_B75 o kx104 kb S d v1 v2 v3 v4 = some ((r, S', d'), dc, ds) → cells + dc = mc → slots + ds = ms → gw X cells slots (gQ X (none) S' d' mc ms) S d 75 [some (va_rf (some o)), some (.int v1), some (.int v2), some (va_rf v3), some (.int v4)] [] := by
  intro cells slots dc ds S d v1 v2 v3 v4 h hc hs
  unfold f_M_fillDraft_B75 at h
  refine g_iload (i := 4) hE d_M_fillDraft_75 rfl ?_
  refine g_aload_n (i := 3) hE d_M_fillDraft_77 rfl rfl ?_
  obtain ⟨a1, rfl, h⟩ := nn_s h
  obtain ⟨k2, h⟩ := kd_s h
  refine g_getIN 9 hE kc_Fc k2 (Nat.le_of_ble_eq_true rfl) rfl nf_22 d_M_fillDraft_78 (fun x3 e => ?_)
  replace h := lt_i e h; clear e
  refine g_icmp_ge hE d_M_fillDraft_81 (fun c21 => ?_) (fun c21 => ?_)
  · replace h := if_t c21 h
    exact gw.less (lv' := [some (va_rf (some o)), some (.int v1), some (.int v2), none, none]) (And.intro rfl (And.intro rfl (And.intro rfl trivial))) (hkx104 _ _ _ _ S d v1 v2 h hc hs)
  · replace h := if_f c21 h
    refine g_aload_n (i := 0) hE d_M_fillDraft_84 rfl rfl ?_
    obtain ⟨k4, h⟩ := kd_s h
    refine g_getR 11 hE kc_M k4 (Nat.le_of_ble_eq_true rfl) rfl m_56 d_M_fillDraft_85 (fun x5 e => ?_)
    replace h := lt_i e h; clear e
    refine g_aload_n (i := 3) hE d_M_fillDraft_88 rfl rfl ?_
    refine g_getRN 8 hE kc_Fc k2 (Nat.le_of_ble_eq_true rfl) rfl nf_23 d_M_fillDraft_89 (fun x6 e => ?_)
    replace h := lt_i e h; clear e
    refine g_iload (i := 4) hE d_M_fillDraft_92 rfl ?_
    obtain ⟨a7, rfl, h⟩ := nn_s h
    obtain ⟨k8, h⟩ := kd_s h
    obtain ⟨g9, h⟩ := gi_s h
    refine g_aald hE k8 (by decide) rfl (fun _ => rfl) g9 d_M_fillDraft_94 (fun x10 e => ?_)
    replace h := lt_i e h; clear e
    obtain ⟨a11, rfl, h⟩ := nn_s h
    obtain ⟨k12, h⟩ := kd_s h
    obtain ⟨x13, S15, d16, n17, n18, dc0, ds0, e14, h, hc0, hs0⟩ := bdA_s h
    refine g_callV (av := [.inr (.inr (some a11)), .inr (.inr x10)]) (as := [.inr (.inr x10)]) (stk := []) [] hE (c_Dr_take (xl X) (xG X) e14) ky_Dr_take ⟨Nat.le_of_ble_eq_true rfl, Nat.le_of_ble_eq_true rfl⟩ rfl kc_Dr k12 m_224 m_225 m_226 rfl d_M_fillDraft_95 rfl rfl ct_0 (cnt_room hmc hc hc0) (cnt_room hms hs hs0) ?_
    refine gw.gen (fun c19 s20 ec es => ?_)
    replace hc := cnt_step hc hc0 ec; replace hs := cnt_step hs hs0 es; clear hc0 hs0 ec es
    refine g_iinc (i := 4) (lv' := [some (va_rf (some o)), some (.int v1), some (.int v2), some (va_rf (some a1)), some (.int (v4 + 1))]) hE d_M_fillDraft_98 ki_1 rfl (Nat.le_of_ble_eq_true rfl) ⟨rfl, Nat.le_of_ble_eq_true rfl⟩ (lvp_r rfl) ?_
    refine g_goto hE d_M_fillDraft_101 ?_
    exact gw.less (lv' := [some (va_rf (some o)), some (.int v1), some (.int v2), some (va_rf (some a1)), some (.int (v4 + 1))]) (And.intro rfl (And.intro rfl (And.intro rfl (And.intro rfl (And.intro rfl trivial))))) (hkb _ _ _ _ S15 d16 v1 v2 (some a1) (v4 + 1) h hc hs)
theorem w_M_fillDraft_L75 {X : GX} (hE : gE X b_M_fillDraft 5 "StandInMill" none "fillDraft" 6 135) {o : Nat} {r : Unit} {S' : gS} {d' : gD} {mc ms : Nat} (hmc : (xR X).cells = mc) (hms : (xR X).slots = ms) {kx104 : gS → gD → Int32 → Int32 → Option ((Unit × gS × gD) × Nat × Nat)} (hkx104 : ∀ (cells slots dc ds : Nat) (S : gS) (d : gD) (v1 : Int32) (v2 : Int32), kx104 S d v1 v2 = some ((r, S', d'), dc, ds) → cells + dc = mc → slots + ds = ms → gw X cells slots (gQ X (none) S' d' mc ms) S d 104 [some (va_rf (some o)), some (.int v1), some (.int v2), none, none] []) : ∀ (n : Nat) (cells slots dc ds : Nat) (S : gS) (d : gD) (v1 : Int32) (v2 : Int32) (v3 : Option Nat) (v4 : Int32), itr (f_M_fillDraft_B75 o kx104) (fun _ _ _ _ _ _ => none) n S d v1 v2 v3 v4 = some ((r, S', d'), dc, ds) → cells + dc = mc → slots + ds = ms → gw X cells slots (gQ X (none) S' d' mc ms) S d 75 [some (va_rf (some o)), some (.int v1), some (.int v2), some (va_rf v3), some (.int v4)] [] := by
  intro n
  induction n with
  | zero => intro cells slots dc ds S d v1 v2 v3 v4 h hc hs; cases h
  | succ n ih => exact w_M_fillDraft_B75 hE hmc hms ih hkx104
def f_M_fillDraft_J104 (o : Nat) (kb : gS → gD → Int32 → Int32 → Option ((Unit × gS × gD) × Nat × Nat)) (S : gS) (d : gD) (v1 : Int32) (v2 : Int32) : Option ((Unit × gS × gD) × Nat × Nat) :=
  kb S d v1 (v2 + 1)
set_option maxRecDepth 100000 in
set_option maxHeartbeats 4000000 in
theorem w_M_fillDraft_J104 {X : GX} (hE : gE X b_M_fillDraft 5 "StandInMill" none "fillDraft" 6 135) {o : Nat} {r : Unit} {S' : gS} {d' : gD} {mc ms : Nat} (hmc : (xR X).cells = mc) (hms : (xR X).slots = ms) {kb : gS → gD → Int32 → Int32 → Option ((Unit × gS × gD) × Nat × Nat)} (hkb : ∀ (cells slots dc ds : Nat) (S : gS) (d : gD) (v1 : Int32) (v2 : Int32), kb S d v1 v2 = some ((r, S', d'), dc, ds) → cells + dc = mc → slots + ds = ms → gw X cells slots (gQ X (none) S' d' mc ms) S d 50 [some (va_rf (some o)), some (.int v1), some (.int v2), none, none] []) :
    ∀ (cells slots dc ds : Nat) (S : gS) (d : gD) (v1 : Int32) (v2 : Int32), f_M_fillDraft_J104 o kb S d v1 v2 = some ((r, S', d'), dc, ds) → cells + dc = mc → slots + ds = ms → gw X cells slots (gQ X (none) S' d' mc ms) S d 104 [some (va_rf (some o)), some (.int v1), some (.int v2), none, none] [] := by
  intro cells slots dc ds S d v1 v2 h hc hs
  unfold f_M_fillDraft_J104 at h
  refine g_iinc (i := 2) (lv' := [some (va_rf (some o)), some (.int v1), some (.int (v2 + 1)), none, none]) hE d_M_fillDraft_104 ki_1 rfl (Nat.le_of_ble_eq_true rfl) ⟨rfl, Nat.le_of_ble_eq_true rfl⟩ (lvp_i rfl) ?_
  refine g_goto hE d_M_fillDraft_107 ?_
  exact gw.less (lv' := [some (va_rf (some o)), some (.int v1), some (.int (v2 + 1)), none, none]) (And.intro rfl (And.intro rfl (And.intro rfl trivial))) (hkb _ _ _ _ S d v1 (v2 + 1) h hc hs)
def f_M_fillDraft_B50 (o : Nat) (kb : gS → gD → Int32 → Int32 → Option ((Unit × gS × gD) × Nat × Nat)) (S : gS) (d : gD) (v1 : Int32) (v2 : Int32) : Option ((Unit × gS × gD) × Nat × Nat) :=
  bd (f_M_lengthOf S d v1) fun x1 =>
  if x1 ≤ v2 then (
    some (((), S, d), 0, 0))
  else (
    kd S o 1 <|
    lt_ (sP S o 3) fun x4 =>
    bd (f_M_byteOf S d v1 v2) fun x5 =>
    nn x4 fun a7 =>
    kd S a7 60 <|
    gi (x5 - 24) (sN S a7) <|
    lt_ (sP S a7 (x5 - 24 : Int32).toNatClampNeg) fun x10 =>
    itr (f_M_fillDraft_B75 o (f_M_fillDraft_J104 o kb)) (fun _ _ _ _ _ _ => none) fu S d v1 v2 x10 0)
set_option maxRecDepth 100000 in
set_option maxHeartbeats 4000000 in
theorem w_M_fillDraft_B50 {X : GX} (hE : gE X b_M_fillDraft 5 "StandInMill" none "fillDraft" 6 135) {o : Nat} {r : Unit} {S' : gS} {d' : gD} {mc ms : Nat} (hmc : (xR X).cells = mc) (hms : (xR X).slots = ms) {kb : gS → gD → Int32 → Int32 → Option ((Unit × gS × gD) × Nat × Nat)} (hkb : ∀ (cells slots dc ds : Nat) (S : gS) (d : gD) (v1 : Int32) (v2 : Int32), kb S d v1 v2 = some ((r, S', d'), dc, ds) → cells + dc = mc → slots + ds = ms → gw X cells slots (gQ X (none) S' d' mc ms) S d 50 [some (va_rf (some o)), some (.int v1), some (.int v2), none, none] []) :
    ∀ (cells slots dc ds : Nat) (S : gS) (d : gD) (v1 : Int32) (v2 : Int32), f_M_fillDraft_B50 o kb S d v1 v2 = some ((r, S', d'), dc, ds) → cells + dc = mc → slots + ds = ms → gw X cells slots (gQ X (none) S' d' mc ms) S d 50 [some (va_rf (some o)), some (.int v1), some (.int v2), none, none] [] := by
  intro cells slots dc ds S d v1 v2 h hc hs
  unfold f_M_fillDraft_B50 at h
  refine g_iload_n (i := 2) hE d_M_fillDraft_50 rfl rfl ?_
  refine g_iload_n (i := 1) hE d_M_fillDraft_51 rfl rfl ?_
  obtain ⟨x1, e2, h⟩ := bd_s h
  refine g_callS (av := [.inl v1]) (stk := [.int x1, .int v2]) [.int v2] hE (c_M_lengthOf (xl X) (xG X) e2) ky_M_lengthOf ⟨Nat.le_of_ble_eq_true rfl, Nat.le_of_ble_eq_true rfl⟩ m_134 m_135 rfl d_M_fillDraft_52 rfl rfl (Nat.le_trans (ct_i ct_n) (Nat.le_of_ble_eq_true rfl)) (cnt_room0 hmc hc) (cnt_room0 hms hs) ?_
  refine gw.cs (c2 := cells) (s2 := slots) rfl rfl ?_
  refine g_icmp_ge hE d_M_fillDraft_55 (fun c11 => ?_) (fun c11 => ?_)
  · replace h := if_t c11 h
    cases h
    exact g_vret hE d_M_fillDraft_110 hc hs
  · replace h := if_f c11 h
    refine g_aload_n (i := 0) hE d_M_fillDraft_58 rfl rfl ?_
    obtain ⟨k3, h⟩ := kd_s h
    refine g_getR 3 hE kc_M k3 (Nat.le_of_ble_eq_true rfl) rfl m_44 d_M_fillDraft_59 (fun x4 e => ?_)
    replace h := lt_i e h; clear e
    refine g_iload_n (i := 1) hE d_M_fillDraft_62 rfl rfl ?_
    refine g_iload_n (i := 2) hE d_M_fillDraft_63 rfl rfl ?_
    obtain ⟨x5, e6, h⟩ := bd_s h
    refine g_callS (av := [.inl v1, .inl v2]) (stk := [.int x5, va_rf x4]) [va_rf x4] hE (c_M_byteOf (xl X) (xG X) e6) ky_M_byteOf ⟨Nat.le_of_ble_eq_true rfl, Nat.le_of_ble_eq_true rfl⟩ m_128 m_129 rfl d_M_fillDraft_64 rfl rfl (Nat.le_trans (ct_r ct_n) (Nat.le_of_ble_eq_true rfl)) (cnt_room0 hmc hc) (cnt_room0 hms hs) ?_
    refine gw.cs (c2 := cells) (s2 := slots) rfl rfl ?_
    refine g_bipush hE d_M_fillDraft_67 kb_24 ?_
    refine g_isub hE d_M_fillDraft_69 ?_
    obtain ⟨a7, rfl, h⟩ := nn_s h
    obtain ⟨k8, h⟩ := kd_s h
    obtain ⟨g9, h⟩ := gi_s h
    refine g_aald hE k8 (by decide) rfl (fun _ => rfl) g9 d_M_fillDraft_70 (fun x10 e => ?_)
    replace h := lt_i e h; clear e
    refine g_astore_n (i := 3) (lv' := [some (va_rf (some o)), some (.int v1), some (.int v2), some (va_rf x10), none]) hE d_M_fillDraft_71 rfl (Nat.le_of_ble_eq_true rfl) ⟨rfl, Nat.le_of_ble_eq_true rfl⟩ (lvp_i rfl) ?_
    refine g_iconst hE d_M_fillDraft_72 ki_0 ?_
    refine g_istore (i := 4) (lv' := [some (va_rf (some o)), some (.int v1), some (.int v2), some (va_rf x10), some (.int 0)]) hE d_M_fillDraft_73 (Nat.le_of_ble_eq_true rfl) ⟨rfl, Nat.le_of_ble_eq_true rfl⟩ (lvp_r rfl) ?_
    exact gw.less (lv' := [some (va_rf (some o)), some (.int v1), some (.int v2), some (va_rf x10), some (.int 0)]) (And.intro rfl (And.intro rfl (And.intro rfl (And.intro rfl (And.intro rfl trivial))))) (w_M_fillDraft_L75 hE hmc hms (w_M_fillDraft_J104 hE hmc hms hkb) fu _ _ _ _ S d v1 v2 x10 0 h hc hs)
theorem w_M_fillDraft_L50 {X : GX} (hE : gE X b_M_fillDraft 5 "StandInMill" none "fillDraft" 6 135) {o : Nat} {r : Unit} {S' : gS} {d' : gD} {mc ms : Nat} (hmc : (xR X).cells = mc) (hms : (xR X).slots = ms) : ∀ (n : Nat) (cells slots dc ds : Nat) (S : gS) (d : gD) (v1 : Int32) (v2 : Int32), itr (f_M_fillDraft_B50 o) (fun _ _ _ _ => none) n S d v1 v2 = some ((r, S', d'), dc, ds) → cells + dc = mc → slots + ds = ms → gw X cells slots (gQ X (none) S' d' mc ms) S d 50 [some (va_rf (some o)), some (.int v1), some (.int v2), none, none] [] := by
  intro n
  induction n with
  | zero => intro cells slots dc ds S d v1 v2 h hc hs; cases h
  | succ n ih => exact w_M_fillDraft_B50 hE hmc hms ih
def f_M_fillDraft_J48 (o : Nat) (S : gS) (d : gD) (v1 : Int32) : Option ((Unit × gS × gD) × Nat × Nat) :=
  itr (f_M_fillDraft_B50 o) (fun _ _ _ _ => none) fu S d v1 0
set_option maxRecDepth 100000 in
set_option maxHeartbeats 4000000 in
theorem w_M_fillDraft_J48 {X : GX} (hE : gE X b_M_fillDraft 5 "StandInMill" none "fillDraft" 6 135) {o : Nat} {r : Unit} {S' : gS} {d' : gD} {mc ms : Nat} (hmc : (xR X).cells = mc) (hms : (xR X).slots = ms) :
    ∀ (cells slots dc ds : Nat) (S : gS) (d : gD) (v1 : Int32), f_M_fillDraft_J48 o S d v1 = some ((r, S', d'), dc, ds) → cells + dc = mc → slots + ds = ms → gw X cells slots (gQ X (none) S' d' mc ms) S d 48 [some (va_rf (some o)), some (.int v1), none, none, none] [] := by
  intro cells slots dc ds S d v1 h hc hs
  unfold f_M_fillDraft_J48 at h
  refine g_iconst hE d_M_fillDraft_48 ki_0 ?_
  refine g_istore_n (i := 2) (lv' := [some (va_rf (some o)), some (.int v1), some (.int 0), none, none]) hE d_M_fillDraft_49 rfl (Nat.le_of_ble_eq_true rfl) ⟨rfl, Nat.le_of_ble_eq_true rfl⟩ (lvp_i rfl) ?_
  exact gw.less (lv' := [some (va_rf (some o)), some (.int v1), some (.int 0), none, none]) (And.intro rfl (And.intro rfl (And.intro rfl trivial))) (w_M_fillDraft_L50 hE hmc hms fu _ _ _ _ S d v1 0 h hc hs)
def f_M_fillDraft_J11 (o : Nat) (S : gS) (d : gD) (v1 : Int32) : Option ((Unit × gS × gD) × Nat × Nat) :=
  kd S o 1 <|
  lt_ (sP S o 11) fun x2 =>
  nn x2 fun a3 =>
  kd S a3 3 <|
  bdD (f_Dr_clear S d a3) fun _ d7 =>
  itr (f_M_fillDraft_B20 o (f_M_fillDraft_J48 o)) (fun _ _ _ _ => none) fu S d7 v1 0
set_option maxRecDepth 100000 in
set_option maxHeartbeats 4000000 in
theorem w_M_fillDraft_J11 {X : GX} (hE : gE X b_M_fillDraft 5 "StandInMill" none "fillDraft" 6 135) {o : Nat} {r : Unit} {S' : gS} {d' : gD} {mc ms : Nat} (hmc : (xR X).cells = mc) (hms : (xR X).slots = ms) :
    ∀ (cells slots dc ds : Nat) (S : gS) (d : gD) (v1 : Int32), f_M_fillDraft_J11 o S d v1 = some ((r, S', d'), dc, ds) → cells + dc = mc → slots + ds = ms → gw X cells slots (gQ X (none) S' d' mc ms) S d 11 [some (va_rf (some o)), some (.int v1), none, none, none] [] := by
  intro cells slots dc ds S d v1 h hc hs
  unfold f_M_fillDraft_J11 at h
  refine g_aload_n (i := 0) hE d_M_fillDraft_11 rfl rfl ?_
  obtain ⟨k1, h⟩ := kd_s h
  refine g_getR 11 hE kc_M k1 (Nat.le_of_ble_eq_true rfl) rfl m_56 d_M_fillDraft_12 (fun x2 e => ?_)
  replace h := lt_i e h; clear e
  obtain ⟨a3, rfl, h⟩ := nn_s h
  obtain ⟨k4, h⟩ := kd_s h
  obtain ⟨x5, d7, e6, h⟩ := bdD_s h
  refine g_callV (av := [.inr (.inr (some a3))]) (as := []) (stk := []) [] hE (c_Dr_clear (xl X) (xG X) e6) ky_Dr_clear ⟨Nat.le_of_ble_eq_true rfl, Nat.le_of_ble_eq_true rfl⟩ rfl kc_Dr k4 m_221 m_222 m_223 rfl d_M_fillDraft_15 rfl rfl ct_0 (cnt_room0 hmc hc) (cnt_room0 hms hs) ?_
  refine gw.cs (c2 := cells) (s2 := slots) rfl rfl ?_
  refine g_iconst hE d_M_fillDraft_18 ki_0 ?_
  refine g_istore_n (i := 2) (lv' := [some (va_rf (some o)), some (.int v1), some (.int 0), none, none]) hE d_M_fillDraft_19 rfl (Nat.le_of_ble_eq_true rfl) ⟨rfl, Nat.le_of_ble_eq_true rfl⟩ (lvp_i rfl) ?_
  exact gw.less (lv' := [some (va_rf (some o)), some (.int v1), some (.int 0), none, none]) (And.intro rfl (And.intro rfl (And.intro rfl trivial))) (w_M_fillDraft_L20 hE hmc hms (w_M_fillDraft_J48 hE hmc hms) fu _ _ _ _ S d7 v1 0 h hc hs)
set_option maxRecDepth 100000 in
def f_M_fillDraft (S : gS) (d : gD) (o : Nat) (v1 : Int32) : Option ((Unit × gS × gD) × Nat × Nat) :=
  kd S o 1 <|
  lt_ (dI d o 13) fun x2 =>
  if x2 = 0 then (
    bdP (f_M_gatherMethods S d o) fun _ S5 d6 =>
    f_M_fillDraft_J11 o S5 d6 v1)
  else (
    f_M_fillDraft_J11 o S d v1)
set_option maxRecDepth 100000 in
set_option maxHeartbeats 4000000 in
theorem c_M_fillDraft (l : Launch) (G : gG) {S : gS} {d : gD} {o : Nat} {v1 : Int32} {r : Unit} {d' : gD} {S' : gS} {dc ds : Nat} (h : f_M_fillDraft S d o v1 = some ((r, S', d'), dc, ds)) : GM l G y_M_fillDraft b_M_fillDraft 5 none 6 135 dc ds [.inr (.inr (some o)), .inl v1] S d (none) S' d' := by
  refine GM.of (by decide) (Nat.le_of_ble_eq_true rfl) ?_
  intro X hl0 hG0 hR0 hE0
  have hE : gE X b_M_fillDraft 5 "StandInMill" none "fillDraft" 6 135 := hE0
  have hmc : (xR X).cells = dc := by rw [hR0]
  have hms : (xR X).slots = ds := by rw [hR0]
  obtain ⟨mc, emc⟩ : ∃ z, z = dc := ⟨_, rfl⟩
  obtain ⟨ms, ems⟩ : ∃ z, z = ds := ⟨_, rfl⟩
  rw [← emc] at hmc
  rw [← ems] at hms
  have hc : 0 + dc = mc := by omega
  have hs : 0 + ds = ms := by omega
  show gw X 0 0 (gQ X _ _ _ dc ds) _ _ _ _ _
  rw [← emc, ← ems]
  clear hR0 emc ems
  unfold f_M_fillDraft at h
  refine gw.less (lv' := [some (va_rf (some o)), some (.int v1), none, none, none]) (And.intro rfl (And.intro rfl trivial)) ?_
  refine g_aload_n (i := 0) hE d_M_fillDraft_0 rfl rfl ?_
  obtain ⟨k1, h⟩ := kd_s h
  refine g_getI 13 hE kc_M k1 (Nat.le_of_ble_eq_true rfl) rfl m_127 d_M_fillDraft_1 (fun x2 e => ?_)
  replace h := lt_i e h; clear e
  refine g_if_ne hE d_M_fillDraft_4 (fun c7 => ?_) (fun c7 => ?_)
  · replace h := if_f c7 h
    exact gw.less (lv' := [some (va_rf (some o)), some (.int v1), none, none, none]) (And.intro rfl (And.intro rfl trivial)) (w_M_fillDraft_J11 hE hmc hms _ _ _ _ S d v1 h hc hs)
  · replace h := if_t c7 h
    refine g_aload_n (i := 0) hE d_M_fillDraft_7 rfl rfl ?_
    obtain ⟨x3, S5, d6, e4, h⟩ := bdP_s h
    refine g_callV (av := [.inr (.inr (some o))]) (as := []) (stk := []) [] hE (c_M_gatherMethods (xl X) (xG X) e4) ky_M_gatherMethods ⟨Nat.le_of_ble_eq_true rfl, Nat.le_of_ble_eq_true rfl⟩ rfl kc_M k1 m_227 m_228 m_229 rfl d_M_fillDraft_8 rfl rfl ct_0 (cnt_room0 hmc hc) (cnt_room0 hms hs) ?_
    refine gw.cs (c2 := 0) (s2 := 0) rfl rfl ?_
    exact gw.less (lv' := [some (va_rf (some o)), some (.int v1), none, none, none]) (And.intro rfl (And.intro rfl trivial)) (w_M_fillDraft_J11 hE hmc hms _ _ _ _ S5 d6 v1 h hc hs)
theorem d_Dr_endOfSignature_0 : dc b_Dr_endOfSignature 0 (.iload_n 1) 1 1 := ⟨by decide +kernel, rfl⟩
theorem d_Dr_endOfSignature_1 : dc b_Dr_endOfSignature 1 (.iconst 1) 1 2 := ⟨by decide +kernel, rfl⟩
theorem d_Dr_endOfSignature_2 : dc b_Dr_endOfSignature 2 (.iadd) 1 3 := ⟨by decide +kernel, rfl⟩
theorem d_Dr_endOfSignature_3 : dc b_Dr_endOfSignature 3 (.istore_n 2) 1 4 := ⟨by decide +kernel, rfl⟩
theorem d_Dr_endOfSignature_4 : dc b_Dr_endOfSignature 4 (.iload_n 2) 1 5 := ⟨by decide +kernel, rfl⟩
theorem d_Dr_endOfSignature_5 : dc b_Dr_endOfSignature 5 (.aload_n 0) 1 6 := ⟨by decide +kernel, rfl⟩
theorem d_Dr_endOfSignature_6 : dc b_Dr_endOfSignature 6 (.getfield 30) 3 9 := ⟨by decide +kernel, rfl⟩
theorem d_Dr_endOfSignature_9 : db b_Dr_endOfSignature 9 (.if_icmp .ge 33) 33 42 12 := ⟨by decide +kernel, by decide, rfl⟩
theorem d_Dr_endOfSignature_12 : dc b_Dr_endOfSignature 12 (.aload_n 0) 1 13 := ⟨by decide +kernel, rfl⟩
theorem d_Dr_endOfSignature_13 : dc b_Dr_endOfSignature 13 (.getfield 11) 3 16 := ⟨by decide +kernel, rfl⟩
theorem d_Dr_endOfSignature_16 : dc b_Dr_endOfSignature 16 (.iload_n 2) 1 17 := ⟨by decide +kernel, rfl⟩
theorem d_Dr_endOfSignature_17 : dc b_Dr_endOfSignature 17 (.aaload) 1 18 := ⟨by decide +kernel, rfl⟩
theorem d_Dr_endOfSignature_18 : dc b_Dr_endOfSignature 18 (.getfield 34) 3 21 := ⟨by decide +kernel, rfl⟩
theorem d_Dr_endOfSignature_21 : dc b_Dr_endOfSignature 21 (.aload_n 0) 1 22 := ⟨by decide +kernel, rfl⟩
theorem d_Dr_endOfSignature_22 : dc b_Dr_endOfSignature 22 (.getfield 11) 3 25 := ⟨by decide +kernel, rfl⟩
theorem d_Dr_endOfSignature_25 : dc b_Dr_endOfSignature 25 (.iload_n 1) 1 26 := ⟨by decide +kernel, rfl⟩
theorem d_Dr_endOfSignature_26 : dc b_Dr_endOfSignature 26 (.aaload) 1 27 := ⟨by decide +kernel, rfl⟩
theorem d_Dr_endOfSignature_27 : dc b_Dr_endOfSignature 27 (.getfield 34) 3 30 := ⟨by decide +kernel, rfl⟩
theorem d_Dr_endOfSignature_30 : dc b_Dr_endOfSignature 30 (.invokevirtual 38) 3 33 := ⟨by decide +kernel, rfl⟩
theorem d_Dr_endOfSignature_33 : db b_Dr_endOfSignature 33 (.ifCond .eq 9) 9 42 36 := ⟨by decide +kernel, by decide, rfl⟩
theorem d_Dr_endOfSignature_36 : dc b_Dr_endOfSignature 36 (.iinc 2 1) 3 39 := ⟨by decide +kernel, rfl⟩
theorem d_Dr_endOfSignature_39 : db b_Dr_endOfSignature 39 (.goto (-35)) (-35) 4 42 := ⟨by decide +kernel, by decide, rfl⟩
theorem d_Dr_endOfSignature_42 : dc b_Dr_endOfSignature 42 (.iload_n 2) 1 43 := ⟨by decide +kernel, rfl⟩
theorem d_Dr_endOfSignature_43 : dc b_Dr_endOfSignature 43 (.ireturn) 1 44 := ⟨by decide +kernel, rfl⟩
def f_Dr_endOfSignature_B4 (S : gS) (d : gD) (o : Nat) (kb : Int32 → Int32 → Option (Int32)) (v1 : Int32) (v2 : Int32) : Option (Int32) :=
  kd S o 3 <|
  lt_ (dI d o 2) fun x2 =>
  if x2 ≤ v2 then (
    some v2)
  else (
    lt_ (sP S o 1) fun x3 =>
    nn x3 fun a4 =>
    kd S a4 63 <|
    gi v2 (sN S a4) <|
    lt_ (sP S a4 v2.toNatClampNeg) fun x7 =>
    nn x7 fun a8 =>
    kd S a8 7 <|
    lt_ (sP S a8 0) fun x10 =>
    lt_ (sP S o 1) fun x11 =>
    nn x11 fun a12 =>
    kd S a12 63 <|
    gi v1 (sN S a12) <|
    lt_ (sP S a12 v1.toNatClampNeg) fun x15 =>
    nn x15 fun a16 =>
    kd S a16 7 <|
    lt_ (sP S a16 0) fun x18 =>
    nn x10 fun a19 =>
    kd S a19 5 <|
    bd (f_Om_hasSignatureOf S d a19 x18) fun x21 =>
    if x21 = 0 then (
      some v2)
    else (
      kb v1 (v2 + 1)))
set_option maxRecDepth 100000 in
set_option maxHeartbeats 4000000 in
theorem w_Dr_endOfSignature_B4 {X : GX} (hE : gE X b_Dr_endOfSignature 3 "StandInMill$Draft" (some (.int)) "endOfSignature" 1 21) {S : gS} {d : gD} {o : Nat} {r : Int32} {kb : Int32 → Int32 → Option (Int32)} (hkb : ∀ (v1 : Int32) (v2 : Int32), kb v1 v2 = some r → gw X 0 0 (gQ X (some (.int r)) S d 0 0) S d 4 [some (va_rf (some o)), some (.int v1), some (.int v2)] []) :
    ∀ (v1 : Int32) (v2 : Int32), f_Dr_endOfSignature_B4 S d o kb v1 v2 = some r → gw X 0 0 (gQ X (some (.int r)) S d 0 0) S d 4 [some (va_rf (some o)), some (.int v1), some (.int v2)] [] := by
  intro v1 v2 h
  unfold f_Dr_endOfSignature_B4 at h
  refine g_iload_n (i := 2) hE d_Dr_endOfSignature_4 rfl rfl ?_
  refine g_aload_n (i := 0) hE d_Dr_endOfSignature_5 rfl rfl ?_
  obtain ⟨k1, h⟩ := kd_s h
  refine g_getI 2 hE kc_Dr k1 (Nat.le_of_ble_eq_true rfl) rfl m_188 d_Dr_endOfSignature_6 (fun x2 e => ?_)
  replace h := lt_i e h; clear e
  refine g_icmp_ge hE d_Dr_endOfSignature_9 (fun c24 => ?_) (fun c24 => ?_)
  · replace h := if_t c24 h
    refine g_iload_n (i := 2) hE d_Dr_endOfSignature_42 rfl rfl ?_
    cases h
    exact g_iret hE d_Dr_endOfSignature_43 rfl rfl
  · replace h := if_f c24 h
    refine g_aload_n (i := 0) hE d_Dr_endOfSignature_12 rfl rfl ?_
    refine g_getR 1 hE kc_Dr k1 (Nat.le_of_ble_eq_true rfl) rfl m_13 d_Dr_endOfSignature_13 (fun x3 e => ?_)
    replace h := lt_i e h; clear e
    refine g_iload_n (i := 2) hE d_Dr_endOfSignature_16 rfl rfl ?_
    obtain ⟨a4, rfl, h⟩ := nn_s h
    obtain ⟨k5, h⟩ := kd_s h
    obtain ⟨g6, h⟩ := gi_s h
    refine g_aald hE k5 (by decide) rfl (fun _ => rfl) g6 d_Dr_endOfSignature_17 (fun x7 e => ?_)
    replace h := lt_i e h; clear e
    obtain ⟨a8, rfl, h⟩ := nn_s h
    obtain ⟨k9, h⟩ := kd_s h
    refine g_getRN 0 hE kc_Sm k9 (Nat.le_of_ble_eq_true rfl) rfl nf_18 d_Dr_endOfSignature_18 (fun x10 e => ?_)
    replace h := lt_i e h; clear e
    refine g_aload_n (i := 0) hE d_Dr_endOfSignature_21 rfl rfl ?_
    refine g_getR 1 hE kc_Dr k1 (Nat.le_of_ble_eq_true rfl) rfl m_13 d_Dr_endOfSignature_22 (fun x11 e => ?_)
    replace h := lt_i e h; clear e
    refine g_iload_n (i := 1) hE d_Dr_endOfSignature_25 rfl rfl ?_
    obtain ⟨a12, rfl, h⟩ := nn_s h
    obtain ⟨k13, h⟩ := kd_s h
    obtain ⟨g14, h⟩ := gi_s h
    refine g_aald hE k13 (by decide) rfl (fun _ => rfl) g14 d_Dr_endOfSignature_26 (fun x15 e => ?_)
    replace h := lt_i e h; clear e
    obtain ⟨a16, rfl, h⟩ := nn_s h
    obtain ⟨k17, h⟩ := kd_s h
    refine g_getRN 0 hE kc_Sm k17 (Nat.le_of_ble_eq_true rfl) rfl nf_18 d_Dr_endOfSignature_27 (fun x18 e => ?_)
    replace h := lt_i e h; clear e
    obtain ⟨a19, rfl, h⟩ := nn_s h
    obtain ⟨k20, h⟩ := kd_s h
    obtain ⟨x21, e22, h⟩ := bd_s h
    refine g_callV (av := [.inr (.inr (some a19)), .inr (.inr x18)]) (as := [.inr (.inr x18)]) (stk := [.int x21]) [] hE (c_Om_hasSignatureOf (xl X) (xG X) e22) ky_Om_hasSignatureOf ⟨Nat.le_of_ble_eq_true rfl, Nat.le_of_ble_eq_true rfl⟩ rfl kc_Om k20 m_212 m_213 m_214 rfl d_Dr_endOfSignature_30 rfl rfl ct_0 (Nat.zero_le _) (Nat.zero_le _) ?_
    refine gw.cs (c2 := 0) (s2 := 0) rfl rfl ?_
    refine g_if_eq hE d_Dr_endOfSignature_33 (fun c23 => ?_) (fun c23 => ?_)
    · replace h := if_t c23 h
      refine g_iload_n (i := 2) hE d_Dr_endOfSignature_42 rfl rfl ?_
      cases h
      exact g_iret hE d_Dr_endOfSignature_43 rfl rfl
    · replace h := if_f c23 h
      refine g_iinc (i := 2) (lv' := [some (va_rf (some o)), some (.int v1), some (.int (v2 + 1))]) hE d_Dr_endOfSignature_36 ki_1 rfl (Nat.le_of_ble_eq_true rfl) ⟨rfl, Nat.le_of_ble_eq_true rfl⟩ (lvp_i rfl) ?_
      refine g_goto hE d_Dr_endOfSignature_39 ?_
      exact gw.less (lv' := [some (va_rf (some o)), some (.int v1), some (.int (v2 + 1))]) (And.intro rfl (And.intro rfl (And.intro rfl trivial))) (hkb v1 (v2 + 1) h)
theorem w_Dr_endOfSignature_L4 {X : GX} (hE : gE X b_Dr_endOfSignature 3 "StandInMill$Draft" (some (.int)) "endOfSignature" 1 21) {S : gS} {d : gD} {o : Nat} {r : Int32} : ∀ (n : Nat) (v1 : Int32) (v2 : Int32), itr (f_Dr_endOfSignature_B4 S d o) (fun _ _ => none) n v1 v2 = some r → gw X 0 0 (gQ X (some (.int r)) S d 0 0) S d 4 [some (va_rf (some o)), some (.int v1), some (.int v2)] [] := by
  intro n
  induction n with
  | zero => intro v1 v2 h; cases h
  | succ n ih => exact w_Dr_endOfSignature_B4 hE ih
set_option maxRecDepth 100000 in
def f_Dr_endOfSignature (S : gS) (d : gD) (o : Nat) (v1 : Int32) : Option (Int32) :=
  itr (f_Dr_endOfSignature_B4 S d o) (fun _ _ => none) fu v1 (v1 + 1)
set_option maxRecDepth 100000 in
set_option maxHeartbeats 4000000 in
theorem c_Dr_endOfSignature (l : Launch) (G : gG) {S : gS} {d : gD} {o : Nat} {v1 : Int32} {r : Int32} (h : f_Dr_endOfSignature S d o v1 = some r) : GM l G y_Dr_endOfSignature b_Dr_endOfSignature 3 (some (.int)) 1 21 0 0 [.inr (.inr (some o)), .inl v1] S d (some (.int r)) S d := by
  refine GM.of (by decide) (Nat.le_of_ble_eq_true rfl) ?_
  intro X hl0 hG0 hR0 hE0
  have hE : gE X b_Dr_endOfSignature 3 "StandInMill$Draft" (some (.int)) "endOfSignature" 1 21 := hE0
  unfold f_Dr_endOfSignature at h
  refine gw.less (lv' := [some (va_rf (some o)), some (.int v1), none]) (And.intro rfl (And.intro rfl trivial)) ?_
  refine g_iload_n (i := 1) hE d_Dr_endOfSignature_0 rfl rfl ?_
  refine g_iconst hE d_Dr_endOfSignature_1 ki_1 ?_
  refine g_iadd hE d_Dr_endOfSignature_2 ?_
  refine g_istore_n (i := 2) (lv' := [some (va_rf (some o)), some (.int v1), some (.int (v1 + 1))]) hE d_Dr_endOfSignature_3 rfl (Nat.le_of_ble_eq_true rfl) ⟨rfl, Nat.le_of_ble_eq_true rfl⟩ (lvp_i rfl) ?_
  exact gw.less (lv' := [some (va_rf (some o)), some (.int v1), some (.int (v1 + 1))]) (And.intro rfl (And.intro rfl (And.intro rfl trivial))) (w_Dr_endOfSignature_L4 hE fu v1 (v1 + 1) h)
theorem d_Dr_isBelowAll_0 : dc b_Dr_isBelowAll 0 (.iload_n 2) 1 1 := ⟨by decide +kernel, rfl⟩
theorem d_Dr_isBelowAll_1 : dc b_Dr_isBelowAll 1 (.istore 4) 2 3 := ⟨by decide +kernel, rfl⟩
theorem d_Dr_isBelowAll_3 : dc b_Dr_isBelowAll 3 (.iload 4) 2 5 := ⟨by decide +kernel, rfl⟩
theorem d_Dr_isBelowAll_5 : dc b_Dr_isBelowAll 5 (.iload_n 3) 1 6 := ⟨by decide +kernel, rfl⟩
theorem d_Dr_isBelowAll_6 : db b_Dr_isBelowAll 6 (.if_icmp .ge 35) 35 41 9 := ⟨by decide +kernel, by decide, rfl⟩
theorem d_Dr_isBelowAll_9 : dc b_Dr_isBelowAll 9 (.aload_n 0) 1 10 := ⟨by decide +kernel, rfl⟩
theorem d_Dr_isBelowAll_10 : dc b_Dr_isBelowAll 10 (.getfield 26) 3 13 := ⟨by decide +kernel, rfl⟩
theorem d_Dr_isBelowAll_13 : dc b_Dr_isBelowAll 13 (.iload_n 1) 1 14 := ⟨by decide +kernel, rfl⟩
theorem d_Dr_isBelowAll_14 : dc b_Dr_isBelowAll 14 (.aload_n 0) 1 15 := ⟨by decide +kernel, rfl⟩
theorem d_Dr_isBelowAll_15 : dc b_Dr_isBelowAll 15 (.getfield 11) 3 18 := ⟨by decide +kernel, rfl⟩
theorem d_Dr_isBelowAll_18 : dc b_Dr_isBelowAll 18 (.iload 4) 2 20 := ⟨by decide +kernel, rfl⟩
theorem d_Dr_isBelowAll_20 : dc b_Dr_isBelowAll 20 (.aaload) 1 21 := ⟨by decide +kernel, rfl⟩
theorem d_Dr_isBelowAll_21 : dc b_Dr_isBelowAll 21 (.getfield 34) 3 24 := ⟨by decide +kernel, rfl⟩
theorem d_Dr_isBelowAll_24 : dc b_Dr_isBelowAll 24 (.getfield 44) 3 27 := ⟨by decide +kernel, rfl⟩
theorem d_Dr_isBelowAll_27 : dc b_Dr_isBelowAll 27 (.invokevirtual 89) 3 30 := ⟨by decide +kernel, rfl⟩
theorem d_Dr_isBelowAll_30 : db b_Dr_isBelowAll 30 (.ifCond .ne 5) 5 35 33 := ⟨by decide +kernel, by decide, rfl⟩
theorem d_Dr_isBelowAll_33 : dc b_Dr_isBelowAll 33 (.iconst 0) 1 34 := ⟨by decide +kernel, rfl⟩
theorem d_Dr_isBelowAll_34 : dc b_Dr_isBelowAll 34 (.ireturn) 1 35 := ⟨by decide +kernel, rfl⟩
theorem d_Dr_isBelowAll_35 : dc b_Dr_isBelowAll 35 (.iinc 4 1) 3 38 := ⟨by decide +kernel, rfl⟩
theorem d_Dr_isBelowAll_38 : db b_Dr_isBelowAll 38 (.goto (-35)) (-35) 3 41 := ⟨by decide +kernel, by decide, rfl⟩
theorem d_Dr_isBelowAll_41 : dc b_Dr_isBelowAll 41 (.iconst 1) 1 42 := ⟨by decide +kernel, rfl⟩
theorem d_Dr_isBelowAll_42 : dc b_Dr_isBelowAll 42 (.ireturn) 1 43 := ⟨by decide +kernel, rfl⟩
def f_Dr_isBelowAll_B3 (S : gS) (d : gD) (o : Nat) (kb : Int32 → Int32 → Int32 → Option (Int32)) (v1 : Int32) (v3 : Int32) (v4 : Int32) : Option (Int32) :=
  if v3 ≤ v4 then (
    some 1)
  else (
    kd S o 3 <|
    lt_ (sP S o 0) fun x2 =>
    lt_ (sP S o 1) fun x3 =>
    nn x3 fun a4 =>
    kd S a4 63 <|
    gi v4 (sN S a4) <|
    lt_ (sP S a4 v4.toNatClampNeg) fun x7 =>
    nn x7 fun a8 =>
    kd S a8 7 <|
    lt_ (sP S a8 0) fun x10 =>
    nn x10 fun a11 =>
    kd S a11 5 <|
    lt_ (dI d a11 4) fun x13 =>
    nn x2 fun a14 =>
    kd S a14 8 <|
    bd (f_Ty_isBelow S d a14 v1 x13) fun x16 =>
    if x16 = 0 then (
      some 0)
    else (
      kb v1 v3 (v4 + 1)))
set_option maxRecDepth 100000 in
set_option maxHeartbeats 4000000 in
theorem w_Dr_isBelowAll_B3 {X : GX} (hE : gE X b_Dr_isBelowAll 5 "StandInMill$Draft" (some (.boolean)) "isBelowAll" 2 43) {S : gS} {d : gD} {o : Nat} {r : Int32} {kb : Int32 → Int32 → Int32 → Option (Int32)} (hkb : ∀ (v1 : Int32) (v3 : Int32) (v4 : Int32), kb v1 v3 v4 = some r → gw X 0 0 (gQ X (some (.int r)) S d 0 0) S d 3 [some (va_rf (some o)), some (.int v1), none, some (.int v3), some (.int v4)] []) :
    ∀ (v1 : Int32) (v3 : Int32) (v4 : Int32), f_Dr_isBelowAll_B3 S d o kb v1 v3 v4 = some r → gw X 0 0 (gQ X (some (.int r)) S d 0 0) S d 3 [some (va_rf (some o)), some (.int v1), none, some (.int v3), some (.int v4)] [] := by
  intro v1 v3 v4 h
  unfold f_Dr_isBelowAll_B3 at h
  refine g_iload (i := 4) hE d_Dr_isBelowAll_3 rfl ?_
  refine g_iload_n (i := 3) hE d_Dr_isBelowAll_5 rfl rfl ?_
  refine g_icmp_ge hE d_Dr_isBelowAll_6 (fun c19 => ?_) (fun c19 => ?_)
  · replace h := if_t c19 h
    refine g_iconst hE d_Dr_isBelowAll_41 ki_1 ?_
    cases h
    exact g_zret hE (Or.inr rfl) d_Dr_isBelowAll_42 rfl rfl
  · replace h := if_f c19 h
    refine g_aload_n (i := 0) hE d_Dr_isBelowAll_9 rfl rfl ?_
    obtain ⟨k1, h⟩ := kd_s h
    refine g_getR 0 hE kc_Dr k1 (Nat.le_of_ble_eq_true rfl) rfl m_20 d_Dr_isBelowAll_10 (fun x2 e => ?_)
    replace h := lt_i e h; clear e
    refine g_iload_n (i := 1) hE d_Dr_isBelowAll_13 rfl rfl ?_
    refine g_aload_n (i := 0) hE d_Dr_isBelowAll_14 rfl rfl ?_
    refine g_getR 1 hE kc_Dr k1 (Nat.le_of_ble_eq_true rfl) rfl m_13 d_Dr_isBelowAll_15 (fun x3 e => ?_)
    replace h := lt_i e h; clear e
    refine g_iload (i := 4) hE d_Dr_isBelowAll_18 rfl ?_
    obtain ⟨a4, rfl, h⟩ := nn_s h
    obtain ⟨k5, h⟩ := kd_s h
    obtain ⟨g6, h⟩ := gi_s h
    refine g_aald hE k5 (by decide) rfl (fun _ => rfl) g6 d_Dr_isBelowAll_20 (fun x7 e => ?_)
    replace h := lt_i e h; clear e
    obtain ⟨a8, rfl, h⟩ := nn_s h
    obtain ⟨k9, h⟩ := kd_s h
    refine g_getRN 0 hE kc_Sm k9 (Nat.le_of_ble_eq_true rfl) rfl nf_18 d_Dr_isBelowAll_21 (fun x10 e => ?_)
    replace h := lt_i e h; clear e
    obtain ⟨a11, rfl, h⟩ := nn_s h
    obtain ⟨k12, h⟩ := kd_s h
    refine g_getIN 4 hE kc_Om k12 (Nat.le_of_ble_eq_true rfl) rfl nf_21 d_Dr_isBelowAll_24 (fun x13 e => ?_)
    replace h := lt_i e h; clear e
    obtain ⟨a14, rfl, h⟩ := nn_s h
    obtain ⟨k15, h⟩ := kd_s h
    obtain ⟨x16, e17, h⟩ := bd_s h
    refine g_callV (av := [.inr (.inr (some a14)), .inl v1, .inl x13]) (as := [.inl v1, .inl x13]) (stk := [.int x16]) [] hE (c_Ty_isBelow (xl X) (xG X) e17) ky_Ty_isBelow ⟨Nat.le_of_ble_eq_true rfl, Nat.le_of_ble_eq_true rfl⟩ rfl kc_Ty k15 m_230 m_109 m_110 rfl d_Dr_isBelowAll_27 rfl rfl ct_0 (Nat.zero_le _) (Nat.zero_le _) ?_
    refine gw.cs (c2 := 0) (s2 := 0) rfl rfl ?_
    refine g_if_ne hE d_Dr_isBelowAll_30 (fun c18 => ?_) (fun c18 => ?_)
    · replace h := if_f c18 h
      refine g_iinc (i := 4) (lv' := [some (va_rf (some o)), some (.int v1), none, some (.int v3), some (.int (v4 + 1))]) hE d_Dr_isBelowAll_35 ki_1 rfl (Nat.le_of_ble_eq_true rfl) ⟨rfl, Nat.le_of_ble_eq_true rfl⟩ (lvp_i rfl) ?_
      refine g_goto hE d_Dr_isBelowAll_38 ?_
      exact gw.less (lv' := [some (va_rf (some o)), some (.int v1), none, some (.int v3), some (.int (v4 + 1))]) (And.intro rfl (And.intro rfl (And.intro rfl (And.intro rfl trivial)))) (hkb v1 v3 (v4 + 1) h)
    · replace h := if_t c18 h
      refine g_iconst hE d_Dr_isBelowAll_33 ki_0 ?_
      cases h
      exact g_zret hE (Or.inl rfl) d_Dr_isBelowAll_34 rfl rfl
theorem w_Dr_isBelowAll_L3 {X : GX} (hE : gE X b_Dr_isBelowAll 5 "StandInMill$Draft" (some (.boolean)) "isBelowAll" 2 43) {S : gS} {d : gD} {o : Nat} {r : Int32} : ∀ (n : Nat) (v1 : Int32) (v3 : Int32) (v4 : Int32), itr (f_Dr_isBelowAll_B3 S d o) (fun _ _ _ => none) n v1 v3 v4 = some r → gw X 0 0 (gQ X (some (.int r)) S d 0 0) S d 3 [some (va_rf (some o)), some (.int v1), none, some (.int v3), some (.int v4)] [] := by
  intro n
  induction n with
  | zero => intro v1 v3 v4 h; cases h
  | succ n ih => exact w_Dr_isBelowAll_B3 hE ih
set_option maxRecDepth 100000 in
def f_Dr_isBelowAll (S : gS) (d : gD) (o : Nat) (v1 : Int32) (v2 : Int32) (v3 : Int32) : Option (Int32) :=
  itr (f_Dr_isBelowAll_B3 S d o) (fun _ _ _ => none) fu v1 v3 v2
set_option maxRecDepth 100000 in
set_option maxHeartbeats 4000000 in
theorem c_Dr_isBelowAll (l : Launch) (G : gG) {S : gS} {d : gD} {o : Nat} {v1 : Int32} {v2 : Int32} {v3 : Int32} {r : Int32} (h : f_Dr_isBelowAll S d o v1 v2 v3 = some r) : GM l G y_Dr_isBelowAll b_Dr_isBelowAll 5 (some (.boolean)) 2 43 0 0 [.inr (.inr (some o)), .inl v1, .inl v2, .inl v3] S d (some (.int r)) S d := by
  refine GM.of (by decide) (Nat.le_of_ble_eq_true rfl) ?_
  intro X hl0 hG0 hR0 hE0
  have hE : gE X b_Dr_isBelowAll 5 "StandInMill$Draft" (some (.boolean)) "isBelowAll" 2 43 := hE0
  unfold f_Dr_isBelowAll at h
  refine gw.less (lv' := [some (va_rf (some o)), some (.int v1), some (.int v2), some (.int v3), none]) (And.intro rfl (And.intro rfl (And.intro rfl (And.intro rfl trivial)))) ?_
  refine g_iload_n (i := 2) hE d_Dr_isBelowAll_0 rfl rfl ?_
  refine g_istore (i := 4) (lv' := [some (va_rf (some o)), some (.int v1), some (.int v2), some (.int v3), some (.int v2)]) hE d_Dr_isBelowAll_1 (Nat.le_of_ble_eq_true rfl) ⟨rfl, Nat.le_of_ble_eq_true rfl⟩ (lvp_i rfl) ?_
  exact gw.less (lv' := [some (va_rf (some o)), some (.int v1), none, some (.int v3), some (.int v2)]) (And.intro rfl (And.intro rfl (And.intro rfl (And.intro rfl trivial)))) (w_Dr_isBelowAll_L3 hE fu v1 v3 v2 h)
