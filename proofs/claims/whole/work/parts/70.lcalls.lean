theorem d_L_stand_0 : dc b_L_stand 0 (.aload_n 3) 1 1 := ⟨by decide +kernel, rfl⟩
theorem d_L_stand_1 : dc b_L_stand 1 (.iconst 0) 1 2 := ⟨by decide +kernel, rfl⟩
theorem d_L_stand_2 : dc b_L_stand 2 (.aload_n 0) 1 3 := ⟨by decide +kernel, rfl⟩
theorem d_L_stand_3 : dc b_L_stand 3 (.iload_n 1) 1 4 := ⟨by decide +kernel, rfl⟩
theorem d_L_stand_4 : dc b_L_stand 4 (.iload_n 2) 1 5 := ⟨by decide +kernel, rfl⟩
theorem d_L_stand_5 : dc b_L_stand 5 (.invokevirtual 7) 3 8 := ⟨by decide +kernel, rfl⟩
theorem d_L_stand_8 : dc b_L_stand 8 (.i2l) 1 9 := ⟨by decide +kernel, rfl⟩
theorem d_L_stand_9 : dc b_L_stand 9 (.lastore) 1 10 := ⟨by decide +kernel, rfl⟩
theorem d_L_stand_10 : db b_L_stand 10 (.goto 11) 11 21 13 := ⟨by decide +kernel, by decide, rfl⟩
theorem d_L_stand_13 : dc b_L_stand 13 (.astore 4) 2 15 := ⟨by decide +kernel, rfl⟩
theorem d_L_stand_15 : dc b_L_stand 15 (.iconst 1) 1 16 := ⟨by decide +kernel, rfl⟩
theorem d_L_stand_16 : dc b_L_stand 16 (.ireturn) 1 17 := ⟨by decide +kernel, rfl⟩
theorem d_L_stand_17 : dc b_L_stand 17 (.astore 4) 2 19 := ⟨by decide +kernel, rfl⟩
theorem d_L_stand_19 : dc b_L_stand 19 (.iconst 2) 1 20 := ⟨by decide +kernel, rfl⟩
theorem d_L_stand_20 : dc b_L_stand 20 (.ireturn) 1 21 := ⟨by decide +kernel, rfl⟩
theorem d_L_stand_21 : dc b_L_stand 21 (.iconst 0) 1 22 := ⟨by decide +kernel, rfl⟩
theorem d_L_stand_22 : dc b_L_stand 22 (.ireturn) 1 23 := ⟨by decide +kernel, rfl⟩
def f_L_stand (S : gS) (d : gD) (v0 : Option Nat) (v1 : Int32) (v2 : Int32) (v3 : Option Nat) : Option ((Int32 × gS × gD) × Nat × Nat) :=
  nn v0 fun a0 =>
  kd S a0 1 <|
  bdT (f_M_stand S d a0 v1 v2) (fun r S1 d1 =>
    nn v3 fun a3 =>
    kd S1 a3 51 <|
    gi 0 (sN S1 a3) <|
    lt_ (wL d1 a3 (0 : Int32).toNatClampNeg (Int32.toInt64 r)) fun d2 =>
    some ((0, S1, d2), 0, 0)) (fun k S1 d1 =>
    if k = 1 then some ((1, S1, d1), 0, 0) else if k = 2 then some ((2, S1, d1), 0, 0) else none)
set_option maxRecDepth 100000 in
set_option maxHeartbeats 4000000 in
theorem c_L_stand (l : Launch) (G : gG) (hlt : l.stackTraces = false) {S : gS} {d : gD} {v0 : Option Nat} {v1 : Int32} {v2 : Int32} {v3 : Option Nat} {r : Int32} {S' : gS} {d' : gD} {dc ds : Nat} (h : f_L_stand S d v0 v1 v2 v3 = some ((r, S', d'), dc, ds)) : GW l G y_L_stand b_L_stand 5 (some (.int)) [(0, 10, 13, 13), (0, 10, 17, 15)] 8 184 dc ds [.inr (.inr v0), .inl v1, .inl v2, .inr (.inr v3)] S d (some (.int r)) S' d' := by
  refine GW.of (by decide) (Nat.le_of_ble_eq_true rfl) ?_
  intro X hl0 hG0 hR0 hE0 hX ht0
  have hE : gE X b_L_stand 5 "StandInMillLaw" (some (.int)) "stand" 8 184 := hE0
  obtain ⟨x1, x2, htab⟩ := gTab.of ht0
  have hmc : (xR X).cells = dc := by rw [hR0]
  have hms : (xR X).slots = ds := by rw [hR0]
  obtain ⟨mc, emc⟩ : ∃ z, z = dc := ⟨_, rfl⟩
  obtain ⟨ms, ems⟩ : ∃ z, z = ds := ⟨_, rfl⟩
  rw [← emc] at hmc
  rw [← ems] at hms
  have hc : 0 + dc = mc := by omega
  have hs : 0 + ds = ms := by omega
  show gw X 0 0 (gQ X _ _ _ dc ds) _ _ _ _ _
  rw [← emc, ← ems]
  clear hR0 emc ems
  unfold f_L_stand at h
  obtain ⟨a0, rfl, h⟩ := nn_s h
  obtain ⟨k0, h⟩ := kd_s h
  refine gw.less (lv' := [some (va_rf (some a0)), some (.int v1), some (.int v2), some (va_rf v3), none]) (And.intro rfl (And.intro rfl (And.intro rfl (And.intro rfl trivial)))) ?_
  refine g_aload_n (i := 3) hE d_L_stand_0 rfl rfl ?_
  refine g_iconst hE d_L_stand_1 ki_0 ?_
  refine g_aload_n (i := 0) hE d_L_stand_2 rfl rfl ?_
  refine g_iload_n (i := 1) hE d_L_stand_3 rfl rfl ?_
  refine g_iload_n (i := 2) hE d_L_stand_4 rfl rfl ?_
  rcases bdT_s h with ⟨r0, S1, d1, n1, m1, dc0, ds0, e0, h, hc0, hs0⟩ | ⟨k, S1, d1, n1, m1, dc0, ds0, e0, h, hc0, hs0⟩
  · refine g_callV (av := [.inr (.inr (some a0)), .inl v1, .inl v2]) (as := [.inl v1, .inl v2]) (stk := [.int r0, .int 0, va_rf v3]) [.int 0, va_rf v3] hE (c_M_stand (xl X) (xG X) e0) ky_M_stand ⟨Nat.le_of_ble_eq_true rfl, Nat.le_of_ble_eq_true rfl⟩ rfl kc_M k0 m_519 m_520 m_521 rfl d_L_stand_5 rfl rfl (Nat.le_trans (ct_i (ct_r ct_n)) (Nat.le_of_ble_eq_true rfl)) (cnt_room hmc hc hc0) (cnt_room hms hs hs0) ?_
    refine gw.gen (fun c1 s1 ec es => ?_)
    replace hc := cnt_step hc hc0 ec; replace hs := cnt_step hs hs0 es; clear hc0 hs0 ec es
    refine g_i2l hE d_L_stand_8 ?_
    obtain ⟨a3, rfl, h⟩ := nn_s h
    obtain ⟨k3, h⟩ := kd_s h
    obtain ⟨g3, h⟩ := gi_s h
    refine g_last hE k3 g3 d_L_stand_9 (fun d2 e => ?_)
    replace h := lt_i e h; clear e
    refine g_goto hE d_L_stand_10 ?_
    refine g_iconst hE d_L_stand_21 ki_0 ?_
    cases h
    exact g_iret hE d_L_stand_22 hc hs
  · by_cases hk : k = 1
    · subst hk
      replace h := if_t rfl h
      refine g_callVT (av := [.inr (.inr (some a0)), .inl v1, .inl v2]) (as := [.inl v1, .inl v2]) [.int 0, va_rf v3] hE hX (c_M_standb1 (xl X) (xG X) (by rw [hl0]; exact hlt) e0) ky_M_stand ⟨Nat.le_of_ble_eq_true rfl, Nat.le_of_ble_eq_true rfl⟩ rfl kc_M k0 m_519 m_520 m_521 m_522 m_523 rfl d_L_stand_5 rfl (Nat.le_trans (ct_i (ct_r ct_n)) (Nat.le_of_ble_eq_true rfl)) (cnt_room hmc hc hc0) (cnt_room hms hs hs0) htab ⟨by decide, by decide⟩ (xcase1 hX) (fun z => ?_)
      refine gw.gen (fun c1 s1 ec es => ?_)
      replace hc := cnt_step hc hc0 ec; replace hs := cnt_step hs hs0 es; clear hc0 hs0 ec es
      refine g_astore (i := 4) (lv' := [some (va_rf (some a0)), some (.int v1), some (.int v2), some (va_rf v3), some (va_rf (some z))]) hE d_L_stand_13 (Nat.le_of_ble_eq_true rfl) ⟨rfl, Nat.le_of_ble_eq_true rfl⟩ (lvp_r rfl) ?_
      refine g_iconst hE d_L_stand_15 ki_1 ?_
      cases h
      exact g_iret hE d_L_stand_16 hc hs
    · by_cases hk : k = 2
      · subst hk
        replace h := if_f (by decide) h
        replace h := if_t rfl h
        refine g_callVT (av := [.inr (.inr (some a0)), .inl v1, .inl v2]) (as := [.inl v1, .inl v2]) [.int 0, va_rf v3] hE hX (c_M_standb2 (xl X) (xG X) (by rw [hl0]; exact hlt) e0) ky_M_stand ⟨Nat.le_of_ble_eq_true rfl, Nat.le_of_ble_eq_true rfl⟩ rfl kc_M k0 m_519 m_520 m_521 m_522 m_523 rfl d_L_stand_5 rfl (Nat.le_trans (ct_i (ct_r ct_n)) (Nat.le_of_ble_eq_true rfl)) (cnt_room hmc hc hc0) (cnt_room hms hs hs0) htab ⟨by decide, by decide⟩ (xcase2 hX) (fun z => ?_)
        refine gw.gen (fun c1 s1 ec es => ?_)
        replace hc := cnt_step hc hc0 ec; replace hs := cnt_step hs hs0 es; clear hc0 hs0 ec es
        refine g_astore (i := 4) (lv' := [some (va_rf (some a0)), some (.int v1), some (.int v2), some (va_rf v3), some (va_rf (some z))]) hE d_L_stand_17 (Nat.le_of_ble_eq_true rfl) ⟨rfl, Nat.le_of_ble_eq_true rfl⟩ (lvp_r rfl) ?_
        refine g_iconst hE d_L_stand_19 ki_2 ?_
        cases h
        exact g_iret hE d_L_stand_20 hc hs
      · replace h := if_f (by assumption) h; replace h := if_f hk h; cases h
theorem d_L_call_0 : dc b_L_call 0 (.aload 9) 2 2 := ⟨by decide +kernel, rfl⟩
theorem d_L_call_2 : dc b_L_call 2 (.iconst 0) 1 3 := ⟨by decide +kernel, rfl⟩
theorem d_L_call_3 : dc b_L_call 3 (.aload_n 0) 1 4 := ⟨by decide +kernel, rfl⟩
theorem d_L_call_4 : dc b_L_call 4 (.iload_n 1) 1 5 := ⟨by decide +kernel, rfl⟩
theorem d_L_call_5 : dc b_L_call 5 (.iload_n 2) 1 6 := ⟨by decide +kernel, rfl⟩
theorem d_L_call_6 : dc b_L_call 6 (.lload_n 3) 1 7 := ⟨by decide +kernel, rfl⟩
theorem d_L_call_7 : dc b_L_call 7 (.lload 5) 2 9 := ⟨by decide +kernel, rfl⟩
theorem d_L_call_9 : dc b_L_call 9 (.lload 7) 2 11 := ⟨by decide +kernel, rfl⟩
theorem d_L_call_11 : dc b_L_call 11 (.invokevirtual 17) 3 14 := ⟨by decide +kernel, rfl⟩
theorem d_L_call_14 : dc b_L_call 14 (.i2l) 1 15 := ⟨by decide +kernel, rfl⟩
theorem d_L_call_15 : dc b_L_call 15 (.lastore) 1 16 := ⟨by decide +kernel, rfl⟩
theorem d_L_call_16 : db b_L_call 16 (.goto 11) 11 27 19 := ⟨by decide +kernel, by decide, rfl⟩
theorem d_L_call_19 : dc b_L_call 19 (.astore 10) 2 21 := ⟨by decide +kernel, rfl⟩
theorem d_L_call_21 : dc b_L_call 21 (.iconst 1) 1 22 := ⟨by decide +kernel, rfl⟩
theorem d_L_call_22 : dc b_L_call 22 (.ireturn) 1 23 := ⟨by decide +kernel, rfl⟩
theorem d_L_call_23 : dc b_L_call 23 (.astore 10) 2 25 := ⟨by decide +kernel, rfl⟩
theorem d_L_call_25 : dc b_L_call 25 (.iconst 2) 1 26 := ⟨by decide +kernel, rfl⟩
theorem d_L_call_26 : dc b_L_call 26 (.ireturn) 1 27 := ⟨by decide +kernel, rfl⟩
theorem d_L_call_27 : dc b_L_call 27 (.iconst 0) 1 28 := ⟨by decide +kernel, rfl⟩
theorem d_L_call_28 : dc b_L_call 28 (.ireturn) 1 29 := ⟨by decide +kernel, rfl⟩
def f_L_call (S : gS) (d : gD) (v0 : Option Nat) (v1 : Int32) (v2 : Int32) (v3 : Int64) (v5 : Int64) (v7 : Int64) (v9 : Option Nat) : Option ((Int32 × gS × gD) × Nat × Nat) :=
  nn v0 fun a0 =>
  kd S a0 1 <|
  bdT (f_M_call S d a0 v1 v2 v3 v5 v7) (fun r S1 d1 =>
    nn v9 fun a3 =>
    kd S1 a3 51 <|
    gi 0 (sN S1 a3) <|
    lt_ (wL d1 a3 (0 : Int32).toNatClampNeg (Int32.toInt64 r)) fun d2 =>
    some ((0, S1, d2), 0, 0)) (fun k S1 d1 =>
    if k = 1 then some ((1, S1, d1), 0, 0) else if k = 2 then some ((2, S1, d1), 0, 0) else none)
set_option maxRecDepth 100000 in
set_option maxHeartbeats 4000000 in
theorem c_L_call (l : Launch) (G : gG) (hlt : l.stackTraces = false) {S : gS} {d : gD} {v0 : Option Nat} {v1 : Int32} {v2 : Int32} {v3 : Int64} {v5 : Int64} {v7 : Int64} {v9 : Option Nat} {r : Int32} {S' : gS} {d' : gD} {dc ds : Nat} (h : f_L_call S d v0 v1 v2 v3 v5 v7 v9 = some ((r, S', d'), dc, ds)) : GW l G y_L_call b_L_call 11 (some (.int)) [(0, 16, 19, 13), (0, 16, 23, 15)] 7 119 dc ds [.inr (.inr v0), .inl v1, .inl v2, .inr (.inl v3), .inr (.inl v5), .inr (.inl v7), .inr (.inr v9)] S d (some (.int r)) S' d' := by
  refine GW.of (by decide) (Nat.le_of_ble_eq_true rfl) ?_
  intro X hl0 hG0 hR0 hE0 hX ht0
  have hE : gE X b_L_call 11 "StandInMillLaw" (some (.int)) "call" 7 119 := hE0
  obtain ⟨x1, x2, htab⟩ := gTab.of ht0
  have hmc : (xR X).cells = dc := by rw [hR0]
  have hms : (xR X).slots = ds := by rw [hR0]
  obtain ⟨mc, emc⟩ : ∃ z, z = dc := ⟨_, rfl⟩
  obtain ⟨ms, ems⟩ : ∃ z, z = ds := ⟨_, rfl⟩
  rw [← emc] at hmc
  rw [← ems] at hms
  have hc : 0 + dc = mc := by omega
  have hs : 0 + ds = ms := by omega
  show gw X 0 0 (gQ X _ _ _ dc ds) _ _ _ _ _
  rw [← emc, ← ems]
  clear hR0 emc ems
  unfold f_L_call at h
  obtain ⟨a0, rfl, h⟩ := nn_s h
  obtain ⟨k0, h⟩ := kd_s h
  refine gw.less (lv' := [some (va_rf (some a0)), some (.int v1), some (.int v2), some (.long v3), none, some (.long v5), none, some (.long v7), none, some (va_rf v9), none]) (And.intro rfl (And.intro rfl (And.intro rfl (And.intro rfl (And.intro rfl (And.intro rfl (And.intro rfl trivial))))))) ?_
  refine g_aload (i := 9) hE d_L_call_0 rfl ?_
  refine g_iconst hE d_L_call_2 ki_0 ?_
  refine g_aload_n (i := 0) hE d_L_call_3 rfl rfl ?_
  refine g_iload_n (i := 1) hE d_L_call_4 rfl rfl ?_
  refine g_iload_n (i := 2) hE d_L_call_5 rfl rfl ?_
  refine g_lload_n (i := 3) hE d_L_call_6 rfl rfl ?_
  refine g_lload (i := 5) hE d_L_call_7 rfl ?_
  refine g_lload (i := 7) hE d_L_call_9 rfl ?_
  rcases bdT_s h with ⟨r0, S1, d1, n1, m1, dc0, ds0, e0, h, hc0, hs0⟩ | ⟨k, S1, d1, n1, m1, dc0, ds0, e0, h, hc0, hs0⟩
  · refine g_callV (av := [.inr (.inr (some a0)), .inl v1, .inl v2, .inr (.inl v3), .inr (.inl v5), .inr (.inl v7)]) (as := [.inl v1, .inl v2, .inr (.inl v3), .inr (.inl v5), .inr (.inl v7)]) (stk := [.int r0, .int 0, va_rf v9]) [.int 0, va_rf v9] hE (c_M_call (xl X) (xG X) e0) ky_M_call ⟨Nat.le_of_ble_eq_true rfl, Nat.le_of_ble_eq_true rfl⟩ rfl kc_M k0 m_527 m_528 m_529 rfl d_L_call_11 rfl rfl (Nat.le_trans (ct_i (ct_r ct_n)) (Nat.le_of_ble_eq_true rfl)) (cnt_room hmc hc hc0) (cnt_room hms hs hs0) ?_
    refine gw.gen (fun c1 s1 ec es => ?_)
    replace hc := cnt_step hc hc0 ec; replace hs := cnt_step hs hs0 es; clear hc0 hs0 ec es
    refine g_i2l hE d_L_call_14 ?_
    obtain ⟨a3, rfl, h⟩ := nn_s h
    obtain ⟨k3, h⟩ := kd_s h
    obtain ⟨g3, h⟩ := gi_s h
    refine g_last hE k3 g3 d_L_call_15 (fun d2 e => ?_)
    replace h := lt_i e h; clear e
    refine g_goto hE d_L_call_16 ?_
    refine g_iconst hE d_L_call_27 ki_0 ?_
    cases h
    exact g_iret hE d_L_call_28 hc hs
  · by_cases hk : k = 1
    · subst hk
      replace h := if_t rfl h
      refine g_callVT (av := [.inr (.inr (some a0)), .inl v1, .inl v2, .inr (.inl v3), .inr (.inl v5), .inr (.inl v7)]) (as := [.inl v1, .inl v2, .inr (.inl v3), .inr (.inl v5), .inr (.inl v7)]) [.int 0, va_rf v9] hE hX (c_M_callb1 (xl X) (xG X) (by rw [hl0]; exact hlt) e0) ky_M_call ⟨Nat.le_of_ble_eq_true rfl, Nat.le_of_ble_eq_true rfl⟩ rfl kc_M k0 m_527 m_528 m_529 m_522 m_523 rfl d_L_call_11 rfl (Nat.le_trans (ct_i (ct_r ct_n)) (Nat.le_of_ble_eq_true rfl)) (cnt_room hmc hc hc0) (cnt_room hms hs hs0) htab ⟨by decide, by decide⟩ (xcase1 hX) (fun z => ?_)
      refine gw.gen (fun c1 s1 ec es => ?_)
      replace hc := cnt_step hc hc0 ec; replace hs := cnt_step hs hs0 es; clear hc0 hs0 ec es
      refine g_astore (i := 10) (lv' := [some (va_rf (some a0)), some (.int v1), some (.int v2), some (.long v3), none, some (.long v5), none, some (.long v7), none, some (va_rf v9), some (va_rf (some z))]) hE d_L_call_19 (Nat.le_of_ble_eq_true rfl) ⟨rfl, Nat.le_of_ble_eq_true rfl⟩ (lvp_r rfl) ?_
      refine g_iconst hE d_L_call_21 ki_1 ?_
      cases h
      exact g_iret hE d_L_call_22 hc hs
    · by_cases hk : k = 2
      · subst hk
        replace h := if_f (by decide) h
        replace h := if_t rfl h
        refine g_callVT (av := [.inr (.inr (some a0)), .inl v1, .inl v2, .inr (.inl v3), .inr (.inl v5), .inr (.inl v7)]) (as := [.inl v1, .inl v2, .inr (.inl v3), .inr (.inl v5), .inr (.inl v7)]) [.int 0, va_rf v9] hE hX (c_M_callb2 (xl X) (xG X) (by rw [hl0]; exact hlt) e0) ky_M_call ⟨Nat.le_of_ble_eq_true rfl, Nat.le_of_ble_eq_true rfl⟩ rfl kc_M k0 m_527 m_528 m_529 m_522 m_523 rfl d_L_call_11 rfl (Nat.le_trans (ct_i (ct_r ct_n)) (Nat.le_of_ble_eq_true rfl)) (cnt_room hmc hc hc0) (cnt_room hms hs hs0) htab ⟨by decide, by decide⟩ (xcase2 hX) (fun z => ?_)
        refine gw.gen (fun c1 s1 ec es => ?_)
        replace hc := cnt_step hc hc0 ec; replace hs := cnt_step hs hs0 es; clear hc0 hs0 ec es
        refine g_astore (i := 10) (lv' := [some (va_rf (some a0)), some (.int v1), some (.int v2), some (.long v3), none, some (.long v5), none, some (.long v7), none, some (va_rf v9), some (va_rf (some z))]) hE d_L_call_23 (Nat.le_of_ble_eq_true rfl) ⟨rfl, Nat.le_of_ble_eq_true rfl⟩ (lvp_r rfl) ?_
        refine g_iconst hE d_L_call_25 ki_2 ?_
        cases h
        exact g_iret hE d_L_call_26 hc hs
      · replace h := if_f (by assumption) h; replace h := if_f hk h; cases h
