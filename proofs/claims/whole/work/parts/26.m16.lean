theorem d_M_stand_0 : dc b_M_stand 0 (.aload_n 0) 1 1 := ⟨by decide +kernel, rfl⟩
theorem d_M_stand_1 : dc b_M_stand 1 (.iconst 0) 1 2 := ⟨by decide +kernel, rfl⟩
theorem d_M_stand_2 : dc b_M_stand 2 (.putfield 194) 3 5 := ⟨by decide +kernel, rfl⟩
theorem d_M_stand_5 : dc b_M_stand 5 (.iload_n 2) 1 6 := ⟨by decide +kernel, rfl⟩
theorem d_M_stand_6 : dc b_M_stand 6 (.invokestatic 141) 3 9 := ⟨by decide +kernel, rfl⟩
theorem d_M_stand_9 : dc b_M_stand 9 (.istore_n 3) 1 10 := ⟨by decide +kernel, rfl⟩
theorem d_M_stand_10 : dc b_M_stand 10 (.aload_n 0) 1 11 := ⟨by decide +kernel, rfl⟩
theorem d_M_stand_11 : dc b_M_stand 11 (.iload_n 1) 1 12 := ⟨by decide +kernel, rfl⟩
theorem d_M_stand_12 : dc b_M_stand 12 (.invokevirtual 86) 3 15 := ⟨by decide +kernel, rfl⟩
theorem d_M_stand_15 : db b_M_stand 15 (.ifCond .eq 15) 15 30 18 := ⟨by decide +kernel, by decide, rfl⟩
theorem d_M_stand_18 : dc b_M_stand 18 (.iload_n 3) 1 19 := ⟨by decide +kernel, rfl⟩
theorem d_M_stand_19 : db b_M_stand 19 (.ifCond .eq 11) 11 30 22 := ⟨by decide +kernel, by decide, rfl⟩
theorem d_M_stand_22 : dc b_M_stand 22 (.aload_n 0) 1 23 := ⟨by decide +kernel, rfl⟩
theorem d_M_stand_23 : dc b_M_stand 23 (.iload_n 3) 1 24 := ⟨by decide +kernel, rfl⟩
theorem d_M_stand_24 : dc b_M_stand 24 (.invokevirtual 197) 3 27 := ⟨by decide +kernel, rfl⟩
theorem d_M_stand_27 : db b_M_stand 27 (.ifCond .ne 13) 13 40 30 := ⟨by decide +kernel, by decide, rfl⟩
theorem d_M_stand_30 : dc b_M_stand 30 (.new 200) 3 33 := ⟨by decide +kernel, rfl⟩
theorem d_M_stand_33 : dc b_M_stand 33 (.dup) 1 34 := ⟨by decide +kernel, rfl⟩
theorem d_M_stand_34 : dc b_M_stand 34 (.ldc 202) 2 36 := ⟨by decide +kernel, rfl⟩
theorem d_M_stand_36 : dc b_M_stand 36 (.invokespecial 204) 3 39 := ⟨by decide +kernel, rfl⟩
theorem d_M_stand_39 : dc b_M_stand 39 (.athrow) 1 40 := ⟨by decide +kernel, rfl⟩
theorem d_M_stand_40 : dc b_M_stand 40 (.aload_n 0) 1 41 := ⟨by decide +kernel, rfl⟩
theorem d_M_stand_41 : dc b_M_stand 41 (.iload_n 1) 1 42 := ⟨by decide +kernel, rfl⟩
theorem d_M_stand_42 : dc b_M_stand 42 (.iload_n 3) 1 43 := ⟨by decide +kernel, rfl⟩
theorem d_M_stand_43 : dc b_M_stand 43 (.invokevirtual 207) 3 46 := ⟨by decide +kernel, rfl⟩
theorem d_M_stand_46 : dc b_M_stand 46 (.istore 4) 2 48 := ⟨by decide +kernel, rfl⟩
theorem d_M_stand_48 : dc b_M_stand 48 (.iload 4) 2 50 := ⟨by decide +kernel, rfl⟩
theorem d_M_stand_50 : dc b_M_stand 50 (.iconst (-1)) 1 51 := ⟨by decide +kernel, rfl⟩
theorem d_M_stand_51 : db b_M_stand 51 (.if_icmp .eq 6) 6 57 54 := ⟨by decide +kernel, by decide, rfl⟩
theorem d_M_stand_54 : dc b_M_stand 54 (.iload 4) 2 56 := ⟨by decide +kernel, rfl⟩
theorem d_M_stand_56 : dc b_M_stand 56 (.ireturn) 1 57 := ⟨by decide +kernel, rfl⟩
theorem d_M_stand_57 : dc b_M_stand 57 (.aload_n 0) 1 58 := ⟨by decide +kernel, rfl⟩
theorem d_M_stand_58 : dc b_M_stand 58 (.aload_n 0) 1 59 := ⟨by decide +kernel, rfl⟩
theorem d_M_stand_59 : dc b_M_stand 59 (.iload_n 1) 1 60 := ⟨by decide +kernel, rfl⟩
theorem d_M_stand_60 : dc b_M_stand 60 (.iload_n 3) 1 61 := ⟨by decide +kernel, rfl⟩
theorem d_M_stand_61 : dc b_M_stand 61 (.invokevirtual 211) 3 64 := ⟨by decide +kernel, rfl⟩
theorem d_M_stand_64 : dc b_M_stand 64 (.putfield 194) 3 67 := ⟨by decide +kernel, rfl⟩
theorem d_M_stand_67 : dc b_M_stand 67 (.aload_n 0) 1 68 := ⟨by decide +kernel, rfl⟩
theorem d_M_stand_68 : dc b_M_stand 68 (.getfield 194) 3 71 := ⟨by decide +kernel, rfl⟩
theorem d_M_stand_71 : db b_M_stand 71 (.ifCond .ne 16) 16 87 74 := ⟨by decide +kernel, by decide, rfl⟩
theorem d_M_stand_74 : dc b_M_stand 74 (.aload_n 0) 1 75 := ⟨by decide +kernel, rfl⟩
theorem d_M_stand_75 : dc b_M_stand 75 (.iload_n 3) 1 76 := ⟨by decide +kernel, rfl⟩
theorem d_M_stand_76 : dc b_M_stand 76 (.invokevirtual 214) 3 79 := ⟨by decide +kernel, rfl⟩
theorem d_M_stand_79 : dc b_M_stand 79 (.aload_n 0) 1 80 := ⟨by decide +kernel, rfl⟩
theorem d_M_stand_80 : dc b_M_stand 80 (.aload_n 0) 1 81 := ⟨by decide +kernel, rfl⟩
theorem d_M_stand_81 : dc b_M_stand 81 (.invokevirtual 217) 3 84 := ⟨by decide +kernel, rfl⟩
theorem d_M_stand_84 : dc b_M_stand 84 (.putfield 194) 3 87 := ⟨by decide +kernel, rfl⟩
theorem d_M_stand_87 : dc b_M_stand 87 (.aload_n 0) 1 88 := ⟨by decide +kernel, rfl⟩
theorem d_M_stand_88 : dc b_M_stand 88 (.getfield 194) 3 91 := ⟨by decide +kernel, rfl⟩
theorem d_M_stand_91 : db b_M_stand 91 (.ifCond .eq 13) 13 104 94 := ⟨by decide +kernel, by decide, rfl⟩
theorem d_M_stand_94 : dc b_M_stand 94 (.new 221) 3 97 := ⟨by decide +kernel, rfl⟩
theorem d_M_stand_97 : dc b_M_stand 97 (.dup) 1 98 := ⟨by decide +kernel, rfl⟩
theorem d_M_stand_98 : dc b_M_stand 98 (.ldc 223) 2 100 := ⟨by decide +kernel, rfl⟩
theorem d_M_stand_100 : dc b_M_stand 100 (.invokespecial 225) 3 103 := ⟨by decide +kernel, rfl⟩
theorem d_M_stand_103 : dc b_M_stand 103 (.athrow) 1 104 := ⟨by decide +kernel, rfl⟩
theorem d_M_stand_104 : dc b_M_stand 104 (.aload_n 0) 1 105 := ⟨by decide +kernel, rfl⟩
theorem d_M_stand_105 : dc b_M_stand 105 (.iload_n 1) 1 106 := ⟨by decide +kernel, rfl⟩
theorem d_M_stand_106 : dc b_M_stand 106 (.iload_n 3) 1 107 := ⟨by decide +kernel, rfl⟩
theorem d_M_stand_107 : dc b_M_stand 107 (.invokevirtual 226) 3 110 := ⟨by decide +kernel, rfl⟩
theorem d_M_stand_110 : dc b_M_stand 110 (.astore 5) 2 112 := ⟨by decide +kernel, rfl⟩
theorem d_M_stand_112 : dc b_M_stand 112 (.aload 5) 2 114 := ⟨by decide +kernel, rfl⟩
theorem d_M_stand_114 : dc b_M_stand 114 (.aload_n 0) 1 115 := ⟨by decide +kernel, rfl⟩
theorem d_M_stand_115 : dc b_M_stand 115 (.getfield 57) 3 118 := ⟨by decide +kernel, rfl⟩
theorem d_M_stand_118 : dc b_M_stand 118 (.aload 5) 2 120 := ⟨by decide +kernel, rfl⟩
theorem d_M_stand_120 : dc b_M_stand 120 (.invokevirtual 230) 3 123 := ⟨by decide +kernel, rfl⟩
theorem d_M_stand_123 : dc b_M_stand 123 (.putfield 234) 3 126 := ⟨by decide +kernel, rfl⟩
theorem d_M_stand_126 : dc b_M_stand 126 (.aload_n 0) 1 127 := ⟨by decide +kernel, rfl⟩
theorem d_M_stand_127 : dc b_M_stand 127 (.getfield 41) 3 130 := ⟨by decide +kernel, rfl⟩
theorem d_M_stand_130 : dc b_M_stand 130 (.aload_n 0) 1 131 := ⟨by decide +kernel, rfl⟩
theorem d_M_stand_131 : dc b_M_stand 131 (.getfield 112) 3 134 := ⟨by decide +kernel, rfl⟩
theorem d_M_stand_134 : dc b_M_stand 134 (.aload 5) 2 136 := ⟨by decide +kernel, rfl⟩
theorem d_M_stand_136 : dc b_M_stand 136 (.aastore) 1 137 := ⟨by decide +kernel, rfl⟩
theorem d_M_stand_137 : dc b_M_stand 137 (.aload_n 0) 1 138 := ⟨by decide +kernel, rfl⟩
theorem d_M_stand_138 : dc b_M_stand 138 (.dup) 1 139 := ⟨by decide +kernel, rfl⟩
theorem d_M_stand_139 : dc b_M_stand 139 (.getfield 112) 3 142 := ⟨by decide +kernel, rfl⟩
theorem d_M_stand_142 : dc b_M_stand 142 (.iconst 1) 1 143 := ⟨by decide +kernel, rfl⟩
theorem d_M_stand_143 : dc b_M_stand 143 (.iadd) 1 144 := ⟨by decide +kernel, rfl⟩
theorem d_M_stand_144 : dc b_M_stand 144 (.putfield 112) 3 147 := ⟨by decide +kernel, rfl⟩
theorem d_M_stand_147 : dc b_M_stand 147 (.aload_n 0) 1 148 := ⟨by decide +kernel, rfl⟩
theorem d_M_stand_148 : dc b_M_stand 148 (.getfield 112) 3 151 := ⟨by decide +kernel, rfl⟩
theorem d_M_stand_151 : dc b_M_stand 151 (.iconst 1) 1 152 := ⟨by decide +kernel, rfl⟩
theorem d_M_stand_152 : dc b_M_stand 152 (.isub) 1 153 := ⟨by decide +kernel, rfl⟩
theorem d_M_stand_153 : dc b_M_stand 153 (.ireturn) 1 154 := ⟨by decide +kernel, rfl⟩
def f_M_stand_J30 (o : Nat) (S : gS) (d : gD) : Option (((Int32 ⊕ Nat) × gS × gD) × Nat × Nat) :=
  ac 1 6 <|
  some ((.inr 1, nZ S, d), 0, 0)
set_option maxRecDepth 100000 in
set_option maxHeartbeats 4000000 in
theorem w_M_stand_J30 {X : GX} (hE : gE X b_M_stand 6 "StandInMill" (some (.int)) "stand" 7 159) {o : Nat} {r : Int32} {S' : gS} {d' : gD} {mc ms : Nat} (hmc : (xR X).cells = mc) (hms : (xR X).slots = ms) :
    ∀ (cells slots dc ds : Nat) (S : gS) (d : gD), f_M_stand_J30 o S d = some ((.inl r, S', d'), dc, ds) → cells + dc = mc → slots + ds = ms → gw X cells slots (gQ X (some (.int r)) S' d' mc ms) S d 30 [some (va_rf (some o)), none, none, none, none, none] [] := by
  intro cells slots dc ds S d h hc hs
  unfold f_M_stand_J30 at h
  obtain ⟨dc0, ds0, h, hc0, hs0⟩ := ac_s h
  cases h
def f_M_stand_J87 (o : Nat) (S : gS) (d : gD) (v1 : Int32) (v3 : Int32) : Option (((Int32 ⊕ Nat) × gS × gD) × Nat × Nat) :=
  kd S o 1 <|
  lt_ (dI d o 14) fun x2 =>
  if x2 = 0 then (
    bdA (f_M_madeOfDraft S d o v1 v3) fun x3 S5 d6 =>
    kd S5 o 1 <|
    lt_ (sP S5 o 12) fun x12 =>
    nn x12 fun a13 =>
    kd S5 a13 9 <|
    bdA (f_Uw_write S5 d6 a13 x3) fun x15 S17 d18 =>
    nn x3 fun a23 =>
    kd S17 a23 6 <|
    lt_ (wP S17 a23 5 x15) fun S25 =>
    kd S25 o 1 <|
    lt_ (sP S25 o 9) fun x27 =>
    lt_ (dI d18 o 10) fun x28 =>
    nn x27 fun a29 =>
    kd S25 a29 62 <|
    gi x28 (sN S25 a29) <|
    lt_ (wP S25 a29 x28.toNatClampNeg (some a23)) fun S32 =>
    lt_ (dI d18 o 10) fun x33 =>
    lt_ (wI d18 o 10 (x33 + 1)) fun d34 =>
    lt_ (dI d34 o 10) fun x35 =>
    some ((.inl (x35 - 1), S32, d34), 0, 0))
  else (
    ac 1 6 <|
    some ((.inr 2, nZ S, d), 0, 0))
set_option maxRecDepth 100000 in
set_option maxHeartbeats 4000000 in
theorem w_M_stand_J87 {X : GX} (hE : gE X b_M_stand 6 "StandInMill" (some (.int)) "stand" 7 159) {o : Nat} {r : Int32} {S' : gS} {d' : gD} {mc ms : Nat} (hmc : (xR X).cells = mc) (hms : (xR X).slots = ms) :
    ∀ (cells slots dc ds : Nat) (S : gS) (d : gD) (v1 : Int32) (v3 : Int32), f_M_stand_J87 o S d v1 v3 = some ((.inl r, S', d'), dc, ds) → cells + dc = mc → slots + ds = ms → gw X cells slots (gQ X (some (.int r)) S' d' mc ms) S d 87 [some (va_rf (some o)), some (.int v1), none, some (.int v3), none, none] [] := by
  intro cells slots dc ds S d v1 v3 h hc hs
  unfold f_M_stand_J87 at h
  refine g_aload_n (i := 0) hE d_M_stand_87 rfl rfl ?_
  obtain ⟨k1, h⟩ := kd_s h
  refine g_getI 14 hE kc_M k1 (Nat.le_of_ble_eq_true rfl) rfl m_322 d_M_stand_88 (fun x2 e => ?_)
  replace h := lt_i e h; clear e
  refine g_if_eq hE d_M_stand_91 (fun c36 => ?_) (fun c36 => ?_)
  · replace h := if_t c36 h
    refine g_aload_n (i := 0) hE d_M_stand_104 rfl rfl ?_
    refine g_iload_n (i := 1) hE d_M_stand_105 rfl rfl ?_
    refine g_iload_n (i := 3) hE d_M_stand_106 rfl rfl ?_
    obtain ⟨x3, S5, d6, n7, n8, dc0, ds0, e4, h, hc0, hs0⟩ := bdA_s h
    refine g_callV (av := [.inr (.inr (some o)), .inl v1, .inl v3]) (as := [.inl v1, .inl v3]) (stk := [va_rf x3]) [] hE (c_M_madeOfDraft (xl X) (xG X) e4) ky_M_madeOfDraft ⟨Nat.le_of_ble_eq_true rfl, Nat.le_of_ble_eq_true rfl⟩ rfl kc_M k1 m_332 m_333 m_334 rfl d_M_stand_107 rfl rfl ct_0 (cnt_room hmc hc hc0) (cnt_room hms hs hs0) ?_
    refine gw.gen (fun c9 s10 ec es => ?_)
    replace hc := cnt_step hc hc0 ec; replace hs := cnt_step hs hs0 es; clear hc0 hs0 ec es
    refine g_astore (i := 5) (lv' := [some (va_rf (some o)), some (.int v1), none, some (.int v3), none, some (va_rf x3)]) hE d_M_stand_110 (Nat.le_of_ble_eq_true rfl) ⟨rfl, Nat.le_of_ble_eq_true rfl⟩ (lvp_n rfl) ?_
    refine g_aload (i := 5) hE d_M_stand_112 rfl ?_
    refine g_aload_n (i := 0) hE d_M_stand_114 rfl rfl ?_
    obtain ⟨k11, h⟩ := kd_s h
    refine g_getR 12 hE kc_M k11 (Nat.le_of_ble_eq_true rfl) rfl m_61 d_M_stand_115 (fun x12 e => ?_)
    replace h := lt_i e h; clear e
    refine g_aload (i := 5) hE d_M_stand_118 rfl ?_
    obtain ⟨a13, rfl, h⟩ := nn_s h
    obtain ⟨k14, h⟩ := kd_s h
    obtain ⟨x15, S17, d18, n19, n20, dc0, ds0, e16, h, hc0, hs0⟩ := bdA_s h
    refine g_callV (av := [.inr (.inr (some a13)), .inr (.inr x3)]) (as := [.inr (.inr x3)]) (stk := [va_rf x15, va_rf x3]) [va_rf x3] hE (c_Uw_write (xl X) (xG X) e16) ky_Uw_write ⟨Nat.le_of_ble_eq_true rfl, Nat.le_of_ble_eq_true rfl⟩ rfl kc_Uw k14 m_335 m_336 m_337 rfl d_M_stand_120 rfl rfl (Nat.le_trans (ct_r ct_n) (Nat.le_of_ble_eq_true rfl)) (cnt_room hmc hc hc0) (cnt_room hms hs hs0) ?_
    refine gw.gen (fun c21 s22 ec es => ?_)
    replace hc := cnt_step hc hc0 ec; replace hs := cnt_step hs hs0 es; clear hc0 hs0 ec es
    obtain ⟨a23, rfl, h⟩ := nn_s h
    obtain ⟨k24, h⟩ := kd_s h
    refine g_putRN (fty := .array (.byte)) 5 hE kc_Si k24 (Nat.le_of_ble_eq_true rfl) rfl nf_42 rfl (by decide +kernel) rfl d_M_stand_123 (fun S25 e => ?_)
    replace k24 : sK S25 a23 = 6 := by rw [← e]; exact k24
    replace h := lt_i e h; clear e
    refine g_aload_n (i := 0) hE d_M_stand_126 rfl rfl ?_
    obtain ⟨k26, h⟩ := kd_s h
    refine g_getR 9 hE kc_M k26 (Nat.le_of_ble_eq_true rfl) rfl m_50 d_M_stand_127 (fun x27 e => ?_)
    replace h := lt_i e h; clear e
    refine g_aload_n (i := 0) hE d_M_stand_130 rfl rfl ?_
    refine g_getI 10 hE kc_M k26 (Nat.le_of_ble_eq_true rfl) rfl m_111 d_M_stand_131 (fun x28 e => ?_)
    replace h := lt_i e h; clear e
    refine g_aload (i := 5) hE d_M_stand_134 rfl ?_
    obtain ⟨a29, rfl, h⟩ := nn_s h
    obtain ⟨k30, h⟩ := kd_s h
    obtain ⟨g31, h⟩ := gi_s h
    refine g_aast hE k30 (by decide) (fun _ => rfl) rfl kc_Si k24 g31 d_M_stand_136 (fun S32 e => ?_)
    replace k24 : sK S32 a23 = 6 := by rw [← e]; exact k24
    replace k26 : sK S32 o = 1 := by rw [← e]; exact k26
    replace k30 : sK S32 a29 = 62 := by rw [← e]; exact k30
    replace h := lt_i e h; clear e
    refine g_aload_n (i := 0) hE d_M_stand_137 rfl rfl ?_
    refine g_dupr hE d_M_stand_138 ?_
    refine g_getI 10 hE kc_M k26 (Nat.le_of_ble_eq_true rfl) rfl m_111 d_M_stand_139 (fun x33 e => ?_)
    replace h := lt_i e h; clear e
    refine g_iconst hE d_M_stand_142 ki_1 ?_
    refine g_iadd hE d_M_stand_143 ?_
    refine g_putI 10 hE kc_M k26 (Nat.le_of_ble_eq_true rfl) rfl m_111 rfl (by decide +kernel) d_M_stand_144 (fun d34 e => ?_)
    replace h := lt_i e h; clear e
    refine g_aload_n (i := 0) hE d_M_stand_147 rfl rfl ?_
    refine g_getI 10 hE kc_M k26 (Nat.le_of_ble_eq_true rfl) rfl m_111 d_M_stand_148 (fun x35 e => ?_)
    replace h := lt_i e h; clear e
    refine g_iconst hE d_M_stand_151 ki_1 ?_
    refine g_isub hE d_M_stand_152 ?_
    cases h
    exact g_iret hE d_M_stand_153 hc hs
  · replace h := if_f c36 h
    obtain ⟨dc0, ds0, h, hc0, hs0⟩ := ac_s h
    cases h
set_option maxRecDepth 100000 in
def f_M_stand (S : gS) (d : gD) (o : Nat) (v1 : Int32) (v2 : Int32) : Option (((Int32 ⊕ Nat) × gS × gD) × Nat × Nat) :=
  kd S o 1 <|
  lt_ (wI d o 14 0) fun d2 =>
  bd (f_M_cutAtZero S d2 v2) fun x3 =>
  bd (f_M_isLoader S d2 o v1) fun x5 =>
  if x5 = 0 then (
    f_M_stand_J30 o S d2)
  else (
    if x3 = 0 then (
      f_M_stand_J30 o S d2)
    else (
      bd (f_M_areFaces S d2 o x3) fun x7 =>
      if x7 = 0 then (
        f_M_stand_J30 o S d2)
      else (
        bd (f_M_standMadeFor S d2 o v1 x3) fun x9 =>
        if x9 = (-1) then (
          bd (f_M_faultOfList S d2 o v1 x3) fun x11 =>
          lt_ (wI d2 o 14 x11) fun d13 =>
          lt_ (dI d13 o 14) fun x14 =>
          if x14 = 0 then (
            bdA (f_M_fillDraft S d13 o x3) fun _ S17 d18 =>
            kd S17 o 1 <|
            bd (f_M_faultOfDraft S17 d18 o) fun x24 =>
            lt_ (wI d18 o 14 x24) fun d26 =>
            f_M_stand_J87 o S17 d26 v1 x3)
          else (
            f_M_stand_J87 o S d13 v1 x3))
        else (
          some ((.inl x9, S, d2), 0, 0)))))
set_option maxRecDepth 100000 in
set_option maxHeartbeats 4000000 in
theorem c_M_stand (l : Launch) (G : gG) {S : gS} {d : gD} {o : Nat} {v1 : Int32} {v2 : Int32} {r : Int32} {d' : gD} {S' : gS} {dc ds : Nat} (h : f_M_stand S d o v1 v2 = some ((.inl r, S', d'), dc, ds)) : GM l G y_M_stand b_M_stand 6 (some (.int)) 7 159 dc ds [.inr (.inr (some o)), .inl v1, .inl v2] S d (some (.int r)) S' d' := by
  refine GM.of (by decide) (Nat.le_of_ble_eq_true rfl) ?_
  intro X hl0 hG0 hR0 hE0
  have hE : gE X b_M_stand 6 "StandInMill" (some (.int)) "stand" 7 159 := hE0
  have hmc : (xR X).cells = dc := by rw [hR0]
  have hms : (xR X).slots = ds := by rw [hR0]
  obtain ⟨mc, emc⟩ : ∃ z, z = dc := ⟨_, rfl⟩
  obtain ⟨ms, ems⟩ : ∃ z, z = ds := ⟨_, rfl⟩
  rw [← emc] at hmc
  rw [← ems] at hms
  have hc : 0 + dc = mc := by omega
  have hs : 0 + ds = ms := by omega
  show gw X 0 0 (gQ X _ _ _ dc ds) _ _ _ _ _
  rw [← emc, ← ems]
  clear hR0 emc ems
  unfold f_M_stand at h
  refine gw.less (lv' := [some (va_rf (some o)), some (.int v1), some (.int v2), none, none, none]) (And.intro rfl (And.intro rfl (And.intro rfl trivial))) ?_
  refine g_aload_n (i := 0) hE d_M_stand_0 rfl rfl ?_
  refine g_iconst hE d_M_stand_1 ki_0 ?_
  obtain ⟨k1, h⟩ := kd_s h
  refine g_putI 14 hE kc_M k1 (Nat.le_of_ble_eq_true rfl) rfl m_322 rfl (by decide +kernel) d_M_stand_2 (fun d2 e => ?_)
  replace h := lt_i e h; clear e
  refine g_iload_n (i := 2) hE d_M_stand_5 rfl rfl ?_
  obtain ⟨x3, e4, h⟩ := bd_s h
  refine g_callS (av := [.inl v2]) (stk := [.int x3]) [] hE (c_M_cutAtZero (xl X) (xG X) e4) ky_M_cutAtZero ⟨Nat.le_of_ble_eq_true rfl, Nat.le_of_ble_eq_true rfl⟩ m_137 m_138 rfl d_M_stand_6 rfl rfl ct_0 (cnt_room0 hmc hc) (cnt_room0 hms hs) ?_
  refine gw.cs (c2 := 0) (s2 := 0) rfl rfl ?_
  refine g_istore_n (i := 3) (lv' := [some (va_rf (some o)), some (.int v1), some (.int v2), some (.int x3), none, none]) hE d_M_stand_9 rfl (Nat.le_of_ble_eq_true rfl) ⟨rfl, Nat.le_of_ble_eq_true rfl⟩ (lvp_i rfl) ?_
  refine g_aload_n (i := 0) hE d_M_stand_10 rfl rfl ?_
  refine g_iload_n (i := 1) hE d_M_stand_11 rfl rfl ?_
  obtain ⟨x5, e6, h⟩ := bd_s h
  refine g_callV (av := [.inr (.inr (some o)), .inl v1]) (as := [.inl v1]) (stk := [.int x5]) [] hE (c_M_isLoader (xl X) (xG X) e6) ky_M_isLoader ⟨Nat.le_of_ble_eq_true rfl, Nat.le_of_ble_eq_true rfl⟩ rfl kc_M k1 m_75 m_76 m_77 rfl d_M_stand_12 rfl rfl ct_0 (cnt_room0 hmc hc) (cnt_room0 hms hs) ?_
  refine gw.cs (c2 := 0) (s2 := 0) rfl rfl ?_
  refine g_if_eq hE d_M_stand_15 (fun c31 => ?_) (fun c31 => ?_)
  · replace h := if_t c31 h
    exact gw.less (lv' := [some (va_rf (some o)), none, none, none, none, none]) (And.intro rfl trivial) (w_M_stand_J30 hE hmc hms _ _ _ _ S d2 h hc hs)
  · replace h := if_f c31 h
    refine g_iload_n (i := 3) hE d_M_stand_18 rfl rfl ?_
    refine g_if_eq hE d_M_stand_19 (fun c30 => ?_) (fun c30 => ?_)
    · replace h := if_t c30 h
      exact gw.less (lv' := [some (va_rf (some o)), none, none, none, none, none]) (And.intro rfl trivial) (w_M_stand_J30 hE hmc hms _ _ _ _ S d2 h hc hs)
    · replace h := if_f c30 h
      refine g_aload_n (i := 0) hE d_M_stand_22 rfl rfl ?_
      refine g_iload_n (i := 3) hE d_M_stand_23 rfl rfl ?_
      obtain ⟨x7, e8, h⟩ := bd_s h
      refine g_callV (av := [.inr (.inr (some o)), .inl x3]) (as := [.inl x3]) (stk := [.int x7]) [] hE (c_M_areFaces (xl X) (xG X) e8) ky_M_areFaces ⟨Nat.le_of_ble_eq_true rfl, Nat.le_of_ble_eq_true rfl⟩ rfl kc_M k1 m_323 m_324 m_325 rfl d_M_stand_24 rfl rfl ct_0 (cnt_room0 hmc hc) (cnt_room0 hms hs) ?_
      refine gw.cs (c2 := 0) (s2 := 0) rfl rfl ?_
      refine g_if_ne hE d_M_stand_27 (fun c29 => ?_) (fun c29 => ?_)
      · replace h := if_f c29 h
        refine g_aload_n (i := 0) hE d_M_stand_40 rfl rfl ?_
        refine g_iload_n (i := 1) hE d_M_stand_41 rfl rfl ?_
        refine g_iload_n (i := 3) hE d_M_stand_42 rfl rfl ?_
        obtain ⟨x9, e10, h⟩ := bd_s h
        refine g_callV (av := [.inr (.inr (some o)), .inl v1, .inl x3]) (as := [.inl v1, .inl x3]) (stk := [.int x9]) [] hE (c_M_standMadeFor (xl X) (xG X) e10) ky_M_standMadeFor ⟨Nat.le_of_ble_eq_true rfl, Nat.le_of_ble_eq_true rfl⟩ rfl kc_M k1 m_326 m_327 m_328 rfl d_M_stand_43 rfl rfl ct_0 (cnt_room0 hmc hc) (cnt_room0 hms hs) ?_
        refine gw.cs (c2 := 0) (s2 := 0) rfl rfl ?_
        refine g_istore (i := 4) (lv' := [some (va_rf (some o)), some (.int v1), some (.int v2), some (.int x3), some (.int x9), none]) hE d_M_stand_46 (Nat.le_of_ble_eq_true rfl) ⟨rfl, Nat.le_of_ble_eq_true rfl⟩ (lvp_i rfl) ?_
        refine g_iload (i := 4) hE d_M_stand_48 rfl ?_
        refine g_iconst hE d_M_stand_50 ki_m1 ?_
        refine g_icmp_eq hE d_M_stand_51 (fun c28 => ?_) (fun c28 => ?_)
        · replace h := if_t c28 h
          refine g_aload_n (i := 0) hE d_M_stand_57 rfl rfl ?_
          refine g_aload_n (i := 0) hE d_M_stand_58 rfl rfl ?_
          refine g_iload_n (i := 1) hE d_M_stand_59 rfl rfl ?_
          refine g_iload_n (i := 3) hE d_M_stand_60 rfl rfl ?_
          obtain ⟨x11, e12, h⟩ := bd_s h
          refine g_callV (av := [.inr (.inr (some o)), .inl v1, .inl x3]) (as := [.inl v1, .inl x3]) (stk := [.int x11, va_rf (some o)]) [va_rf (some o)] hE (c_M_faultOfList (xl X) (xG X) e12) ky_M_faultOfList ⟨Nat.le_of_ble_eq_true rfl, Nat.le_of_ble_eq_true rfl⟩ rfl kc_M k1 m_329 m_330 m_331 rfl d_M_stand_61 rfl rfl (Nat.le_trans (ct_r ct_n) (Nat.le_of_ble_eq_true rfl)) (cnt_room0 hmc hc) (cnt_room0 hms hs) ?_
          refine gw.cs (c2 := 0) (s2 := 0) rfl rfl ?_
          refine g_putI 14 hE kc_M k1 (Nat.le_of_ble_eq_true rfl) rfl m_322 rfl (by decide +kernel) d_M_stand_64 (fun d13 e => ?_)
          replace h := lt_i e h; clear e
          refine g_aload_n (i := 0) hE d_M_stand_67 rfl rfl ?_
          refine g_getI 14 hE kc_M k1 (Nat.le_of_ble_eq_true rfl) rfl m_322 d_M_stand_68 (fun x14 e => ?_)
          replace h := lt_i e h; clear e
          refine g_if_ne hE d_M_stand_71 (fun c27 => ?_) (fun c27 => ?_)
          · replace h := if_f c27 h
            exact gw.less (lv' := [some (va_rf (some o)), some (.int v1), none, some (.int x3), none, none]) (And.intro rfl (And.intro rfl (And.intro rfl trivial))) (w_M_stand_J87 hE hmc hms _ _ _ _ S d13 v1 x3 h hc hs)
          · replace h := if_t c27 h
            refine g_aload_n (i := 0) hE d_M_stand_74 rfl rfl ?_
            refine g_iload_n (i := 3) hE d_M_stand_75 rfl rfl ?_
            obtain ⟨x15, S17, d18, n19, n20, dc0, ds0, e16, h, hc0, hs0⟩ := bdA_s h
            refine g_callV (av := [.inr (.inr (some o)), .inl x3]) (as := [.inl x3]) (stk := []) [] hE (c_M_fillDraft (xl X) (xG X) e16) ky_M_fillDraft ⟨Nat.le_of_ble_eq_true rfl, Nat.le_of_ble_eq_true rfl⟩ rfl kc_M k1 m_338 m_339 m_340 rfl d_M_stand_76 rfl rfl ct_0 (cnt_room hmc hc hc0) (cnt_room hms hs hs0) ?_
            refine gw.gen (fun c21 s22 ec es => ?_)
            replace hc := cnt_step hc hc0 ec; replace hs := cnt_step hs hs0 es; clear hc0 hs0 ec es
            refine g_aload_n (i := 0) hE d_M_stand_79 rfl rfl ?_
            refine g_aload_n (i := 0) hE d_M_stand_80 rfl rfl ?_
            obtain ⟨k23, h⟩ := kd_s h
            obtain ⟨x24, e25, h⟩ := bd_s h
            refine g_callV (av := [.inr (.inr (some o))]) (as := []) (stk := [.int x24, va_rf (some o)]) [va_rf (some o)] hE (c_M_faultOfDraft (xl X) (xG X) e25) ky_M_faultOfDraft ⟨Nat.le_of_ble_eq_true rfl, Nat.le_of_ble_eq_true rfl⟩ rfl kc_M k23 m_341 m_342 m_343 rfl d_M_stand_81 rfl rfl (Nat.le_trans (ct_r ct_n) (Nat.le_of_ble_eq_true rfl)) (cnt_room0 hmc hc) (cnt_room0 hms hs) ?_
            refine gw.cs (c2 := c21) (s2 := s22) rfl rfl ?_
            refine g_putI 14 hE kc_M k23 (Nat.le_of_ble_eq_true rfl) rfl m_322 rfl (by decide +kernel) d_M_stand_84 (fun d26 e => ?_)
            replace h := lt_i e h; clear e
            exact gw.less (lv' := [some (va_rf (some o)), some (.int v1), none, some (.int x3), none, none]) (And.intro rfl (And.intro rfl (And.intro rfl trivial))) (w_M_stand_J87 hE hmc hms _ _ _ _ S17 d26 v1 x3 h hc hs)
        · replace h := if_f c28 h
          refine g_iload (i := 4) hE d_M_stand_54 rfl ?_
          cases h
          exact g_iret hE d_M_stand_56 hc hs
      · replace h := if_t c29 h
        exact gw.less (lv' := [some (va_rf (some o)), none, none, none, none, none]) (And.intro rfl trivial) (w_M_stand_J30 hE hmc hms _ _ _ _ S d2 h hc hs)
set_option maxRecDepth 100000 in
set_option maxHeartbeats 4000000 in
theorem w_M_standb1_J30 {X : GX} (hE : gE X b_M_stand 6 "StandInMill" (some (.int)) "stand" 7 159) {o : Nat} (hX : gX (xG X) (xs X)) (htr : (xl X).stackTraces = false) (het : (xc X).exceptionTable.isEmpty = true) {S' : gS} {d' : gD} {mc ms : Nat} (hmc : (xR X).cells = mc) (hms : (xR X).slots = ms) :
    ∀ (cells slots dc ds : Nat) (S : gS) (d : gD), f_M_stand_J30 o S d = some ((.inr 1, S', d'), dc, ds) → cells + dc = mc → slots + ds = ms → gw X cells slots (gQT X xI S' d' mc ms) S d 30 [some (va_rf (some o)), none, none, none, none, none] [] := by
  intro cells slots dc ds S d h hc hs
  unfold f_M_stand_J30 at h
  obtain ⟨dc0, ds0, h, hc0, hs0⟩ := ac_s h
  cases h
  exact g_throw hE hX htr het xat_1 (by decide +kernel) m_344 m_345 m_346 (xs_202) ⟨Nat.le_of_ble_eq_true rfl, Nat.le_of_ble_eq_true rfl⟩ (cnt_room hmc hc hc0) (cnt_room hms hs hs0) (by omega) (by omega) d_M_stand_30 d_M_stand_33 (Or.inl d_M_stand_34) d_M_stand_36 d_M_stand_39
set_option maxRecDepth 100000 in
set_option maxHeartbeats 4000000 in
theorem w_M_standb1_J87 {X : GX} (hE : gE X b_M_stand 6 "StandInMill" (some (.int)) "stand" 7 159) {o : Nat} (hX : gX (xG X) (xs X)) (htr : (xl X).stackTraces = false) (het : (xc X).exceptionTable.isEmpty = true) {S' : gS} {d' : gD} {mc ms : Nat} (hmc : (xR X).cells = mc) (hms : (xR X).slots = ms) :
    ∀ (cells slots dc ds : Nat) (S : gS) (d : gD) (v1 : Int32) (v3 : Int32), f_M_stand_J87 o S d v1 v3 = some ((.inr 1, S', d'), dc, ds) → cells + dc = mc → slots + ds = ms → gw X cells slots (gQT X xI S' d' mc ms) S d 87 [some (va_rf (some o)), some (.int v1), none, some (.int v3), none, none] [] := by
  intro cells slots dc ds S d v1 v3 h hc hs
  unfold f_M_stand_J87 at h
  refine g_aload_n (i := 0) hE d_M_stand_87 rfl rfl ?_
  obtain ⟨k1, h⟩ := kd_s h
  refine g_getI 14 hE kc_M k1 (Nat.le_of_ble_eq_true rfl) rfl m_322 d_M_stand_88 (fun x2 e => ?_)
  replace h := lt_i e h; clear e
  refine g_if_eq hE d_M_stand_91 (fun c36 => ?_) (fun c36 => ?_)
  · replace h := if_t c36 h
    refine g_aload_n (i := 0) hE d_M_stand_104 rfl rfl ?_
    refine g_iload_n (i := 1) hE d_M_stand_105 rfl rfl ?_
    refine g_iload_n (i := 3) hE d_M_stand_106 rfl rfl ?_
    obtain ⟨x3, S5, d6, n7, n8, dc0, ds0, e4, h, hc0, hs0⟩ := bdA_s h
    refine g_callV (av := [.inr (.inr (some o)), .inl v1, .inl v3]) (as := [.inl v1, .inl v3]) (stk := [va_rf x3]) [] hE (c_M_madeOfDraft (xl X) (xG X) e4) ky_M_madeOfDraft ⟨Nat.le_of_ble_eq_true rfl, Nat.le_of_ble_eq_true rfl⟩ rfl kc_M k1 m_332 m_333 m_334 rfl d_M_stand_107 rfl rfl ct_0 (cnt_room hmc hc hc0) (cnt_room hms hs hs0) ?_
    refine gw.gen (fun c9 s10 ec es => ?_)
    replace hc := cnt_step hc hc0 ec; replace hs := cnt_step hs hs0 es; clear hc0 hs0 ec es
    refine g_astore (i := 5) (lv' := [some (va_rf (some o)), some (.int v1), none, some (.int v3), none, some (va_rf x3)]) hE d_M_stand_110 (Nat.le_of_ble_eq_true rfl) ⟨rfl, Nat.le_of_ble_eq_true rfl⟩ (lvp_n rfl) ?_
    refine g_aload (i := 5) hE d_M_stand_112 rfl ?_
    refine g_aload_n (i := 0) hE d_M_stand_114 rfl rfl ?_
    obtain ⟨k11, h⟩ := kd_s h
    refine g_getR 12 hE kc_M k11 (Nat.le_of_ble_eq_true rfl) rfl m_61 d_M_stand_115 (fun x12 e => ?_)
    replace h := lt_i e h; clear e
    refine g_aload (i := 5) hE d_M_stand_118 rfl ?_
    obtain ⟨a13, rfl, h⟩ := nn_s h
    obtain ⟨k14, h⟩ := kd_s h
    obtain ⟨x15, S17, d18, n19, n20, dc0, ds0, e16, h, hc0, hs0⟩ := bdA_s h
    refine g_callV (av := [.inr (.inr (some a13)), .inr (.inr x3)]) (as := [.inr (.inr x3)]) (stk := [va_rf x15, va_rf x3]) [va_rf x3] hE (c_Uw_write (xl X) (xG X) e16) ky_Uw_write ⟨Nat.le_of_ble_eq_true rfl, Nat.le_of_ble_eq_true rfl⟩ rfl kc_Uw k14 m_335 m_336 m_337 rfl d_M_stand_120 rfl rfl (Nat.le_trans (ct_r ct_n) (Nat.le_of_ble_eq_true rfl)) (cnt_room hmc hc hc0) (cnt_room hms hs hs0) ?_
    refine gw.gen (fun c21 s22 ec es => ?_)
    replace hc := cnt_step hc hc0 ec; replace hs := cnt_step hs hs0 es; clear hc0 hs0 ec es
    obtain ⟨a23, rfl, h⟩ := nn_s h
    obtain ⟨k24, h⟩ := kd_s h
    refine g_putRN (fty := .array (.byte)) 5 hE kc_Si k24 (Nat.le_of_ble_eq_true rfl) rfl nf_42 rfl (by decide +kernel) rfl d_M_stand_123 (fun S25 e => ?_)
    replace k24 : sK S25 a23 = 6 := by rw [← e]; exact k24
    replace h := lt_i e h; clear e
    refine g_aload_n (i := 0) hE d_M_stand_126 rfl rfl ?_
    obtain ⟨k26, h⟩ := kd_s h
    refine g_getR 9 hE kc_M k26 (Nat.le_of_ble_eq_true rfl) rfl m_50 d_M_stand_127 (fun x27 e => ?_)
    replace h := lt_i e h; clear e
    refine g_aload_n (i := 0) hE d_M_stand_130 rfl rfl ?_
    refine g_getI 10 hE kc_M k26 (Nat.le_of_ble_eq_true rfl) rfl m_111 d_M_stand_131 (fun x28 e => ?_)
    replace h := lt_i e h; clear e
    refine g_aload (i := 5) hE d_M_stand_134 rfl ?_
    obtain ⟨a29, rfl, h⟩ := nn_s h
    obtain ⟨k30, h⟩ := kd_s h
    obtain ⟨g31, h⟩ := gi_s h
    refine g_aast hE k30 (by decide) (fun _ => rfl) rfl kc_Si k24 g31 d_M_stand_136 (fun S32 e => ?_)
    replace k24 : sK S32 a23 = 6 := by rw [← e]; exact k24
    replace k26 : sK S32 o = 1 := by rw [← e]; exact k26
    replace k30 : sK S32 a29 = 62 := by rw [← e]; exact k30
    replace h := lt_i e h; clear e
    refine g_aload_n (i := 0) hE d_M_stand_137 rfl rfl ?_
    refine g_dupr hE d_M_stand_138 ?_
    refine g_getI 10 hE kc_M k26 (Nat.le_of_ble_eq_true rfl) rfl m_111 d_M_stand_139 (fun x33 e => ?_)
    replace h := lt_i e h; clear e
    refine g_iconst hE d_M_stand_142 ki_1 ?_
    refine g_iadd hE d_M_stand_143 ?_
    refine g_putI 10 hE kc_M k26 (Nat.le_of_ble_eq_true rfl) rfl m_111 rfl (by decide +kernel) d_M_stand_144 (fun d34 e => ?_)
    replace h := lt_i e h; clear e
    refine g_aload_n (i := 0) hE d_M_stand_147 rfl rfl ?_
    refine g_getI 10 hE kc_M k26 (Nat.le_of_ble_eq_true rfl) rfl m_111 d_M_stand_148 (fun x35 e => ?_)
    replace h := lt_i e h; clear e
    refine g_iconst hE d_M_stand_151 ki_1 ?_
    refine g_isub hE d_M_stand_152 ?_
    cases h
  · replace h := if_f c36 h
    obtain ⟨dc0, ds0, h, hc0, hs0⟩ := ac_s h
    simp at h
set_option maxRecDepth 100000 in
set_option maxHeartbeats 4000000 in
theorem c_M_standb1 (l : Launch) (G : gG) (hlt : l.stackTraces = false) {S : gS} {d : gD} {o : Nat} {v1 : Int32} {v2 : Int32} {d' : gD} {S' : gS} {dc ds : Nat} (h : f_M_stand S d o v1 v2 = some ((.inr 1, S', d'), dc, ds)) : GT l G y_M_stand b_M_stand 6 (some (.int)) 7 159 dc ds [.inr (.inr (some o)), .inl v1, .inl v2] S d xI S' d' := by
  refine GT.of (by decide) (Nat.le_of_ble_eq_true rfl) ?_
  intro X hl0 hG0 hR0 hE0 het hX
  have htr : (xl X).stackTraces = false := by rw [hl0]; exact hlt
  have hE : gE X b_M_stand 6 "StandInMill" (some (.int)) "stand" 7 159 := hE0
  have hmc : (xR X).cells = dc := by rw [hR0]
  have hms : (xR X).slots = ds := by rw [hR0]
  obtain ⟨mc, emc⟩ : ∃ z, z = dc := ⟨_, rfl⟩
  obtain ⟨ms, ems⟩ : ∃ z, z = ds := ⟨_, rfl⟩
  rw [← emc] at hmc
  rw [← ems] at hms
  have hc : 0 + dc = mc := by omega
  have hs : 0 + ds = ms := by omega
  show gw X 0 0 (gQT X _ _ _ dc ds) _ _ _ _ _
  rw [← emc, ← ems]
  clear hR0 emc ems
  unfold f_M_stand at h
  refine gw.less (lv' := [some (va_rf (some o)), some (.int v1), some (.int v2), none, none, none]) (And.intro rfl (And.intro rfl (And.intro rfl trivial))) ?_
  refine g_aload_n (i := 0) hE d_M_stand_0 rfl rfl ?_
  refine g_iconst hE d_M_stand_1 ki_0 ?_
  obtain ⟨k1, h⟩ := kd_s h
  refine g_putI 14 hE kc_M k1 (Nat.le_of_ble_eq_true rfl) rfl m_322 rfl (by decide +kernel) d_M_stand_2 (fun d2 e => ?_)
  replace h := lt_i e h; clear e
  refine g_iload_n (i := 2) hE d_M_stand_5 rfl rfl ?_
  obtain ⟨x3, e4, h⟩ := bd_s h
  refine g_callS (av := [.inl v2]) (stk := [.int x3]) [] hE (c_M_cutAtZero (xl X) (xG X) e4) ky_M_cutAtZero ⟨Nat.le_of_ble_eq_true rfl, Nat.le_of_ble_eq_true rfl⟩ m_137 m_138 rfl d_M_stand_6 rfl rfl ct_0 (cnt_room0 hmc hc) (cnt_room0 hms hs) ?_
  refine gw.cs (c2 := 0) (s2 := 0) rfl rfl ?_
  refine g_istore_n (i := 3) (lv' := [some (va_rf (some o)), some (.int v1), some (.int v2), some (.int x3), none, none]) hE d_M_stand_9 rfl (Nat.le_of_ble_eq_true rfl) ⟨rfl, Nat.le_of_ble_eq_true rfl⟩ (lvp_i rfl) ?_
  refine g_aload_n (i := 0) hE d_M_stand_10 rfl rfl ?_
  refine g_iload_n (i := 1) hE d_M_stand_11 rfl rfl ?_
  obtain ⟨x5, e6, h⟩ := bd_s h
  refine g_callV (av := [.inr (.inr (some o)), .inl v1]) (as := [.inl v1]) (stk := [.int x5]) [] hE (c_M_isLoader (xl X) (xG X) e6) ky_M_isLoader ⟨Nat.le_of_ble_eq_true rfl, Nat.le_of_ble_eq_true rfl⟩ rfl kc_M k1 m_75 m_76 m_77 rfl d_M_stand_12 rfl rfl ct_0 (cnt_room0 hmc hc) (cnt_room0 hms hs) ?_
  refine gw.cs (c2 := 0) (s2 := 0) rfl rfl ?_
  refine g_if_eq hE d_M_stand_15 (fun c31 => ?_) (fun c31 => ?_)
  · replace h := if_t c31 h
    exact gw.less (lv' := [some (va_rf (some o)), none, none, none, none, none]) (And.intro rfl trivial) (w_M_standb1_J30 hE hX htr het hmc hms _ _ _ _ S d2 h hc hs)
  · replace h := if_f c31 h
    refine g_iload_n (i := 3) hE d_M_stand_18 rfl rfl ?_
    refine g_if_eq hE d_M_stand_19 (fun c30 => ?_) (fun c30 => ?_)
    · replace h := if_t c30 h
      exact gw.less (lv' := [some (va_rf (some o)), none, none, none, none, none]) (And.intro rfl trivial) (w_M_standb1_J30 hE hX htr het hmc hms _ _ _ _ S d2 h hc hs)
    · replace h := if_f c30 h
      refine g_aload_n (i := 0) hE d_M_stand_22 rfl rfl ?_
      refine g_iload_n (i := 3) hE d_M_stand_23 rfl rfl ?_
      obtain ⟨x7, e8, h⟩ := bd_s h
      refine g_callV (av := [.inr (.inr (some o)), .inl x3]) (as := [.inl x3]) (stk := [.int x7]) [] hE (c_M_areFaces (xl X) (xG X) e8) ky_M_areFaces ⟨Nat.le_of_ble_eq_true rfl, Nat.le_of_ble_eq_true rfl⟩ rfl kc_M k1 m_323 m_324 m_325 rfl d_M_stand_24 rfl rfl ct_0 (cnt_room0 hmc hc) (cnt_room0 hms hs) ?_
      refine gw.cs (c2 := 0) (s2 := 0) rfl rfl ?_
      refine g_if_ne hE d_M_stand_27 (fun c29 => ?_) (fun c29 => ?_)
      · replace h := if_f c29 h
        refine g_aload_n (i := 0) hE d_M_stand_40 rfl rfl ?_
        refine g_iload_n (i := 1) hE d_M_stand_41 rfl rfl ?_
        refine g_iload_n (i := 3) hE d_M_stand_42 rfl rfl ?_
        obtain ⟨x9, e10, h⟩ := bd_s h
        refine g_callV (av := [.inr (.inr (some o)), .inl v1, .inl x3]) (as := [.inl v1, .inl x3]) (stk := [.int x9]) [] hE (c_M_standMadeFor (xl X) (xG X) e10) ky_M_standMadeFor ⟨Nat.le_of_ble_eq_true rfl, Nat.le_of_ble_eq_true rfl⟩ rfl kc_M k1 m_326 m_327 m_328 rfl d_M_stand_43 rfl rfl ct_0 (cnt_room0 hmc hc) (cnt_room0 hms hs) ?_
        refine gw.cs (c2 := 0) (s2 := 0) rfl rfl ?_
        refine g_istore (i := 4) (lv' := [some (va_rf (some o)), some (.int v1), some (.int v2), some (.int x3), some (.int x9), none]) hE d_M_stand_46 (Nat.le_of_ble_eq_true rfl) ⟨rfl, Nat.le_of_ble_eq_true rfl⟩ (lvp_i rfl) ?_
        refine g_iload (i := 4) hE d_M_stand_48 rfl ?_
        refine g_iconst hE d_M_stand_50 ki_m1 ?_
        refine g_icmp_eq hE d_M_stand_51 (fun c28 => ?_) (fun c28 => ?_)
        · replace h := if_t c28 h
          refine g_aload_n (i := 0) hE d_M_stand_57 rfl rfl ?_
          refine g_aload_n (i := 0) hE d_M_stand_58 rfl rfl ?_
          refine g_iload_n (i := 1) hE d_M_stand_59 rfl rfl ?_
          refine g_iload_n (i := 3) hE d_M_stand_60 rfl rfl ?_
          obtain ⟨x11, e12, h⟩ := bd_s h
          refine g_callV (av := [.inr (.inr (some o)), .inl v1, .inl x3]) (as := [.inl v1, .inl x3]) (stk := [.int x11, va_rf (some o)]) [va_rf (some o)] hE (c_M_faultOfList (xl X) (xG X) e12) ky_M_faultOfList ⟨Nat.le_of_ble_eq_true rfl, Nat.le_of_ble_eq_true rfl⟩ rfl kc_M k1 m_329 m_330 m_331 rfl d_M_stand_61 rfl rfl (Nat.le_trans (ct_r ct_n) (Nat.le_of_ble_eq_true rfl)) (cnt_room0 hmc hc) (cnt_room0 hms hs) ?_
          refine gw.cs (c2 := 0) (s2 := 0) rfl rfl ?_
          refine g_putI 14 hE kc_M k1 (Nat.le_of_ble_eq_true rfl) rfl m_322 rfl (by decide +kernel) d_M_stand_64 (fun d13 e => ?_)
          replace h := lt_i e h; clear e
          refine g_aload_n (i := 0) hE d_M_stand_67 rfl rfl ?_
          refine g_getI 14 hE kc_M k1 (Nat.le_of_ble_eq_true rfl) rfl m_322 d_M_stand_68 (fun x14 e => ?_)
          replace h := lt_i e h; clear e
          refine g_if_ne hE d_M_stand_71 (fun c27 => ?_) (fun c27 => ?_)
          · replace h := if_f c27 h
            exact gw.less (lv' := [some (va_rf (some o)), some (.int v1), none, some (.int x3), none, none]) (And.intro rfl (And.intro rfl (And.intro rfl trivial))) (w_M_standb1_J87 hE hX htr het hmc hms _ _ _ _ S d13 v1 x3 h hc hs)
          · replace h := if_t c27 h
            refine g_aload_n (i := 0) hE d_M_stand_74 rfl rfl ?_
            refine g_iload_n (i := 3) hE d_M_stand_75 rfl rfl ?_
            obtain ⟨x15, S17, d18, n19, n20, dc0, ds0, e16, h, hc0, hs0⟩ := bdA_s h
            refine g_callV (av := [.inr (.inr (some o)), .inl x3]) (as := [.inl x3]) (stk := []) [] hE (c_M_fillDraft (xl X) (xG X) e16) ky_M_fillDraft ⟨Nat.le_of_ble_eq_true rfl, Nat.le_of_ble_eq_true rfl⟩ rfl kc_M k1 m_338 m_339 m_340 rfl d_M_stand_76 rfl rfl ct_0 (cnt_room hmc hc hc0) (cnt_room hms hs hs0) ?_
            refine gw.gen (fun c21 s22 ec es => ?_)
            replace hc := cnt_step hc hc0 ec; replace hs := cnt_step hs hs0 es; clear hc0 hs0 ec es
            refine g_aload_n (i := 0) hE d_M_stand_79 rfl rfl ?_
            refine g_aload_n (i := 0) hE d_M_stand_80 rfl rfl ?_
            obtain ⟨k23, h⟩ := kd_s h
            obtain ⟨x24, e25, h⟩ := bd_s h
            refine g_callV (av := [.inr (.inr (some o))]) (as := []) (stk := [.int x24, va_rf (some o)]) [va_rf (some o)] hE (c_M_faultOfDraft (xl X) (xG X) e25) ky_M_faultOfDraft ⟨Nat.le_of_ble_eq_true rfl, Nat.le_of_ble_eq_true rfl⟩ rfl kc_M k23 m_341 m_342 m_343 rfl d_M_stand_81 rfl rfl (Nat.le_trans (ct_r ct_n) (Nat.le_of_ble_eq_true rfl)) (cnt_room0 hmc hc) (cnt_room0 hms hs) ?_
            refine gw.cs (c2 := c21) (s2 := s22) rfl rfl ?_
            refine g_putI 14 hE kc_M k23 (Nat.le_of_ble_eq_true rfl) rfl m_322 rfl (by decide +kernel) d_M_stand_84 (fun d26 e => ?_)
            replace h := lt_i e h; clear e
            exact gw.less (lv' := [some (va_rf (some o)), some (.int v1), none, some (.int x3), none, none]) (And.intro rfl (And.intro rfl (And.intro rfl trivial))) (w_M_standb1_J87 hE hX htr het hmc hms _ _ _ _ S17 d26 v1 x3 h hc hs)
        · replace h := if_f c28 h
          refine g_iload (i := 4) hE d_M_stand_54 rfl ?_
          cases h
      · replace h := if_t c29 h
        exact gw.less (lv' := [some (va_rf (some o)), none, none, none, none, none]) (And.intro rfl trivial) (w_M_standb1_J30 hE hX htr het hmc hms _ _ _ _ S d2 h hc hs)
set_option maxRecDepth 100000 in
set_option maxHeartbeats 4000000 in
theorem w_M_standb2_J30 {X : GX} (hE : gE X b_M_stand 6 "StandInMill" (some (.int)) "stand" 7 159) {o : Nat} (hX : gX (xG X) (xs X)) (htr : (xl X).stackTraces = false) (het : (xc X).exceptionTable.isEmpty = true) {S' : gS} {d' : gD} {mc ms : Nat} (hmc : (xR X).cells = mc) (hms : (xR X).slots = ms) :
    ∀ (cells slots dc ds : Nat) (S : gS) (d : gD), f_M_stand_J30 o S d = some ((.inr 2, S', d'), dc, ds) → cells + dc = mc → slots + ds = ms → gw X cells slots (gQT X xA S' d' mc ms) S d 30 [some (va_rf (some o)), none, none, none, none, none] [] := by
  intro cells slots dc ds S d h hc hs
  unfold f_M_stand_J30 at h
  obtain ⟨dc0, ds0, h, hc0, hs0⟩ := ac_s h
  simp at h
set_option maxRecDepth 100000 in
set_option maxHeartbeats 4000000 in
theorem w_M_standb2_J87 {X : GX} (hE : gE X b_M_stand 6 "StandInMill" (some (.int)) "stand" 7 159) {o : Nat} (hX : gX (xG X) (xs X)) (htr : (xl X).stackTraces = false) (het : (xc X).exceptionTable.isEmpty = true) {S' : gS} {d' : gD} {mc ms : Nat} (hmc : (xR X).cells = mc) (hms : (xR X).slots = ms) :
    ∀ (cells slots dc ds : Nat) (S : gS) (d : gD) (v1 : Int32) (v3 : Int32), f_M_stand_J87 o S d v1 v3 = some ((.inr 2, S', d'), dc, ds) → cells + dc = mc → slots + ds = ms → gw X cells slots (gQT X xA S' d' mc ms) S d 87 [some (va_rf (some o)), some (.int v1), none, some (.int v3), none, none] [] := by
  intro cells slots dc ds S d v1 v3 h hc hs
  unfold f_M_stand_J87 at h
  refine g_aload_n (i := 0) hE d_M_stand_87 rfl rfl ?_
  obtain ⟨k1, h⟩ := kd_s h
  refine g_getI 14 hE kc_M k1 (Nat.le_of_ble_eq_true rfl) rfl m_322 d_M_stand_88 (fun x2 e => ?_)
  replace h := lt_i e h; clear e
  refine g_if_eq hE d_M_stand_91 (fun c36 => ?_) (fun c36 => ?_)
  · replace h := if_t c36 h
    refine g_aload_n (i := 0) hE d_M_stand_104 rfl rfl ?_
    refine g_iload_n (i := 1) hE d_M_stand_105 rfl rfl ?_
    refine g_iload_n (i := 3) hE d_M_stand_106 rfl rfl ?_
    obtain ⟨x3, S5, d6, n7, n8, dc0, ds0, e4, h, hc0, hs0⟩ := bdA_s h
    refine g_callV (av := [.inr (.inr (some o)), .inl v1, .inl v3]) (as := [.inl v1, .inl v3]) (stk := [va_rf x3]) [] hE (c_M_madeOfDraft (xl X) (xG X) e4) ky_M_madeOfDraft ⟨Nat.le_of_ble_eq_true rfl, Nat.le_of_ble_eq_true rfl⟩ rfl kc_M k1 m_332 m_333 m_334 rfl d_M_stand_107 rfl rfl ct_0 (cnt_room hmc hc hc0) (cnt_room hms hs hs0) ?_
    refine gw.gen (fun c9 s10 ec es => ?_)
    replace hc := cnt_step hc hc0 ec; replace hs := cnt_step hs hs0 es; clear hc0 hs0 ec es
    refine g_astore (i := 5) (lv' := [some (va_rf (some o)), some (.int v1), none, some (.int v3), none, some (va_rf x3)]) hE d_M_stand_110 (Nat.le_of_ble_eq_true rfl) ⟨rfl, Nat.le_of_ble_eq_true rfl⟩ (lvp_n rfl) ?_
    refine g_aload (i := 5) hE d_M_stand_112 rfl ?_
    refine g_aload_n (i := 0) hE d_M_stand_114 rfl rfl ?_
    obtain ⟨k11, h⟩ := kd_s h
    refine g_getR 12 hE kc_M k11 (Nat.le_of_ble_eq_true rfl) rfl m_61 d_M_stand_115 (fun x12 e => ?_)
    replace h := lt_i e h; clear e
    refine g_aload (i := 5) hE d_M_stand_118 rfl ?_
    obtain ⟨a13, rfl, h⟩ := nn_s h
    obtain ⟨k14, h⟩ := kd_s h
    obtain ⟨x15, S17, d18, n19, n20, dc0, ds0, e16, h, hc0, hs0⟩ := bdA_s h
    refine g_callV (av := [.inr (.inr (some a13)), .inr (.inr x3)]) (as := [.inr (.inr x3)]) (stk := [va_rf x15, va_rf x3]) [va_rf x3] hE (c_Uw_write (xl X) (xG X) e16) ky_Uw_write ⟨Nat.le_of_ble_eq_true rfl, Nat.le_of_ble_eq_true rfl⟩ rfl kc_Uw k14 m_335 m_336 m_337 rfl d_M_stand_120 rfl rfl (Nat.le_trans (ct_r ct_n) (Nat.le_of_ble_eq_true rfl)) (cnt_room hmc hc hc0) (cnt_room hms hs hs0) ?_
    refine gw.gen (fun c21 s22 ec es => ?_)
    replace hc := cnt_step hc hc0 ec; replace hs := cnt_step hs hs0 es; clear hc0 hs0 ec es
    obtain ⟨a23, rfl, h⟩ := nn_s h
    obtain ⟨k24, h⟩ := kd_s h
    refine g_putRN (fty := .array (.byte)) 5 hE kc_Si k24 (Nat.le_of_ble_eq_true rfl) rfl nf_42 rfl (by decide +kernel) rfl d_M_stand_123 (fun S25 e => ?_)
    replace k24 : sK S25 a23 = 6 := by rw [← e]; exact k24
    replace h := lt_i e h; clear e
    refine g_aload_n (i := 0) hE d_M_stand_126 rfl rfl ?_
    obtain ⟨k26, h⟩ := kd_s h
    refine g_getR 9 hE kc_M k26 (Nat.le_of_ble_eq_true rfl) rfl m_50 d_M_stand_127 (fun x27 e => ?_)
    replace h := lt_i e h; clear e
    refine g_aload_n (i := 0) hE d_M_stand_130 rfl rfl ?_
    refine g_getI 10 hE kc_M k26 (Nat.le_of_ble_eq_true rfl) rfl m_111 d_M_stand_131 (fun x28 e => ?_)
    replace h := lt_i e h; clear e
    refine g_aload (i := 5) hE d_M_stand_134 rfl ?_
    obtain ⟨a29, rfl, h⟩ := nn_s h
    obtain ⟨k30, h⟩ := kd_s h
    obtain ⟨g31, h⟩ := gi_s h
    refine g_aast hE k30 (by decide) (fun _ => rfl) rfl kc_Si k24 g31 d_M_stand_136 (fun S32 e => ?_)
    replace k24 : sK S32 a23 = 6 := by rw [← e]; exact k24
    replace k26 : sK S32 o = 1 := by rw [← e]; exact k26
    replace k30 : sK S32 a29 = 62 := by rw [← e]; exact k30
    replace h := lt_i e h; clear e
    refine g_aload_n (i := 0) hE d_M_stand_137 rfl rfl ?_
    refine g_dupr hE d_M_stand_138 ?_
    refine g_getI 10 hE kc_M k26 (Nat.le_of_ble_eq_true rfl) rfl m_111 d_M_stand_139 (fun x33 e => ?_)
    replace h := lt_i e h; clear e
    refine g_iconst hE d_M_stand_142 ki_1 ?_
    refine g_iadd hE d_M_stand_143 ?_
    refine g_putI 10 hE kc_M k26 (Nat.le_of_ble_eq_true rfl) rfl m_111 rfl (by decide +kernel) d_M_stand_144 (fun d34 e => ?_)
    replace h := lt_i e h; clear e
    refine g_aload_n (i := 0) hE d_M_stand_147 rfl rfl ?_
    refine g_getI 10 hE kc_M k26 (Nat.le_of_ble_eq_true rfl) rfl m_111 d_M_stand_148 (fun x35 e => ?_)
    replace h := lt_i e h; clear e
    refine g_iconst hE d_M_stand_151 ki_1 ?_
    refine g_isub hE d_M_stand_152 ?_
    cases h
  · replace h := if_f c36 h
    obtain ⟨dc0, ds0, h, hc0, hs0⟩ := ac_s h
    cases h
    exact g_throw hE hX htr het xat_2 (by decide +kernel) m_347 m_348 m_349 (xs_223) ⟨Nat.le_of_ble_eq_true rfl, Nat.le_of_ble_eq_true rfl⟩ (cnt_room hmc hc hc0) (cnt_room hms hs hs0) (by omega) (by omega) d_M_stand_94 d_M_stand_97 (Or.inl d_M_stand_98) d_M_stand_100 d_M_stand_103
set_option maxRecDepth 100000 in
set_option maxHeartbeats 4000000 in
theorem c_M_standb2 (l : Launch) (G : gG) (hlt : l.stackTraces = false) {S : gS} {d : gD} {o : Nat} {v1 : Int32} {v2 : Int32} {d' : gD} {S' : gS} {dc ds : Nat} (h : f_M_stand S d o v1 v2 = some ((.inr 2, S', d'), dc, ds)) : GT l G y_M_stand b_M_stand 6 (some (.int)) 7 159 dc ds [.inr (.inr (some o)), .inl v1, .inl v2] S d xA S' d' := by
  refine GT.of (by decide) (Nat.le_of_ble_eq_true rfl) ?_
  intro X hl0 hG0 hR0 hE0 het hX
  have htr : (xl X).stackTraces = false := by rw [hl0]; exact hlt
  have hE : gE X b_M_stand 6 "StandInMill" (some (.int)) "stand" 7 159 := hE0
  have hmc : (xR X).cells = dc := by rw [hR0]
  have hms : (xR X).slots = ds := by rw [hR0]
  obtain ⟨mc, emc⟩ : ∃ z, z = dc := ⟨_, rfl⟩
  obtain ⟨ms, ems⟩ : ∃ z, z = ds := ⟨_, rfl⟩
  rw [← emc] at hmc
  rw [← ems] at hms
  have hc : 0 + dc = mc := by omega
  have hs : 0 + ds = ms := by omega
  show gw X 0 0 (gQT X _ _ _ dc ds) _ _ _ _ _
  rw [← emc, ← ems]
  clear hR0 emc ems
  unfold f_M_stand at h
  refine gw.less (lv' := [some (va_rf (some o)), some (.int v1), some (.int v2), none, none, none]) (And.intro rfl (And.intro rfl (And.intro rfl trivial))) ?_
  refine g_aload_n (i := 0) hE d_M_stand_0 rfl rfl ?_
  refine g_iconst hE d_M_stand_1 ki_0 ?_
  obtain ⟨k1, h⟩ := kd_s h
  refine g_putI 14 hE kc_M k1 (Nat.le_of_ble_eq_true rfl) rfl m_322 rfl (by decide +kernel) d_M_stand_2 (fun d2 e => ?_)
  replace h := lt_i e h; clear e
  refine g_iload_n (i := 2) hE d_M_stand_5 rfl rfl ?_
  obtain ⟨x3, e4, h⟩ := bd_s h
  refine g_callS (av := [.inl v2]) (stk := [.int x3]) [] hE (c_M_cutAtZero (xl X) (xG X) e4) ky_M_cutAtZero ⟨Nat.le_of_ble_eq_true rfl, Nat.le_of_ble_eq_true rfl⟩ m_137 m_138 rfl d_M_stand_6 rfl rfl ct_0 (cnt_room0 hmc hc) (cnt_room0 hms hs) ?_
  refine gw.cs (c2 := 0) (s2 := 0) rfl rfl ?_
  refine g_istore_n (i := 3) (lv' := [some (va_rf (some o)), some (.int v1), some (.int v2), some (.int x3), none, none]) hE d_M_stand_9 rfl (Nat.le_of_ble_eq_true rfl) ⟨rfl, Nat.le_of_ble_eq_true rfl⟩ (lvp_i rfl) ?_
  refine g_aload_n (i := 0) hE d_M_stand_10 rfl rfl ?_
  refine g_iload_n (i := 1) hE d_M_stand_11 rfl rfl ?_
  obtain ⟨x5, e6, h⟩ := bd_s h
  refine g_callV (av := [.inr (.inr (some o)), .inl v1]) (as := [.inl v1]) (stk := [.int x5]) [] hE (c_M_isLoader (xl X) (xG X) e6) ky_M_isLoader ⟨Nat.le_of_ble_eq_true rfl, Nat.le_of_ble_eq_true rfl⟩ rfl kc_M k1 m_75 m_76 m_77 rfl d_M_stand_12 rfl rfl ct_0 (cnt_room0 hmc hc) (cnt_room0 hms hs) ?_
  refine gw.cs (c2 := 0) (s2 := 0) rfl rfl ?_
  refine g_if_eq hE d_M_stand_15 (fun c31 => ?_) (fun c31 => ?_)
  · replace h := if_t c31 h
    exact gw.less (lv' := [some (va_rf (some o)), none, none, none, none, none]) (And.intro rfl trivial) (w_M_standb2_J30 hE hX htr het hmc hms _ _ _ _ S d2 h hc hs)
  · replace h := if_f c31 h
    refine g_iload_n (i := 3) hE d_M_stand_18 rfl rfl ?_
    refine g_if_eq hE d_M_stand_19 (fun c30 => ?_) (fun c30 => ?_)
    · replace h := if_t c30 h
      exact gw.less (lv' := [some (va_rf (some o)), none, none, none, none, none]) (And.intro rfl trivial) (w_M_standb2_J30 hE hX htr het hmc hms _ _ _ _ S d2 h hc hs)
    · replace h := if_f c30 h
      refine g_aload_n (i := 0) hE d_M_stand_22 rfl rfl ?_
      refine g_iload_n (i := 3) hE d_M_stand_23 rfl rfl ?_
      obtain ⟨x7, e8, h⟩ := bd_s h
      refine g_callV (av := [.inr (.inr (some o)), .inl x3]) (as := [.inl x3]) (stk := [.int x7]) [] hE (c_M_areFaces (xl X) (xG X) e8) ky_M_areFaces ⟨Nat.le_of_ble_eq_true rfl, Nat.le_of_ble_eq_true rfl⟩ rfl kc_M k1 m_323 m_324 m_325 rfl d_M_stand_24 rfl rfl ct_0 (cnt_room0 hmc hc) (cnt_room0 hms hs) ?_
      refine gw.cs (c2 := 0) (s2 := 0) rfl rfl ?_
      refine g_if_ne hE d_M_stand_27 (fun c29 => ?_) (fun c29 => ?_)
      · replace h := if_f c29 h
        refine g_aload_n (i := 0) hE d_M_stand_40 rfl rfl ?_
        refine g_iload_n (i := 1) hE d_M_stand_41 rfl rfl ?_
        refine g_iload_n (i := 3) hE d_M_stand_42 rfl rfl ?_
        obtain ⟨x9, e10, h⟩ := bd_s h
        refine g_callV (av := [.inr (.inr (some o)), .inl v1, .inl x3]) (as := [.inl v1, .inl x3]) (stk := [.int x9]) [] hE (c_M_standMadeFor (xl X) (xG X) e10) ky_M_standMadeFor ⟨Nat.le_of_ble_eq_true rfl, Nat.le_of_ble_eq_true rfl⟩ rfl kc_M k1 m_326 m_327 m_328 rfl d_M_stand_43 rfl rfl ct_0 (cnt_room0 hmc hc) (cnt_room0 hms hs) ?_
        refine gw.cs (c2 := 0) (s2 := 0) rfl rfl ?_
        refine g_istore (i := 4) (lv' := [some (va_rf (some o)), some (.int v1), some (.int v2), some (.int x3), some (.int x9), none]) hE d_M_stand_46 (Nat.le_of_ble_eq_true rfl) ⟨rfl, Nat.le_of_ble_eq_true rfl⟩ (lvp_i rfl) ?_
        refine g_iload (i := 4) hE d_M_stand_48 rfl ?_
        refine g_iconst hE d_M_stand_50 ki_m1 ?_
        refine g_icmp_eq hE d_M_stand_51 (fun c28 => ?_) (fun c28 => ?_)
        · replace h := if_t c28 h
          refine g_aload_n (i := 0) hE d_M_stand_57 rfl rfl ?_
          refine g_aload_n (i := 0) hE d_M_stand_58 rfl rfl ?_
          refine g_iload_n (i := 1) hE d_M_stand_59 rfl rfl ?_
          refine g_iload_n (i := 3) hE d_M_stand_60 rfl rfl ?_
          obtain ⟨x11, e12, h⟩ := bd_s h
          refine g_callV (av := [.inr (.inr (some o)), .inl v1, .inl x3]) (as := [.inl v1, .inl x3]) (stk := [.int x11, va_rf (some o)]) [va_rf (some o)] hE (c_M_faultOfList (xl X) (xG X) e12) ky_M_faultOfList ⟨Nat.le_of_ble_eq_true rfl, Nat.le_of_ble_eq_true rfl⟩ rfl kc_M k1 m_329 m_330 m_331 rfl d_M_stand_61 rfl rfl (Nat.le_trans (ct_r ct_n) (Nat.le_of_ble_eq_true rfl)) (cnt_room0 hmc hc) (cnt_room0 hms hs) ?_
          refine gw.cs (c2 := 0) (s2 := 0) rfl rfl ?_
          refine g_putI 14 hE kc_M k1 (Nat.le_of_ble_eq_true rfl) rfl m_322 rfl (by decide +kernel) d_M_stand_64 (fun d13 e => ?_)
          replace h := lt_i e h; clear e
          refine g_aload_n (i := 0) hE d_M_stand_67 rfl rfl ?_
          refine g_getI 14 hE kc_M k1 (Nat.le_of_ble_eq_true rfl) rfl m_322 d_M_stand_68 (fun x14 e => ?_)
          replace h := lt_i e h; clear e
          refine g_if_ne hE d_M_stand_71 (fun c27 => ?_) (fun c27 => ?_)
          · replace h := if_f c27 h
            exact gw.less (lv' := [some (va_rf (some o)), some (.int v1), none, some (.int x3), none, none]) (And.intro rfl (And.intro rfl (And.intro rfl trivial))) (w_M_standb2_J87 hE hX htr het hmc hms _ _ _ _ S d13 v1 x3 h hc hs)
          · replace h := if_t c27 h
            refine g_aload_n (i := 0) hE d_M_stand_74 rfl rfl ?_
            refine g_iload_n (i := 3) hE d_M_stand_75 rfl rfl ?_
            obtain ⟨x15, S17, d18, n19, n20, dc0, ds0, e16, h, hc0, hs0⟩ := bdA_s h
            refine g_callV (av := [.inr (.inr (some o)), .inl x3]) (as := [.inl x3]) (stk := []) [] hE (c_M_fillDraft (xl X) (xG X) e16) ky_M_fillDraft ⟨Nat.le_of_ble_eq_true rfl, Nat.le_of_ble_eq_true rfl⟩ rfl kc_M k1 m_338 m_339 m_340 rfl d_M_stand_76 rfl rfl ct_0 (cnt_room hmc hc hc0) (cnt_room hms hs hs0) ?_
            refine gw.gen (fun c21 s22 ec es => ?_)
            replace hc := cnt_step hc hc0 ec; replace hs := cnt_step hs hs0 es; clear hc0 hs0 ec es
            refine g_aload_n (i := 0) hE d_M_stand_79 rfl rfl ?_
            refine g_aload_n (i := 0) hE d_M_stand_80 rfl rfl ?_
            obtain ⟨k23, h⟩ := kd_s h
            obtain ⟨x24, e25, h⟩ := bd_s h
            refine g_callV (av := [.inr (.inr (some o))]) (as := []) (stk := [.int x24, va_rf (some o)]) [va_rf (some o)] hE (c_M_faultOfDraft (xl X) (xG X) e25) ky_M_faultOfDraft ⟨Nat.le_of_ble_eq_true rfl, Nat.le_of_ble_eq_true rfl⟩ rfl kc_M k23 m_341 m_342 m_343 rfl d_M_stand_81 rfl rfl (Nat.le_trans (ct_r ct_n) (Nat.le_of_ble_eq_true rfl)) (cnt_room0 hmc hc) (cnt_room0 hms hs) ?_
            refine gw.cs (c2 := c21) (s2 := s22) rfl rfl ?_
            refine g_putI 14 hE kc_M k23 (Nat.le_of_ble_eq_true rfl) rfl m_322 rfl (by decide +kernel) d_M_stand_84 (fun d26 e => ?_)
            replace h := lt_i e h; clear e
            exact gw.less (lv' := [some (va_rf (some o)), some (.int v1), none, some (.int x3), none, none]) (And.intro rfl (And.intro rfl (And.intro rfl trivial))) (w_M_standb2_J87 hE hX htr het hmc hms _ _ _ _ S17 d26 v1 x3 h hc hs)
        · replace h := if_f c28 h
          refine g_iload (i := 4) hE d_M_stand_54 rfl ?_
          cases h
      · replace h := if_t c29 h
        exact gw.less (lv' := [some (va_rf (some o)), none, none, none, none, none]) (And.intro rfl trivial) (w_M_standb2_J30 hE hX htr het hmc hms _ _ _ _ S d2 h hc hs)
theorem d_M_fault_0 : dc b_M_fault 0 (.aload_n 0) 1 1 := ⟨by decide +kernel, rfl⟩
theorem d_M_fault_1 : dc b_M_fault 1 (.getfield 194) 3 4 := ⟨by decide +kernel, rfl⟩
theorem d_M_fault_4 : dc b_M_fault 4 (.ireturn) 1 5 := ⟨by decide +kernel, rfl⟩
set_option maxRecDepth 100000 in
def f_M_fault (S : gS) (d : gD) (o : Nat) : Option (Int32) :=
  kd S o 1 <|
  lt_ (dI d o 14) fun x2 =>
  some x2
set_option maxRecDepth 100000 in
set_option maxHeartbeats 4000000 in
theorem c_M_fault (l : Launch) (G : gG) {S : gS} {d : gD} {o : Nat} {r : Int32} (h : f_M_fault S d o = some r) : GM l G y_M_fault b_M_fault 1 (some (.int)) 0 0 0 0 [.inr (.inr (some o))] S d (some (.int r)) S d := by
  refine GM.of (by decide) (Nat.le_of_ble_eq_true rfl) ?_
  intro X hl0 hG0 hR0 hE0
  have hE : gE X b_M_fault 1 "StandInMill" (some (.int)) "fault" 0 0 := hE0
  unfold f_M_fault at h
  refine gw.less (lv' := [some (va_rf (some o))]) (And.intro rfl trivial) ?_
  refine g_aload_n (i := 0) hE d_M_fault_0 rfl rfl ?_
  obtain ⟨k1, h⟩ := kd_s h
  refine g_getI 14 hE kc_M k1 (Nat.le_of_ble_eq_true rfl) rfl m_322 d_M_fault_1 (fun x2 e => ?_)
  replace h := lt_i e h; clear e
  cases h
  exact g_iret hE d_M_fault_4 rfl rfl
