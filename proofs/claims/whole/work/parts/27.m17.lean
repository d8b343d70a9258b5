theorem d_M_about_0 : dc b_M_about 0 (.iload_n 1) 1 1 := ⟨by decide +kernel, rfl⟩
theorem d_M_about_1 : dc b_M_about 1 (.aload_n 0) 1 2 := ⟨by decide +kernel, rfl⟩
theorem d_M_about_2 : dc b_M_about 2 (.getfield 112) 3 5 := ⟨by decide +kernel, rfl⟩
theorem d_M_about_5 : dc b_M_about 5 (.invokestatic 94) 3 8 := ⟨by decide +kernel, rfl⟩
theorem d_M_about_8 : db b_M_about 8 (.ifCond .ne 5) 5 13 11 := ⟨by decide +kernel, by decide, rfl⟩
theorem d_M_about_11 : dc b_M_about 11 (.iconst (-1)) 1 12 := ⟨by decide +kernel, rfl⟩
theorem d_M_about_12 : dc b_M_about 12 (.ireturn) 1 13 := ⟨by decide +kernel, rfl⟩
theorem d_M_about_13 : dc b_M_about 13 (.aload_n 0) 1 14 := ⟨by decide +kernel, rfl⟩
theorem d_M_about_14 : dc b_M_about 14 (.getfield 41) 3 17 := ⟨by decide +kernel, rfl⟩
theorem d_M_about_17 : dc b_M_about 17 (.iload_n 1) 1 18 := ⟨by decide +kernel, rfl⟩
theorem d_M_about_18 : dc b_M_about 18 (.aaload) 1 19 := ⟨by decide +kernel, rfl⟩
theorem d_M_about_19 : dc b_M_about 19 (.astore_n 3) 1 20 := ⟨by decide +kernel, rfl⟩
theorem d_M_about_20 : dc b_M_about 20 (.iload_n 2) 1 21 := ⟨by decide +kernel, rfl⟩
theorem d_M_about_56 : dc b_M_about 56 (.aload_n 3) 1 57 := ⟨by decide +kernel, rfl⟩
theorem d_M_about_57 : dc b_M_about 57 (.getfield 238) 3 60 := ⟨by decide +kernel, rfl⟩
theorem d_M_about_60 : dc b_M_about 60 (.ireturn) 1 61 := ⟨by decide +kernel, rfl⟩
theorem d_M_about_61 : dc b_M_about 61 (.aload_n 3) 1 62 := ⟨by decide +kernel, rfl⟩
theorem d_M_about_62 : dc b_M_about 62 (.getfield 241) 3 65 := ⟨by decide +kernel, rfl⟩
theorem d_M_about_65 : dc b_M_about 65 (.ireturn) 1 66 := ⟨by decide +kernel, rfl⟩
theorem d_M_about_66 : dc b_M_about 66 (.aload_n 3) 1 67 := ⟨by decide +kernel, rfl⟩
theorem d_M_about_67 : dc b_M_about 67 (.getfield 244) 3 70 := ⟨by decide +kernel, rfl⟩
theorem d_M_about_70 : dc b_M_about 70 (.arraylength) 1 71 := ⟨by decide +kernel, rfl⟩
theorem d_M_about_71 : dc b_M_about 71 (.ireturn) 1 72 := ⟨by decide +kernel, rfl⟩
theorem d_M_about_72 : dc b_M_about 72 (.aload_n 3) 1 73 := ⟨by decide +kernel, rfl⟩
theorem d_M_about_73 : dc b_M_about 73 (.getfield 234) 3 76 := ⟨by decide +kernel, rfl⟩
theorem d_M_about_76 : dc b_M_about 76 (.arraylength) 1 77 := ⟨by decide +kernel, rfl⟩
theorem d_M_about_77 : dc b_M_about 77 (.ireturn) 1 78 := ⟨by decide +kernel, rfl⟩
theorem d_M_about_78 : dc b_M_about 78 (.aload_n 3) 1 79 := ⟨by decide +kernel, rfl⟩
theorem d_M_about_79 : dc b_M_about 79 (.getfield 248) 3 82 := ⟨by decide +kernel, rfl⟩
theorem d_M_about_82 : dc b_M_about 82 (.ireturn) 1 83 := ⟨by decide +kernel, rfl⟩
theorem d_M_about_83 : dc b_M_about 83 (.iconst (-1)) 1 84 := ⟨by decide +kernel, rfl⟩
theorem d_M_about_84 : dc b_M_about 84 (.ireturn) 1 85 := ⟨by decide +kernel, rfl⟩
theorem sd_M_about_21 : decode b_M_about 21 = .ok (.tableswitch 62 0 4 #[35, 40, 45, 51, 57], 35) := by decide +kernel
theorem s_M_about_21 {X : GX} {cells slots : Nat} {Q : State → Prop} {S : gS} {d : gD} {lv : List (Option Value)} {st : List Value} {x : Int32} (hE : gE X b_M_about 4 "StandInMill" (some (.int)) "about" 1 21) (k0 : x = 0 → gw X cells slots Q S d 56 lv st) (k1 : x = 1 → gw X cells slots Q S d 61 lv st) (k2 : x = 2 → gw X cells slots Q S d 66 lv st) (k3 : x = 3 → gw X cells slots Q S d 72 lv st) (k4 : x = 4 → gw X cells slots Q S d 78 lv st) (kd : ¬ x = 0 → ¬ x = 1 → ¬ x = 2 → ¬ x = 3 → ¬ x = 4 → gw X cells slots Q S d 83 lv st) : gw X cells slots Q S d 21 lv (.int x :: st) := by
  by_cases c0 : x = 0
  · exact g_tin hE sd_M_about_21 (c := 0) c0 (by decide) (by decide) rfl (by decide) (k0 c0)
  · by_cases c1 : x = 1
    · exact g_tin hE sd_M_about_21 (c := 1) c1 (by decide) (by decide) rfl (by decide) (k1 c1)
    · by_cases c2 : x = 2
      · exact g_tin hE sd_M_about_21 (c := 2) c2 (by decide) (by decide) rfl (by decide) (k2 c2)
      · by_cases c3 : x = 3
        · exact g_tin hE sd_M_about_21 (c := 3) c3 (by decide) (by decide) rfl (by decide) (k3 c3)
        · by_cases c4 : x = 4
          · exact g_tin hE sd_M_about_21 (c := 4) c4 (by decide) (by decide) rfl (by decide) (k4 c4)
          · exact g_tout hE sd_M_about_21 (by have h0 := lv_neT c0 (a := 0) (by decide); have h1 := lv_neT c1 (a := 1) (by decide); have h2 := lv_neT c2 (a := 2) (by decide); have h3 := lv_neT c3 (a := 3) (by decide); have h4 := lv_neT c4 (a := 4) (by decide); omega) (by decide) (kd c0 c1 c2 c3 c4)
set_option maxRecDepth 100000 in
def f_M_about (S : gS) (d : gD) (o : Nat) (v1 : Int32) (v2 : Int32) : Option (Int32) :=
  kd S o 1 <|
  lt_ (dI d o 10) fun x2 =>
  bd (f_M_isWithin S d v1 x2) fun x3 =>
  if x3 = 0 then (
    some (-1))
  else (
    lt_ (sP S o 9) fun x5 =>
    nn x5 fun a6 =>
    kd S a6 62 <|
    gi v1 (sN S a6) <|
    lt_ (sP S a6 v1.toNatClampNeg) fun x9 =>
    if v2 = 0 then (
      nn x9 fun a11 =>
      kd S a11 6 <|
      lt_ (dI d a11 2) fun x13 =>
      some x13)
    else (
      if v2 = 1 then (
        nn x9 fun a14 =>
        kd S a14 6 <|
        lt_ (dI d a14 3) fun x16 =>
        some x16)
      else (
        if v2 = 2 then (
          nn x9 fun a17 =>
          kd S a17 6 <|
          lt_ (sP S a17 4) fun x19 =>
          nn x19 fun a20 =>
          kd S a20 63 <|
          some (Int32.ofNat (sN S a20)))
        else (
          if v2 = 3 then (
            nn x9 fun a22 =>
            kd S a22 6 <|
            lt_ (sP S a22 5) fun x24 =>
            nn x24 fun a25 =>
            kd S a25 52 <|
            some (Int32.ofNat (sN S a25)))
          else (
            if v2 = 4 then (
              nn x9 fun a27 =>
              kd S a27 6 <|
              lt_ (dI d a27 0) fun x29 =>
              some x29)
            else (
              some (-1)))))))
set_option maxRecDepth 100000 in
set_option maxHeartbeats 4000000 in
theorem c_M_about (l : Launch) (G : gG) {S : gS} {d : gD} {o : Nat} {v1 : Int32} {v2 : Int32} {r : Int32} (h : f_M_about S d o v1 v2 = some r) : GM l G y_M_about b_M_about 4 (some (.int)) 1 21 0 0 [.inr (.inr (some o)), .inl v1, .inl v2] S d (some (.int r)) S d := by
  refine GM.of (by decide) (Nat.le_of_ble_eq_true rfl) ?_
  intro X hl0 hG0 hR0 hE0
  have hE : gE X b_M_about 4 "StandInMill" (some (.int)) "about" 1 21 := hE0
  unfold f_M_about at h
  refine gw.less (lv' := [some (va_rf (some o)), some (.int v1), some (.int v2), none]) (And.intro rfl (And.intro rfl (And.intro rfl trivial))) ?_
  refine g_iload_n (i := 1) hE d_M_about_0 rfl rfl ?_
  refine g_aload_n (i := 0) hE d_M_about_1 rfl rfl ?_
  obtain ⟨k1, h⟩ := kd_s h
  refine g_getI 10 hE kc_M k1 (Nat.le_of_ble_eq_true rfl) rfl m_111 d_M_about_2 (fun x2 e => ?_)
  replace h := lt_i e h; clear e
  obtain ⟨x3, e4, h⟩ := bd_s h
  refine g_callS (av := [.inl v1, .inl x2]) (stk := [.int x3]) [] hE (c_M_isWithin (xl X) (xG X) e4) ky_M_isWithin ⟨Nat.le_of_ble_eq_true rfl, Nat.le_of_ble_eq_true rfl⟩ m_73 m_74 rfl d_M_about_5 rfl rfl ct_0 (Nat.zero_le _) (Nat.zero_le _) ?_
  refine gw.cs (c2 := 0) (s2 := 0) rfl rfl ?_
  refine g_if_ne hE d_M_about_8 (fun c30 => ?_) (fun c30 => ?_)
  · replace h := if_f c30 h
    refine g_aload_n (i := 0) hE d_M_about_13 rfl rfl ?_
    refine g_getR 9 hE kc_M k1 (Nat.le_of_ble_eq_true rfl) rfl m_50 d_M_about_14 (fun x5 e => ?_)
    replace h := lt_i e h; clear e
    refine g_iload_n (i := 1) hE d_M_about_17 rfl rfl ?_
    obtain ⟨a6, rfl, h⟩ := nn_s h
    obtain ⟨k7, h⟩ := kd_s h
    obtain ⟨g8, h⟩ := gi_s h
    refine g_aald hE k7 (by decide) rfl (fun _ => rfl) g8 d_M_about_18 (fun x9 e => ?_)
    replace h := lt_i e h; clear e
    refine g_astore_n (i := 3) (lv' := [some (va_rf (some o)), some (.int v1), some (.int v2), some (va_rf x9)]) hE d_M_about_19 rfl (Nat.le_of_ble_eq_true rfl) ⟨rfl, Nat.le_of_ble_eq_true rfl⟩ (lvp_i rfl) ?_
    refine g_iload_n (i := 2) hE d_M_about_20 rfl rfl ?_
    refine s_M_about_21 hE (fun c10 => ?_) (fun c10 => ?_) (fun c10 => ?_) (fun c10 => ?_) (fun c10 => ?_) (fun c10_0 c10_1 c10_2 c10_3 c10_4 => ?_)
    · replace h := if_t c10 h
      refine g_aload_n (i := 3) hE d_M_about_56 rfl rfl ?_
      obtain ⟨a11, rfl, h⟩ := nn_s h
      obtain ⟨k12, h⟩ := kd_s h
      refine g_getIN 2 hE kc_Si k12 (Nat.le_of_ble_eq_true rfl) rfl nf_25 d_M_about_57 (fun x13 e => ?_)
      replace h := lt_i e h; clear e
      cases h
      exact g_iret hE d_M_about_60 rfl rfl
    · replace h := if_f (by rw [c10]; decide) h
      replace h := if_t c10 h
      refine g_aload_n (i := 3) hE d_M_about_61 rfl rfl ?_
      obtain ⟨a14, rfl, h⟩ := nn_s h
      obtain ⟨k15, h⟩ := kd_s h
      refine g_getIN 3 hE kc_Si k15 (Nat.le_of_ble_eq_true rfl) rfl nf_43 d_M_about_62 (fun x16 e => ?_)
      replace h := lt_i e h; clear e
      cases h
      exact g_iret hE d_M_about_65 rfl rfl
    · replace h := if_f (by rw [c10]; decide) h; replace h := if_f (by rw [c10]; decide) h
      replace h := if_t c10 h
      refine g_aload_n (i := 3) hE d_M_about_66 rfl rfl ?_
      obtain ⟨a17, rfl, h⟩ := nn_s h
      obtain ⟨k18, h⟩ := kd_s h
      refine g_getRN 4 hE kc_Si k18 (Nat.le_of_ble_eq_true rfl) rfl nf_28 d_M_about_67 (fun x19 e => ?_)
      replace h := lt_i e h; clear e
      obtain ⟨a20, rfl, h⟩ := nn_s h
      obtain ⟨k21, h⟩ := kd_s h
      refine g_alen hE k21 (by decide) d_M_about_70 ?_
      cases h
      exact g_iret hE d_M_about_71 rfl rfl
    · replace h := if_f (by rw [c10]; decide) h; replace h := if_f (by rw [c10]; decide) h; replace h := if_f (by rw [c10]; decide) h
      replace h := if_t c10 h
      refine g_aload_n (i := 3) hE d_M_about_72 rfl rfl ?_
      obtain ⟨a22, rfl, h⟩ := nn_s h
      obtain ⟨k23, h⟩ := kd_s h
      refine g_getRN 5 hE kc_Si k23 (Nat.le_of_ble_eq_true rfl) rfl nf_42 d_M_about_73 (fun x24 e => ?_)
      replace h := lt_i e h; clear e
      obtain ⟨a25, rfl, h⟩ := nn_s h
      obtain ⟨k26, h⟩ := kd_s h
      refine g_alen hE k26 (by decide) d_M_about_76 ?_
      cases h
      exact g_iret hE d_M_about_77 rfl rfl
    · replace h := if_f (by rw [c10]; decide) h; replace h := if_f (by rw [c10]; decide) h; replace h := if_f (by rw [c10]; decide) h; replace h := if_f (by rw [c10]; decide) h
      replace h := if_t c10 h
      refine g_aload_n (i := 3) hE d_M_about_78 rfl rfl ?_
      obtain ⟨a27, rfl, h⟩ := nn_s h
      obtain ⟨k28, h⟩ := kd_s h
      refine g_getIN 0 hE kc_Si k28 (Nat.le_of_ble_eq_true rfl) rfl nf_10 d_M_about_79 (fun x29 e => ?_)
      replace h := lt_i e h; clear e
      cases h
      exact g_iret hE d_M_about_82 rfl rfl
    · replace h := if_f c10_0 h; replace h := if_f c10_1 h; replace h := if_f c10_2 h; replace h := if_f c10_3 h; replace h := if_f c10_4 h
      refine g_iconst hE d_M_about_83 ki_m1 ?_
      cases h
      exact g_iret hE d_M_about_84 rfl rfl
  · replace h := if_t c30 h
    refine g_iconst hE d_M_about_11 ki_m1 ?_
    cases h
    exact g_iret hE d_M_about_12 rfl rfl
theorem d_M_hasMethod_0 : dc b_M_hasMethod 0 (.iload_n 1) 1 1 := ⟨by decide +kernel, rfl⟩
theorem d_M_hasMethod_1 : dc b_M_hasMethod 1 (.aload_n 0) 1 2 := ⟨by decide +kernel, rfl⟩
theorem d_M_hasMethod_2 : dc b_M_hasMethod 2 (.getfield 112) 3 5 := ⟨by decide +kernel, rfl⟩
theorem d_M_hasMethod_5 : dc b_M_hasMethod 5 (.invokestatic 94) 3 8 := ⟨by decide +kernel, rfl⟩
theorem d_M_hasMethod_8 : db b_M_hasMethod 8 (.ifCond .eq 24) 24 32 11 := ⟨by decide +kernel, by decide, rfl⟩
theorem d_M_hasMethod_11 : dc b_M_hasMethod 11 (.iload_n 2) 1 12 := ⟨by decide +kernel, rfl⟩
theorem d_M_hasMethod_12 : dc b_M_hasMethod 12 (.aload_n 0) 1 13 := ⟨by decide +kernel, rfl⟩
theorem d_M_hasMethod_13 : dc b_M_hasMethod 13 (.getfield 41) 3 16 := ⟨by decide +kernel, rfl⟩
theorem d_M_hasMethod_16 : dc b_M_hasMethod 16 (.iload_n 1) 1 17 := ⟨by decide +kernel, rfl⟩
theorem d_M_hasMethod_17 : dc b_M_hasMethod 17 (.aaload) 1 18 := ⟨by decide +kernel, rfl⟩
theorem d_M_hasMethod_18 : dc b_M_hasMethod 18 (.getfield 244) 3 21 := ⟨by decide +kernel, rfl⟩
theorem d_M_hasMethod_21 : dc b_M_hasMethod 21 (.arraylength) 1 22 := ⟨by decide +kernel, rfl⟩
theorem d_M_hasMethod_22 : dc b_M_hasMethod 22 (.invokestatic 94) 3 25 := ⟨by decide +kernel, rfl⟩
theorem d_M_hasMethod_25 : db b_M_hasMethod 25 (.ifCond .eq 7) 7 32 28 := ⟨by decide +kernel, by decide, rfl⟩
theorem d_M_hasMethod_28 : dc b_M_hasMethod 28 (.iconst 1) 1 29 := ⟨by decide +kernel, rfl⟩
theorem d_M_hasMethod_29 : db b_M_hasMethod 29 (.goto 4) 4 33 32 := ⟨by decide +kernel, by decide, rfl⟩
theorem d_M_hasMethod_32 : dc b_M_hasMethod 32 (.iconst 0) 1 33 := ⟨by decide +kernel, rfl⟩
theorem d_M_hasMethod_33 : dc b_M_hasMethod 33 (.ireturn) 1 34 := ⟨by decide +kernel, rfl⟩
set_option maxRecDepth 100000 in
def f_M_hasMethod (S : gS) (d : gD) (o : Nat) (v1 : Int32) (v2 : Int32) : Option (Int32) :=
  kd S o 1 <|
  lt_ (dI d o 10) fun x2 =>
  bd (f_M_isWithin S d v1 x2) fun x3 =>
  if x3 = 0 then (
    some 0)
  else (
    lt_ (sP S o 9) fun x5 =>
    nn x5 fun a6 =>
    kd S a6 62 <|
    gi v1 (sN S a6) <|
    lt_ (sP S a6 v1.toNatClampNeg) fun x9 =>
    nn x9 fun a10 =>
    kd S a10 6 <|
    lt_ (sP S a10 4) fun x12 =>
    nn x12 fun a13 =>
    kd S a13 63 <|
    bd (f_M_isWithin S d v2 (Int32.ofNat (sN S a13))) fun x15 =>
    if x15 = 0 then (
      some 0)
    else (
      some 1))
set_option maxRecDepth 100000 in
set_option maxHeartbeats 4000000 in
theorem c_M_hasMethod (l : Launch) (G : gG) {S : gS} {d : gD} {o : Nat} {v1 : Int32} {v2 : Int32} {r : Int32} (h : f_M_hasMethod S d o v1 v2 = some r) : GM l G y_M_hasMethod b_M_hasMethod 3 (some (.boolean)) 1 21 0 0 [.inr (.inr (some o)), .inl v1, .inl v2] S d (some (.int r)) S d := by
  refine GM.of (by decide) (Nat.le_of_ble_eq_true rfl) ?_
  intro X hl0 hG0 hR0 hE0
  have hE : gE X b_M_hasMethod 3 "StandInMill" (some (.boolean)) "hasMethod" 1 21 := hE0
  unfold f_M_hasMethod at h
  refine gw.less (lv' := [some (va_rf (some o)), some (.int v1), some (.int v2)]) (And.intro rfl (And.intro rfl (And.intro rfl trivial))) ?_
  refine g_iload_n (i := 1) hE d_M_hasMethod_0 rfl rfl ?_
  refine g_aload_n (i := 0) hE d_M_hasMethod_1 rfl rfl ?_
  obtain ⟨k1, h⟩ := kd_s h
  refine g_getI 10 hE kc_M k1 (Nat.le_of_ble_eq_true rfl) rfl m_111 d_M_hasMethod_2 (fun x2 e => ?_)
  replace h := lt_i e h; clear e
  obtain ⟨x3, e4, h⟩ := bd_s h
  refine g_callS (av := [.inl v1, .inl x2]) (stk := [.int x3]) [] hE (c_M_isWithin (xl X) (xG X) e4) ky_M_isWithin ⟨Nat.le_of_ble_eq_true rfl, Nat.le_of_ble_eq_true rfl⟩ m_73 m_74 rfl d_M_hasMethod_5 rfl rfl ct_0 (Nat.zero_le _) (Nat.zero_le _) ?_
  refine gw.cs (c2 := 0) (s2 := 0) rfl rfl ?_
  refine g_if_eq hE d_M_hasMethod_8 (fun c18 => ?_) (fun c18 => ?_)
  · replace h := if_t c18 h
    refine g_iconst hE d_M_hasMethod_32 ki_0 ?_
    cases h
    exact g_zret hE (Or.inl rfl) d_M_hasMethod_33 rfl rfl
  · replace h := if_f c18 h
    refine g_iload_n (i := 2) hE d_M_hasMethod_11 rfl rfl ?_
    refine g_aload_n (i := 0) hE d_M_hasMethod_12 rfl rfl ?_
    refine g_getR 9 hE kc_M k1 (Nat.le_of_ble_eq_true rfl) rfl m_50 d_M_hasMethod_13 (fun x5 e => ?_)
    replace h := lt_i e h; clear e
    refine g_iload_n (i := 1) hE d_M_hasMethod_16 rfl rfl ?_
    obtain ⟨a6, rfl, h⟩ := nn_s h
    obtain ⟨k7, h⟩ := kd_s h
    obtain ⟨g8, h⟩ := gi_s h
    refine g_aald hE k7 (by decide) rfl (fun _ => rfl) g8 d_M_hasMethod_17 (fun x9 e => ?_)
    replace h := lt_i e h; clear e
    obtain ⟨a10, rfl, h⟩ := nn_s h
    obtain ⟨k11, h⟩ := kd_s h
    refine g_getRN 4 hE kc_Si k11 (Nat.le_of_ble_eq_true rfl) rfl nf_28 d_M_hasMethod_18 (fun x12 e => ?_)
    replace h := lt_i e h; clear e
    obtain ⟨a13, rfl, h⟩ := nn_s h
    obtain ⟨k14, h⟩ := kd_s h
    refine g_alen hE k14 (by decide) d_M_hasMethod_21 ?_
    obtain ⟨x15, e16, h⟩ := bd_s h
    refine g_callS (av := [.inl v2, .inl (Int32.ofNat (sN S a13))]) (stk := [.int x15]) [] hE (c_M_isWithin (xl X) (xG X) e16) ky_M_isWithin ⟨Nat.le_of_ble_eq_true rfl, Nat.le_of_ble_eq_true rfl⟩ m_73 m_74 rfl d_M_hasMethod_22 rfl rfl ct_0 (Nat.zero_le _) (Nat.zero_le _) ?_
    refine gw.cs (c2 := 0) (s2 := 0) rfl rfl ?_
    refine g_if_eq hE d_M_hasMethod_25 (fun c17 => ?_) (fun c17 => ?_)
    · replace h := if_t c17 h
      refine g_iconst hE d_M_hasMethod_32 ki_0 ?_
      cases h
      exact g_zret hE (Or.inl rfl) d_M_hasMethod_33 rfl rfl
    · replace h := if_f c17 h
      refine g_iconst hE d_M_hasMethod_28 ki_1 ?_
      refine g_goto hE d_M_hasMethod_29 ?_
      cases h
      exact g_zret hE (Or.inr rfl) d_M_hasMethod_33 rfl rfl
theorem d_M_told_0 : dc b_M_told 0 (.aload_n 0) 1 1 := ⟨by decide +kernel, rfl⟩
theorem d_M_told_1 : dc b_M_told 1 (.iload_n 1) 1 2 := ⟨by decide +kernel, rfl⟩
theorem d_M_told_2 : dc b_M_told 2 (.iload_n 2) 1 3 := ⟨by decide +kernel, rfl⟩
theorem d_M_told_3 : dc b_M_told 3 (.invokevirtual 249) 3 6 := ⟨by decide +kernel, rfl⟩
theorem d_M_told_6 : db b_M_told 6 (.ifCond .ne 5) 5 11 9 := ⟨by decide +kernel, by decide, rfl⟩
theorem d_M_told_9 : dc b_M_told 9 (.iconst (-1)) 1 10 := ⟨by decide +kernel, rfl⟩
theorem d_M_told_10 : dc b_M_told 10 (.ireturn) 1 11 := ⟨by decide +kernel, rfl⟩
theorem d_M_told_11 : dc b_M_told 11 (.aload_n 0) 1 12 := ⟨by decide +kernel, rfl⟩
theorem d_M_told_12 : dc b_M_told 12 (.getfield 41) 3 15 := ⟨by decide +kernel, rfl⟩
theorem d_M_told_15 : dc b_M_told 15 (.iload_n 1) 1 16 := ⟨by decide +kernel, rfl⟩
theorem d_M_told_16 : dc b_M_told 16 (.aaload) 1 17 := ⟨by decide +kernel, rfl⟩
theorem d_M_told_17 : dc b_M_told 17 (.getfield 244) 3 20 := ⟨by decide +kernel, rfl⟩
theorem d_M_told_20 : dc b_M_told 20 (.iload_n 2) 1 21 := ⟨by decide +kernel, rfl⟩
theorem d_M_told_21 : dc b_M_told 21 (.aaload) 1 22 := ⟨by decide +kernel, rfl⟩
theorem d_M_told_22 : dc b_M_told 22 (.astore 4) 2 24 := ⟨by decide +kernel, rfl⟩
theorem d_M_told_24 : dc b_M_told 24 (.aload 4) 2 26 := ⟨by decide +kernel, rfl⟩
theorem d_M_told_26 : dc b_M_told 26 (.getfield 252) 3 29 := ⟨by decide +kernel, rfl⟩
theorem d_M_told_29 : dc b_M_told 29 (.astore 5) 2 31 := ⟨by decide +kernel, rfl⟩
theorem d_M_told_31 : dc b_M_told 31 (.iload_n 3) 1 32 := ⟨by decide +kernel, rfl⟩
theorem d_M_told_32 : dc b_M_told 32 (.bipush 32) 2 34 := ⟨by decide +kernel, rfl⟩
theorem d_M_told_34 : db b_M_told 34 (.if_icmp .lt 22) 22 56 37 := ⟨by decide +kernel, by decide, rfl⟩
theorem d_M_told_37 : dc b_M_told 37 (.iload_n 3) 1 38 := ⟨by decide +kernel, rfl⟩
theorem d_M_told_38 : dc b_M_told 38 (.bipush 47) 2 40 := ⟨by decide +kernel, rfl⟩
theorem d_M_told_40 : db b_M_told 40 (.if_icmp .gt 16) 16 56 43 := ⟨by decide +kernel, by decide, rfl⟩
theorem d_M_told_43 : dc b_M_told 43 (.aload 4) 2 45 := ⟨by decide +kernel, rfl⟩
theorem d_M_told_45 : dc b_M_told 45 (.getfield 258) 3 48 := ⟨by decide +kernel, rfl⟩
theorem d_M_told_48 : dc b_M_told 48 (.iload_n 3) 1 49 := ⟨by decide +kernel, rfl⟩
theorem d_M_told_49 : dc b_M_told 49 (.bipush 32) 2 51 := ⟨by decide +kernel, rfl⟩
theorem d_M_told_51 : dc b_M_told 51 (.isub) 1 52 := ⟨by decide +kernel, rfl⟩
theorem d_M_told_52 : dc b_M_told 52 (.invokevirtual 261) 3 55 := ⟨by decide +kernel, rfl⟩
theorem d_M_told_55 : dc b_M_told 55 (.ireturn) 1 56 := ⟨by decide +kernel, rfl⟩
theorem d_M_told_56 : dc b_M_told 56 (.iload_n 3) 1 57 := ⟨by decide +kernel, rfl⟩
theorem d_M_told_57 : dc b_M_told 57 (.bipush 16) 2 59 := ⟨by decide +kernel, rfl⟩
theorem d_M_told_59 : db b_M_told 59 (.if_icmp .lt 22) 22 81 62 := ⟨by decide +kernel, by decide, rfl⟩
theorem d_M_told_62 : dc b_M_told 62 (.iload_n 3) 1 63 := ⟨by decide +kernel, rfl⟩
theorem d_M_told_63 : dc b_M_told 63 (.bipush 31) 2 65 := ⟨by decide +kernel, rfl⟩
theorem d_M_told_65 : db b_M_told 65 (.if_icmp .gt 16) 16 81 68 := ⟨by decide +kernel, by decide, rfl⟩
theorem d_M_told_68 : dc b_M_told 68 (.aload 4) 2 70 := ⟨by decide +kernel, rfl⟩
theorem d_M_told_70 : dc b_M_told 70 (.getfield 264) 3 73 := ⟨by decide +kernel, rfl⟩
theorem d_M_told_73 : dc b_M_told 73 (.iload_n 3) 1 74 := ⟨by decide +kernel, rfl⟩
theorem d_M_told_74 : dc b_M_told 74 (.bipush 16) 2 76 := ⟨by decide +kernel, rfl⟩
theorem d_M_told_76 : dc b_M_told 76 (.isub) 1 77 := ⟨by decide +kernel, rfl⟩
theorem d_M_told_77 : dc b_M_told 77 (.invokevirtual 261) 3 80 := ⟨by decide +kernel, rfl⟩
theorem d_M_told_80 : dc b_M_told 80 (.ireturn) 1 81 := ⟨by decide +kernel, rfl⟩
theorem d_M_told_81 : dc b_M_told 81 (.iload_n 3) 1 82 := ⟨by decide +kernel, rfl⟩
theorem d_M_told_124 : dc b_M_told 124 (.aload 5) 2 126 := ⟨by decide +kernel, rfl⟩
theorem d_M_told_126 : dc b_M_told 126 (.getfield 265) 3 129 := ⟨by decide +kernel, rfl⟩
theorem d_M_told_129 : dc b_M_told 129 (.ireturn) 1 130 := ⟨by decide +kernel, rfl⟩
theorem d_M_told_130 : dc b_M_told 130 (.aload 5) 2 132 := ⟨by decide +kernel, rfl⟩
theorem d_M_told_132 : dc b_M_told 132 (.getfield 268) 3 135 := ⟨by decide +kernel, rfl⟩
theorem d_M_told_135 : dc b_M_told 135 (.ireturn) 1 136 := ⟨by decide +kernel, rfl⟩
theorem d_M_told_136 : dc b_M_told 136 (.aload 5) 2 138 := ⟨by decide +kernel, rfl⟩
theorem d_M_told_138 : dc b_M_told 138 (.getfield 271) 3 141 := ⟨by decide +kernel, rfl⟩
theorem d_M_told_141 : dc b_M_told 141 (.iload_n 3) 1 142 := ⟨by decide +kernel, rfl⟩
theorem d_M_told_142 : dc b_M_told 142 (.iconst 2) 1 143 := ⟨by decide +kernel, rfl⟩
theorem d_M_told_143 : dc b_M_told 143 (.isub) 1 144 := ⟨by decide +kernel, rfl⟩
theorem d_M_told_144 : dc b_M_told 144 (.invokestatic 274) 3 147 := ⟨by decide +kernel, rfl⟩
theorem d_M_told_147 : dc b_M_told 147 (.ireturn) 1 148 := ⟨by decide +kernel, rfl⟩
theorem d_M_told_148 : dc b_M_told 148 (.aload 5) 2 150 := ⟨by decide +kernel, rfl⟩
theorem d_M_told_150 : dc b_M_told 150 (.getfield 277) 3 153 := ⟨by decide +kernel, rfl⟩
theorem d_M_told_153 : dc b_M_told 153 (.ireturn) 1 154 := ⟨by decide +kernel, rfl⟩
theorem d_M_told_154 : dc b_M_told 154 (.aload 5) 2 156 := ⟨by decide +kernel, rfl⟩
theorem d_M_told_156 : dc b_M_told 156 (.getfield 280) 3 159 := ⟨by decide +kernel, rfl⟩
theorem d_M_told_159 : dc b_M_told 159 (.ireturn) 1 160 := ⟨by decide +kernel, rfl⟩
theorem d_M_told_160 : dc b_M_told 160 (.iconst (-1)) 1 161 := ⟨by decide +kernel, rfl⟩
theorem d_M_told_161 : dc b_M_told 161 (.ireturn) 1 162 := ⟨by decide +kernel, rfl⟩
theorem sd_M_told_82 : decode b_M_told 82 = .ok (.tableswitch 78 0 6 #[42, 48, 54, 54, 54, 66, 72], 42) := by decide +kernel
theorem s_M_told_82 {X : GX} {cells slots : Nat} {Q : State → Prop} {S : gS} {d : gD} {lv : List (Option Value)} {st : List Value} {x : Int32} (hE : gE X b_M_told 6 "StandInMill" (some (.int)) "told" 2 43) (k0 : x = 0 → gw X cells slots Q S d 124 lv st) (k1 : x = 1 → gw X cells slots Q S d 130 lv st) (k2 : x = 2 → gw X cells slots Q S d 136 lv st) (k3 : x = 3 → gw X cells slots Q S d 136 lv st) (k4 : x = 4 → gw X cells slots Q S d 136 lv st) (k5 : x = 5 → gw X cells slots Q S d 148 lv st) (k6 : x = 6 → gw X cells slots Q S d 154 lv st) (kd : ¬ x = 0 → ¬ x = 1 → ¬ x = 2 → ¬ x = 3 → ¬ x = 4 → ¬ x = 5 → ¬ x = 6 → gw X cells slots Q S d 160 lv st) : gw X cells slots Q S d 82 lv (.int x :: st) := by
  by_cases c0 : x = 0
  · exact g_tin hE sd_M_told_82 (c := 0) c0 (by decide) (by decide) rfl (by decide) (k0 c0)
  · by_cases c1 : x = 1
    · exact g_tin hE sd_M_told_82 (c := 1) c1 (by decide) (by decide) rfl (by decide) (k1 c1)
    · by_cases c2 : x = 2
      · exact g_tin hE sd_M_told_82 (c := 2) c2 (by decide) (by decide) rfl (by decide) (k2 c2)
      · by_cases c3 : x = 3
        · exact g_tin hE sd_M_told_82 (c := 3) c3 (by decide) (by decide) rfl (by decide) (k3 c3)
        · by_cases c4 : x = 4
          · exact g_tin hE sd_M_told_82 (c := 4) c4 (by decide) (by decide) rfl (by decide) (k4 c4)
          · by_cases c5 : x = 5
            · exact g_tin hE sd_M_told_82 (c := 5) c5 (by decide) (by decide) rfl (by decide) (k5 c5)
            · by_cases c6 : x = 6
              · exact g_tin hE sd_M_told_82 (c := 6) c6 (by decide) (by decide) rfl (by decide) (k6 c6)
              · exact g_tout hE sd_M_told_82 (by have h0 := lv_neT c0 (a := 0) (by decide); have h1 := lv_neT c1 (a := 1) (by decide); have h2 := lv_neT c2 (a := 2) (by decide); have h3 := lv_neT c3 (a := 3) (by decide); have h4 := lv_neT c4 (a := 4) (by decide); have h5 := lv_neT c5 (a := 5) (by decide); have h6 := lv_neT c6 (a := 6) (by decide); omega) (by decide) (kd c0 c1 c2 c3 c4 c5 c6)
def f_M_told_J136 (S : gS) (d : gD) (o : Nat) (v3 : Int32) (v5 : Option Nat) : Option (Int32) :=
  nn v5 fun a1 =>
  kd S a1 5 <|
  lt_ (dI d a1 3) fun x3 =>
  bd (f_M_byteOf S d x3 (v3 - 2)) fun x4 =>
  some x4
set_option maxRecDepth 100000 in
set_option maxHeartbeats 4000000 in
theorem w_M_told_J136 {X : GX} (hE : gE X b_M_told 6 "StandInMill" (some (.int)) "told" 2 43) {S : gS} {d : gD} {o : Nat} {r : Int32} :
    ∀ (v3 : Int32) (v5 : Option Nat), f_M_told_J136 S d o v3 v5 = some r → gw X 0 0 (gQ X (some (.int r)) S d 0 0) S d 136 [some (va_rf (some o)), none, none, some (.int v3), none, some (va_rf v5)] [] := by
  intro v3 v5 h
  unfold f_M_told_J136 at h
  refine g_aload (i := 5) hE d_M_told_136 rfl ?_
  obtain ⟨a1, rfl, h⟩ := nn_s h
  obtain ⟨k2, h⟩ := kd_s h
  refine g_getIN 3 hE kc_Om k2 (Nat.le_of_ble_eq_true rfl) rfl nf_47 d_M_told_138 (fun x3 e => ?_)
  replace h := lt_i e h; clear e
  refine g_iload_n (i := 3) hE d_M_told_141 rfl rfl ?_
  refine g_iconst hE d_M_told_142 ki_2 ?_
  refine g_isub hE d_M_told_143 ?_
  obtain ⟨x4, e5, h⟩ := bd_s h
  refine g_callS (av := [.inl x3, .inl (v3 - 2)]) (stk := [.int x4]) [] hE (c_M_byteOf (xl X) (xG X) e5) ky_M_byteOf ⟨Nat.le_of_ble_eq_true rfl, Nat.le_of_ble_eq_true rfl⟩ m_128 m_129 rfl d_M_told_144 rfl rfl ct_0 (Nat.zero_le _) (Nat.zero_le _) ?_
  refine gw.cs (c2 := 0) (s2 := 0) rfl rfl ?_
  cases h
  exact g_iret hE d_M_told_147 rfl rfl
def f_M_told_J81 (S : gS) (d : gD) (o : Nat) (v3 : Int32) (v5 : Option Nat) : Option (Int32) :=
  if v3 = 0 then (
    nn v5 fun a2 =>
    kd S a2 5 <|
    lt_ (dI d a2 2) fun x4 =>
    some x4)
  else (
    if v3 = 1 then (
      nn v5 fun a5 =>
      kd S a5 5 <|
      lt_ (dI d a5 4) fun x7 =>
      some x7)
    else (
      if v3 = 2 then (
        f_M_told_J136 S d o v3 v5)
      else (
        if v3 = 3 then (
          f_M_told_J136 S d o v3 v5)
        else (
          if v3 = 4 then (
            f_M_told_J136 S d o v3 v5)
          else (
            if v3 = 5 then (
              nn v5 fun a8 =>
              kd S a8 5 <|
              lt_ (dI d a8 0) fun x10 =>
              some x10)
            else (
              if v3 = 6 then (
                nn v5 fun a11 =>
                kd S a11 5 <|
                lt_ (dI d a11 1) fun x13 =>
                some x13)
              else (
                some (-1))))))))
set_option maxRecDepth 100000 in
set_option maxHeartbeats 4000000 in
theorem w_M_told_J81 {X : GX} (hE : gE X b_M_told 6 "StandInMill" (some (.int)) "told" 2 43) {S : gS} {d : gD} {o : Nat} {r : Int32} :
    ∀ (v3 : Int32) (v5 : Option Nat), f_M_told_J81 S d o v3 v5 = some r → gw X 0 0 (gQ X (some (.int r)) S d 0 0) S d 81 [some (va_rf (some o)), none, none, some (.int v3), none, some (va_rf v5)] [] := by
  intro v3 v5 h
  unfold f_M_told_J81 at h
  refine g_iload_n (i := 3) hE d_M_told_81 rfl rfl ?_
  refine s_M_told_82 hE (fun c1 => ?_) (fun c1 => ?_) (fun c1 => ?_) (fun c1 => ?_) (fun c1 => ?_) (fun c1 => ?_) (fun c1 => ?_) (fun c1_0 c1_1 c1_2 c1_3 c1_4 c1_5 c1_6 => ?_)
  · replace h := if_t c1 h
    refine g_aload (i := 5) hE d_M_told_124 rfl ?_
    obtain ⟨a2, rfl, h⟩ := nn_s h
    obtain ⟨k3, h⟩ := kd_s h
    refine g_getIN 2 hE kc_Om k3 (Nat.le_of_ble_eq_true rfl) rfl nf_45 d_M_told_126 (fun x4 e => ?_)
    replace h := lt_i e h; clear e
    cases h
    exact g_iret hE d_M_told_129 rfl rfl
  · replace h := if_f (by rw [c1]; decide) h
    replace h := if_t c1 h
    refine g_aload (i := 5) hE d_M_told_130 rfl ?_
    obtain ⟨a5, rfl, h⟩ := nn_s h
    obtain ⟨k6, h⟩ := kd_s h
    refine g_getIN 4 hE kc_Om k6 (Nat.le_of_ble_eq_true rfl) rfl nf_46 d_M_told_132 (fun x7 e => ?_)
    replace h := lt_i e h; clear e
    cases h
    exact g_iret hE d_M_told_135 rfl rfl
  · replace h := if_f (by rw [c1]; decide) h; replace h := if_f (by rw [c1]; decide) h
    replace h := if_t c1 h
    exact gw.less (lv' := [some (va_rf (some o)), none, none, some (.int v3), none, some (va_rf v5)]) (And.intro rfl (And.intro rfl (And.intro rfl trivial))) (w_M_told_J136 hE v3 v5 h)
  · replace h := if_f (by rw [c1]; decide) h; replace h := if_f (by rw [c1]; decide) h; replace h := if_f (by rw [c1]; decide) h
    replace h := if_t c1 h
    exact gw.less (lv' := [some (va_rf (some o)), none, none, some (.int v3), none, some (va_rf v5)]) (And.intro rfl (And.intro rfl (And.intro rfl trivial))) (w_M_told_J136 hE v3 v5 h)
  · replace h := if_f (by rw [c1]; decide) h; replace h := if_f (by rw [c1]; decide) h; replace h := if_f (by rw [c1]; decide) h; replace h := if_f (by rw [c1]; decide) h
    replace h := if_t c1 h
    exact gw.less (lv' := [some (va_rf (some o)), none, none, some (.int v3), none, some (va_rf v5)]) (And.intro rfl (And.intro rfl (And.intro rfl trivial))) (w_M_told_J136 hE v3 v5 h)
  · replace h := if_f (by rw [c1]; decide) h; replace h := if_f (by rw [c1]; decide) h; replace h := if_f (by rw [c1]; decide) h; replace h := if_f (by rw [c1]; decide) h; replace h := if_f (by rw [c1]; decide) h
    replace h := if_t c1 h
    refine g_aload (i := 5) hE d_M_told_148 rfl ?_
    obtain ⟨a8, rfl, h⟩ := nn_s h
    obtain ⟨k9, h⟩ := kd_s h
    refine g_getIN 0 hE kc_Om k9 (Nat.le_of_ble_eq_true rfl) rfl nf_48 d_M_told_150 (fun x10 e => ?_)
    replace h := lt_i e h; clear e
    cases h
    exact g_iret hE d_M_told_153 rfl rfl
  · replace h := if_f (by rw [c1]; decide) h; replace h := if_f (by rw [c1]; decide) h; replace h := if_f (by rw [c1]; decide) h; replace h := if_f (by rw [c1]; decide) h; replace h := if_f (by rw [c1]; decide) h; replace h := if_f (by rw [c1]; decide) h
    replace h := if_t c1 h
    refine g_aload (i := 5) hE d_M_told_154 rfl ?_
    obtain ⟨a11, rfl, h⟩ := nn_s h
    obtain ⟨k12, h⟩ := kd_s h
    refine g_getIN 1 hE kc_Om k12 (Nat.le_of_ble_eq_true rfl) rfl nf_49 d_M_told_156 (fun x13 e => ?_)
    replace h := lt_i e h; clear e
    cases h
    exact g_iret hE d_M_told_159 rfl rfl
  · replace h := if_f c1_0 h; replace h := if_f c1_1 h; replace h := if_f c1_2 h; replace h := if_f c1_3 h; replace h := if_f c1_4 h; replace h := if_f c1_5 h; replace h := if_f c1_6 h
    refine g_iconst hE d_M_told_160 ki_m1 ?_
    cases h
    exact g_iret hE d_M_told_161 rfl rfl
def f_M_told_J56 (S : gS) (d : gD) (o : Nat) (v3 : Int32) (v4 : Option Nat) (v5 : Option Nat) : Option (Int32) :=
  if v3 < 16 then (
    f_M_told_J81 S d o v3 v5)
  else (
    if 31 < v3 then (
      f_M_told_J81 S d o v3 v5)
    else (
      nn v4 fun a1 =>
      kd S a1 7 <|
      lt_ (sP S a1 1) fun x3 =>
      nn x3 fun a4 =>
      kd S a4 2 <|
      bd (f_Rw_at S d a4 (v3 - 16)) fun x6 =>
      some x6))
set_option maxRecDepth 100000 in
set_option maxHeartbeats 4000000 in
theorem w_M_told_J56 {X : GX} (hE : gE X b_M_told 6 "StandInMill" (some (.int)) "told" 2 43) {S : gS} {d : gD} {o : Nat} {r : Int32} :
    ∀ (v3 : Int32) (v4 : Option Nat) (v5 : Option Nat), f_M_told_J56 S d o v3 v4 v5 = some r → gw X 0 0 (gQ X (some (.int r)) S d 0 0) S d 56 [some (va_rf (some o)), none, none, some (.int v3), some (va_rf v4), some (va_rf v5)] [] := by
  intro v3 v4 v5 h
  unfold f_M_told_J56 at h
  refine g_iload_n (i := 3) hE d_M_told_56 rfl rfl ?_
  refine g_bipush hE d_M_told_57 kb_16 ?_
  refine g_icmp_lt hE d_M_told_59 (fun c9 => ?_) (fun c9 => ?_)
  · replace h := if_t c9 h
    exact gw.less (lv' := [some (va_rf (some o)), none, none, some (.int v3), none, some (va_rf v5)]) (And.intro rfl (And.intro rfl (And.intro rfl trivial))) (w_M_told_J81 hE v3 v5 h)
  · replace h := if_f c9 h
    refine g_iload_n (i := 3) hE d_M_told_62 rfl rfl ?_
    refine g_bipush hE d_M_told_63 kb_31 ?_
    refine g_icmp_gt hE d_M_told_65 (fun c8 => ?_) (fun c8 => ?_)
    · replace h := if_t c8 h
      exact gw.less (lv' := [some (va_rf (some o)), none, none, some (.int v3), none, some (va_rf v5)]) (And.intro rfl (And.intro rfl (And.intro rfl trivial))) (w_M_told_J81 hE v3 v5 h)
    · replace h := if_f c8 h
      refine g_aload (i := 4) hE d_M_told_68 rfl ?_
      obtain ⟨a1, rfl, h⟩ := nn_s h
      obtain ⟨k2, h⟩ := kd_s h
      refine g_getRN 1 hE kc_Sm k2 (Nat.le_of_ble_eq_true rfl) rfl nf_50 d_M_told_70 (fun x3 e => ?_)
      replace h := lt_i e h; clear e
      refine g_iload_n (i := 3) hE d_M_told_73 rfl rfl ?_
      refine g_bipush hE d_M_told_74 kb_16 ?_
      refine g_isub hE d_M_told_76 ?_
      obtain ⟨a4, rfl, h⟩ := nn_s h
      obtain ⟨k5, h⟩ := kd_s h
      obtain ⟨x6, e7, h⟩ := bd_s h
      refine g_callV (av := [.inr (.inr (some a4)), .inl (v3 - 16)]) (as := [.inl (v3 - 16)]) (stk := [.int x6]) [] hE (c_Rw_at (xl X) (xG X) e7) ky_Rw_at ⟨Nat.le_of_ble_eq_true rfl, Nat.le_of_ble_eq_true rfl⟩ rfl kc_Rw k5 m_353 m_254 m_255 rfl d_M_told_77 rfl rfl ct_0 (Nat.zero_le _) (Nat.zero_le _) ?_
      refine gw.cs (c2 := 0) (s2 := 0) rfl rfl ?_
      cases h
      exact g_iret hE d_M_told_80 rfl rfl
set_option maxRecDepth 100000 in
def f_M_told (S : gS) (d : gD) (o : Nat) (v1 : Int32) (v2 : Int32) (v3 : Int32) : Option (Int32) :=
  kd S o 1 <|
  bd (f_M_hasMethod S d o v1 v2) fun x2 =>
  if x2 = 0 then (
    some (-1))
  else (
    lt_ (sP S o 9) fun x4 =>
    nn x4 fun a5 =>
    kd S a5 62 <|
    gi v1 (sN S a5) <|
    lt_ (sP S a5 v1.toNatClampNeg) fun x8 =>
    nn x8 fun a9 =>
    kd S a9 6 <|
    lt_ (sP S a9 4) fun x11 =>
    nn x11 fun a12 =>
    kd S a12 63 <|
    gi v2 (sN S a12) <|
    lt_ (sP S a12 v2.toNatClampNeg) fun x15 =>
    nn x15 fun a16 =>
    kd S a16 7 <|
    lt_ (sP S a16 0) fun x18 =>
    if v3 < 32 then (
      f_M_told_J56 S d o v3 (some a16) x18)
    else (
      if 47 < v3 then (
        f_M_told_J56 S d o v3 (some a16) x18)
      else (
        lt_ (sP S a16 2) fun x19 =>
        nn x19 fun a20 =>
        kd S a20 2 <|
        bd (f_Rw_at S d a20 (v3 - 32)) fun x22 =>
        some x22)))
set_option maxRecDepth 100000 in
set_option maxHeartbeats 4000000 in
theorem c_M_told (l : Launch) (G : gG) {S : gS} {d : gD} {o : Nat} {v1 : Int32} {v2 : Int32} {v3 : Int32} {r : Int32} (h : f_M_told S d o v1 v2 v3 = some r) : GM l G y_M_told b_M_told 6 (some (.int)) 2 43 0 0 [.inr (.inr (some o)), .inl v1, .inl v2, .inl v3] S d (some (.int r)) S d := by
  refine GM.of (by decide) (Nat.le_of_ble_eq_true rfl) ?_
  intro X hl0 hG0 hR0 hE0
  have hE : gE X b_M_told 6 "StandInMill" (some (.int)) "told" 2 43 := hE0
  unfold f_M_told at h
  refine gw.less (lv' := [some (va_rf (some o)), some (.int v1), some (.int v2), some (.int v3), none, none]) (And.intro rfl (And.intro rfl (And.intro rfl (And.intro rfl trivial)))) ?_
  refine g_aload_n (i := 0) hE d_M_told_0 rfl rfl ?_
  refine g_iload_n (i := 1) hE d_M_told_1 rfl rfl ?_
  refine g_iload_n (i := 2) hE d_M_told_2 rfl rfl ?_
  obtain ⟨k1, h⟩ := kd_s h
  obtain ⟨x2, e3, h⟩ := bd_s h
  refine g_callV (av := [.inr (.inr (some o)), .inl v1, .inl v2]) (as := [.inl v1, .inl v2]) (stk := [.int x2]) [] hE (c_M_hasMethod (xl X) (xG X) e3) ky_M_hasMethod ⟨Nat.le_of_ble_eq_true rfl, Nat.le_of_ble_eq_true rfl⟩ rfl kc_M k1 m_350 m_351 m_352 rfl d_M_told_3 rfl rfl ct_0 (Nat.zero_le _) (Nat.zero_le _) ?_
  refine gw.cs (c2 := 0) (s2 := 0) rfl rfl ?_
  refine g_if_ne hE d_M_told_6 (fun c26 => ?_) (fun c26 => ?_)
  · replace h := if_f c26 h
    refine g_aload_n (i := 0) hE d_M_told_11 rfl rfl ?_
    refine g_getR 9 hE kc_M k1 (Nat.le_of_ble_eq_true rfl) rfl m_50 d_M_told_12 (fun x4 e => ?_)
    replace h := lt_i e h; clear e
    refine g_iload_n (i := 1) hE d_M_told_15 rfl rfl ?_
    obtain ⟨a5, rfl, h⟩ := nn_s h
    obtain ⟨k6, h⟩ := kd_s h
    obtain ⟨g7, h⟩ := gi_s h
    refine g_aald hE k6 (by decide) rfl (fun _ => rfl) g7 d_M_told_16 (fun x8 e => ?_)
    replace h := lt_i e h; clear e
    obtain ⟨a9, rfl, h⟩ := nn_s h
    obtain ⟨k10, h⟩ := kd_s h
    refine g_getRN 4 hE kc_Si k10 (Nat.le_of_ble_eq_true rfl) rfl nf_28 d_M_told_17 (fun x11 e => ?_)
    replace h := lt_i e h; clear e
    refine g_iload_n (i := 2) hE d_M_told_20 rfl rfl ?_
    obtain ⟨a12, rfl, h⟩ := nn_s h
    obtain ⟨k13, h⟩ := kd_s h
    obtain ⟨g14, h⟩ := gi_s h
    refine g_aald hE k13 (by decide) rfl (fun _ => rfl) g14 d_M_told_21 (fun x15 e => ?_)
    replace h := lt_i e h; clear e
    refine g_astore (i := 4) (lv' := [some (va_rf (some o)), some (.int v1), some (.int v2), some (.int v3), some (va_rf x15), none]) hE d_M_told_22 (Nat.le_of_ble_eq_true rfl) ⟨rfl, Nat.le_of_ble_eq_true rfl⟩ (lvp_i rfl) ?_
    refine g_aload (i := 4) hE d_M_told_24 rfl ?_
    obtain ⟨a16, rfl, h⟩ := nn_s h
    obtain ⟨k17, h⟩ := kd_s h
    refine g_getRN 0 hE kc_Sm k17 (Nat.le_of_ble_eq_true rfl) rfl nf_44 d_M_told_26 (fun x18 e => ?_)
    replace h := lt_i e h; clear e
    refine g_astore (i := 5) (lv' := [some (va_rf (some o)), some (.int v1), some (.int v2), some (.int v3), some (va_rf (some a16)), some (va_rf x18)]) hE d_M_told_29 (Nat.le_of_ble_eq_true rfl) ⟨rfl, Nat.le_of_ble_eq_true rfl⟩ (lvp_r rfl) ?_
    refine g_iload_n (i := 3) hE d_M_told_31 rfl rfl ?_
    refine g_bipush hE d_M_told_32 kb_32 ?_
    refine g_icmp_lt hE d_M_told_34 (fun c25 => ?_) (fun c25 => ?_)
    · replace h := if_t c25 h
      exact gw.less (lv' := [some (va_rf (some o)), none, none, some (.int v3), some (va_rf (some a16)), some (va_rf x18)]) (And.intro rfl (And.intro rfl (And.intro rfl (And.intro rfl trivial)))) (w_M_told_J56 hE v3 (some a16) x18 h)
    · replace h := if_f c25 h
      refine g_iload_n (i := 3) hE d_M_told_37 rfl rfl ?_
      refine g_bipush hE d_M_told_38 kb_47 ?_
      refine g_icmp_gt hE d_M_told_40 (fun c24 => ?_) (fun c24 => ?_)
      · replace h := if_t c24 h
        exact gw.less (lv' := [some (va_rf (some o)), none, none, some (.int v3), some (va_rf (some a16)), some (va_rf x18)]) (And.intro rfl (And.intro rfl (And.intro rfl (And.intro rfl trivial)))) (w_M_told_J56 hE v3 (some a16) x18 h)
      · replace h := if_f c24 h
        refine g_aload (i := 4) hE d_M_told_43 rfl ?_
        refine g_getRN 2 hE kc_Sm k17 (Nat.le_of_ble_eq_true rfl) rfl nf_51 d_M_told_45 (fun x19 e => ?_)
        replace h := lt_i e h; clear e
        refine g_iload_n (i := 3) hE d_M_told_48 rfl rfl ?_
        refine g_bipush hE d_M_told_49 kb_32 ?_
        refine g_isub hE d_M_told_51 ?_
        obtain ⟨a20, rfl, h⟩ := nn_s h
        obtain ⟨k21, h⟩ := kd_s h
        obtain ⟨x22, e23, h⟩ := bd_s h
        refine g_callV (av := [.inr (.inr (some a20)), .inl (v3 - 32)]) (as := [.inl (v3 - 32)]) (stk := [.int x22]) [] hE (c_Rw_at (xl X) (xG X) e23) ky_Rw_at ⟨Nat.le_of_ble_eq_true rfl, Nat.le_of_ble_eq_true rfl⟩ rfl kc_Rw k21 m_353 m_254 m_255 rfl d_M_told_52 rfl rfl ct_0 (Nat.zero_le _) (Nat.zero_le _) ?_
        refine gw.cs (c2 := 0) (s2 := 0) rfl rfl ?_
        cases h
        exact g_iret hE d_M_told_55 rfl rfl
  · replace h := if_t c26 h
    refine g_iconst hE d_M_told_9 ki_m1 ?_
    cases h
    exact g_iret hE d_M_told_10 rfl rfl
theorem d_M_octet_0 : dc b_M_octet 0 (.iload_n 1) 1 1 := ⟨by decide +kernel, rfl⟩
theorem d_M_octet_1 : dc b_M_octet 1 (.aload_n 0) 1 2 := ⟨by decide +kernel, rfl⟩
theorem d_M_octet_2 : dc b_M_octet 2 (.getfield 112) 3 5 := ⟨by decide +kernel, rfl⟩
theorem d_M_octet_5 : dc b_M_octet 5 (.invokestatic 94) 3 8 := ⟨by decide +kernel, rfl⟩
theorem d_M_octet_8 : db b_M_octet 8 (.ifCond .eq 20) 20 28 11 := ⟨by decide +kernel, by decide, rfl⟩
theorem d_M_octet_11 : dc b_M_octet 11 (.iload_n 2) 1 12 := ⟨by decide +kernel, rfl⟩
theorem d_M_octet_12 : dc b_M_octet 12 (.aload_n 0) 1 13 := ⟨by decide +kernel, rfl⟩
theorem d_M_octet_13 : dc b_M_octet 13 (.getfield 41) 3 16 := ⟨by decide +kernel, rfl⟩
theorem d_M_octet_16 : dc b_M_octet 16 (.iload_n 1) 1 17 := ⟨by decide +kernel, rfl⟩
theorem d_M_octet_17 : dc b_M_octet 17 (.aaload) 1 18 := ⟨by decide +kernel, rfl⟩
theorem d_M_octet_18 : dc b_M_octet 18 (.getfield 234) 3 21 := ⟨by decide +kernel, rfl⟩
theorem d_M_octet_21 : dc b_M_octet 21 (.arraylength) 1 22 := ⟨by decide +kernel, rfl⟩
theorem d_M_octet_22 : dc b_M_octet 22 (.invokestatic 94) 3 25 := ⟨by decide +kernel, rfl⟩
theorem d_M_octet_25 : db b_M_octet 25 (.ifCond .ne 5) 5 30 28 := ⟨by decide +kernel, by decide, rfl⟩
theorem d_M_octet_28 : dc b_M_octet 28 (.iconst (-1)) 1 29 := ⟨by decide +kernel, rfl⟩
theorem d_M_octet_29 : dc b_M_octet 29 (.ireturn) 1 30 := ⟨by decide +kernel, rfl⟩
theorem d_M_octet_30 : dc b_M_octet 30 (.aload_n 0) 1 31 := ⟨by decide +kernel, rfl⟩
theorem d_M_octet_31 : dc b_M_octet 31 (.getfield 41) 3 34 := ⟨by decide +kernel, rfl⟩
theorem d_M_octet_34 : dc b_M_octet 34 (.iload_n 1) 1 35 := ⟨by decide +kernel, rfl⟩
theorem d_M_octet_35 : dc b_M_octet 35 (.aaload) 1 36 := ⟨by decide +kernel, rfl⟩
theorem d_M_octet_36 : dc b_M_octet 36 (.getfield 234) 3 39 := ⟨by decide +kernel, rfl⟩
theorem d_M_octet_39 : dc b_M_octet 39 (.iload_n 2) 1 40 := ⟨by decide +kernel, rfl⟩
theorem d_M_octet_40 : dc b_M_octet 40 (.baload) 1 41 := ⟨by decide +kernel, rfl⟩
theorem d_M_octet_41 : dc b_M_octet 41 (.sipush 255) 3 44 := ⟨by decide +kernel, rfl⟩
theorem d_M_octet_44 : dc b_M_octet 44 (.iand) 1 45 := ⟨by decide +kernel, rfl⟩
theorem d_M_octet_45 : dc b_M_octet 45 (.ireturn) 1 46 := ⟨by decide +kernel, rfl⟩
set_option maxRecDepth 100000 in
def f_M_octet (S : gS) (d : gD) (o : Nat) (v1 : Int32) (v2 : Int32) : Option (Int32) :=
  kd S o 1 <|
  lt_ (dI d o 10) fun x2 =>
  bd (f_M_isWithin S d v1 x2) fun x3 =>
  if x3 = 0 then (
    some (-1))
  else (
    lt_ (sP S o 9) fun x5 =>
    nn x5 fun a6 =>
    kd S a6 62 <|
    gi v1 (sN S a6) <|
    lt_ (sP S a6 v1.toNatClampNeg) fun x9 =>
    nn x9 fun a10 =>
    kd S a10 6 <|
    lt_ (sP S a10 5) fun x12 =>
    nn x12 fun a13 =>
    kd S a13 52 <|
    bd (f_M_isWithin S d v2 (Int32.ofNat (sN S a13))) fun x15 =>
    if x15 = 0 then (
      some (-1))
    else (
      lt_ (sP S o 9) fun x17 =>
      nn x17 fun a18 =>
      kd S a18 62 <|
      gi v1 (sN S a18) <|
      lt_ (sP S a18 v1.toNatClampNeg) fun x21 =>
      nn x21 fun a22 =>
      kd S a22 6 <|
      lt_ (sP S a22 5) fun x24 =>
      nn x24 fun a25 =>
      kd S a25 52 <|
      gi v2 (sN S a25) <|
      lt_ (dI d a25 v2.toNatClampNeg) fun x28 =>
      some (x28 &&& 255)))
set_option maxRecDepth 100000 in
set_option maxHeartbeats 4000000 in
theorem c_M_octet (l : Launch) (G : gG) {S : gS} {d : gD} {o : Nat} {v1 : Int32} {v2 : Int32} {r : Int32} (h : f_M_octet S d o v1 v2 = some r) : GM l G y_M_octet b_M_octet 3 (some (.int)) 1 21 0 0 [.inr (.inr (some o)), .inl v1, .inl v2] S d (some (.int r)) S d := by
  refine GM.of (by decide) (Nat.le_of_ble_eq_true rfl) ?_
  intro X hl0 hG0 hR0 hE0
  have hE : gE X b_M_octet 3 "StandInMill" (some (.int)) "octet" 1 21 := hE0
  unfold f_M_octet at h
  refine gw.less (lv' := [some (va_rf (some o)), some (.int v1), some (.int v2)]) (And.intro rfl (And.intro rfl (And.intro rfl trivial))) ?_
  refine g_iload_n (i := 1) hE d_M_octet_0 rfl rfl ?_
  refine g_aload_n (i := 0) hE d_M_octet_1 rfl rfl ?_
  obtain ⟨k1, h⟩ := kd_s h
  refine g_getI 10 hE kc_M k1 (Nat.le_of_ble_eq_true rfl) rfl m_111 d_M_octet_2 (fun x2 e => ?_)
  replace h := lt_i e h; clear e
  obtain ⟨x3, e4, h⟩ := bd_s h
  refine g_callS (av := [.inl v1, .inl x2]) (stk := [.int x3]) [] hE (c_M_isWithin (xl X) (xG X) e4) ky_M_isWithin ⟨Nat.le_of_ble_eq_true rfl, Nat.le_of_ble_eq_true rfl⟩ m_73 m_74 rfl d_M_octet_5 rfl rfl ct_0 (Nat.zero_le _) (Nat.zero_le _) ?_
  refine gw.cs (c2 := 0) (s2 := 0) rfl rfl ?_
  refine g_if_eq hE d_M_octet_8 (fun c30 => ?_) (fun c30 => ?_)
  · replace h := if_t c30 h
    refine g_iconst hE d_M_octet_28 ki_m1 ?_
    cases h
    exact g_iret hE d_M_octet_29 rfl rfl
  · replace h := if_f c30 h
    refine g_iload_n (i := 2) hE d_M_octet_11 rfl rfl ?_
    refine g_aload_n (i := 0) hE d_M_octet_12 rfl rfl ?_
    refine g_getR 9 hE kc_M k1 (Nat.le_of_ble_eq_true rfl) rfl m_50 d_M_octet_13 (fun x5 e => ?_)
    replace h := lt_i e h; clear e
    refine g_iload_n (i := 1) hE d_M_octet_16 rfl rfl ?_
    obtain ⟨a6, rfl, h⟩ := nn_s h
    obtain ⟨k7, h⟩ := kd_s h
    obtain ⟨g8, h⟩ := gi_s h
    refine g_aald hE k7 (by decide) rfl (fun _ => rfl) g8 d_M_octet_17 (fun x9 e => ?_)
    replace h := lt_i e h; clear e
    obtain ⟨a10, rfl, h⟩ := nn_s h
    obtain ⟨k11, h⟩ := kd_s h
    refine g_getRN 5 hE kc_Si k11 (Nat.le_of_ble_eq_true rfl) rfl nf_42 d_M_octet_18 (fun x12 e => ?_)
    replace h := lt_i e h; clear e
    obtain ⟨a13, rfl, h⟩ := nn_s h
    obtain ⟨k14, h⟩ := kd_s h
    refine g_alen hE k14 (by decide) d_M_octet_21 ?_
    obtain ⟨x15, e16, h⟩ := bd_s h
    refine g_callS (av := [.inl v2, .inl (Int32.ofNat (sN S a13))]) (stk := [.int x15]) [] hE (c_M_isWithin (xl X) (xG X) e16) ky_M_isWithin ⟨Nat.le_of_ble_eq_true rfl, Nat.le_of_ble_eq_true rfl⟩ m_73 m_74 rfl d_M_octet_22 rfl rfl ct_0 (Nat.zero_le _) (Nat.zero_le _) ?_
    refine gw.cs (c2 := 0) (s2 := 0) rfl rfl ?_
    refine g_if_ne hE d_M_octet_25 (fun c29 => ?_) (fun c29 => ?_)
    · replace h := if_f c29 h
      refine g_aload_n (i := 0) hE d_M_octet_30 rfl rfl ?_
      refine g_getR 9 hE kc_M k1 (Nat.le_of_ble_eq_true rfl) rfl m_50 d_M_octet_31 (fun x17 e => ?_)
      replace h := lt_i e h; clear e
      refine g_iload_n (i := 1) hE d_M_octet_34 rfl rfl ?_
      obtain ⟨a18, rfl, h⟩ := nn_s h
      obtain ⟨k19, h⟩ := kd_s h
      obtain ⟨g20, h⟩ := gi_s h
      refine g_aald hE k19 (by decide) rfl (fun _ => rfl) g20 d_M_octet_35 (fun x21 e => ?_)
      replace h := lt_i e h; clear e
      obtain ⟨a22, rfl, h⟩ := nn_s h
      obtain ⟨k23, h⟩ := kd_s h
      refine g_getRN 5 hE kc_Si k23 (Nat.le_of_ble_eq_true rfl) rfl nf_42 d_M_octet_36 (fun x24 e => ?_)
      replace h := lt_i e h; clear e
      refine g_iload_n (i := 2) hE d_M_octet_39 rfl rfl ?_
      obtain ⟨a25, rfl, h⟩ := nn_s h
      obtain ⟨k26, h⟩ := kd_s h
      obtain ⟨g27, h⟩ := gi_s h
      refine g_bald hE k26 g27 d_M_octet_40 (fun x28 e => ?_)
      replace h := lt_i e h; clear e
      refine g_sipush hE d_M_octet_41 ks_255 ?_
      refine g_iand hE d_M_octet_44 ?_
      cases h
      exact g_iret hE d_M_octet_45 rfl rfl
    · replace h := if_t c29 h
      refine g_iconst hE d_M_octet_28 ki_m1 ?_
      cases h
      exact g_iret hE d_M_octet_29 rfl rfl
theorem d_M_handler_0 : dc b_M_handler 0 (.iload_n 1) 1 1 := ⟨by decide +kernel, rfl⟩
theorem d_M_handler_1 : dc b_M_handler 1 (.aload_n 0) 1 2 := ⟨by decide +kernel, rfl⟩
theorem d_M_handler_2 : dc b_M_handler 2 (.getfield 112) 3 5 := ⟨by decide +kernel, rfl⟩
theorem d_M_handler_5 : dc b_M_handler 5 (.invokestatic 94) 3 8 := ⟨by decide +kernel, rfl⟩
theorem d_M_handler_8 : db b_M_handler 8 (.ifCond .eq 19) 19 27 11 := ⟨by decide +kernel, by decide, rfl⟩
theorem d_M_handler_11 : dc b_M_handler 11 (.iload_n 2) 1 12 := ⟨by decide +kernel, rfl⟩
theorem d_M_handler_12 : dc b_M_handler 12 (.iconst (-1)) 1 13 := ⟨by decide +kernel, rfl⟩
theorem d_M_handler_13 : db b_M_handler 13 (.if_icmp .eq 16) 16 29 16 := ⟨by decide +kernel, by decide, rfl⟩
theorem d_M_handler_16 : dc b_M_handler 16 (.iload_n 2) 1 17 := ⟨by decide +kernel, rfl⟩
theorem d_M_handler_17 : dc b_M_handler 17 (.aload_n 0) 1 18 := ⟨by decide +kernel, rfl⟩
theorem d_M_handler_18 : dc b_M_handler 18 (.getfield 184) 3 21 := ⟨by decide +kernel, rfl⟩
theorem d_M_handler_21 : dc b_M_handler 21 (.invokestatic 94) 3 24 := ⟨by decide +kernel, rfl⟩
theorem d_M_handler_24 : db b_M_handler 24 (.ifCond .ne 5) 5 29 27 := ⟨by decide +kernel, by decide, rfl⟩
theorem d_M_handler_27 : dc b_M_handler 27 (.iconst 0) 1 28 := ⟨by decide +kernel, rfl⟩
theorem d_M_handler_28 : dc b_M_handler 28 (.ireturn) 1 29 := ⟨by decide +kernel, rfl⟩
theorem d_M_handler_29 : dc b_M_handler 29 (.iload_n 3) 1 30 := ⟨by decide +kernel, rfl⟩
theorem d_M_handler_30 : db b_M_handler 30 (.ifCond .eq 28) 28 58 33 := ⟨by decide +kernel, by decide, rfl⟩
theorem d_M_handler_33 : dc b_M_handler 33 (.iload_n 2) 1 34 := ⟨by decide +kernel, rfl⟩
theorem d_M_handler_34 : dc b_M_handler 34 (.iconst (-1)) 1 35 := ⟨by decide +kernel, rfl⟩
theorem d_M_handler_35 : db b_M_handler 35 (.if_icmp .eq 21) 21 56 38 := ⟨by decide +kernel, by decide, rfl⟩
theorem d_M_handler_38 : dc b_M_handler 38 (.aload_n 0) 1 39 := ⟨by decide +kernel, rfl⟩
theorem d_M_handler_39 : dc b_M_handler 39 (.getfield 10) 3 42 := ⟨by decide +kernel, rfl⟩
theorem d_M_handler_42 : dc b_M_handler 42 (.aload_n 0) 1 43 := ⟨by decide +kernel, rfl⟩
theorem d_M_handler_43 : dc b_M_handler 43 (.getfield 26) 3 46 := ⟨by decide +kernel, rfl⟩
theorem d_M_handler_46 : dc b_M_handler 46 (.iload_n 2) 1 47 := ⟨by decide +kernel, rfl⟩
theorem d_M_handler_47 : dc b_M_handler 47 (.iaload) 1 48 := ⟨by decide +kernel, rfl⟩
theorem d_M_handler_48 : dc b_M_handler 48 (.bipush 8) 2 50 := ⟨by decide +kernel, rfl⟩
theorem d_M_handler_50 : dc b_M_handler 50 (.invokevirtual 191) 3 53 := ⟨by decide +kernel, rfl⟩
theorem d_M_handler_53 : db b_M_handler 53 (.ifCond .ne 5) 5 58 56 := ⟨by decide +kernel, by decide, rfl⟩
theorem d_M_handler_56 : dc b_M_handler 56 (.iconst 0) 1 57 := ⟨by decide +kernel, rfl⟩
theorem d_M_handler_57 : dc b_M_handler 57 (.ireturn) 1 58 := ⟨by decide +kernel, rfl⟩
theorem d_M_handler_58 : dc b_M_handler 58 (.aload_n 0) 1 59 := ⟨by decide +kernel, rfl⟩
theorem d_M_handler_59 : dc b_M_handler 59 (.getfield 41) 3 62 := ⟨by decide +kernel, rfl⟩
theorem d_M_handler_62 : dc b_M_handler 62 (.iload_n 1) 1 63 := ⟨by decide +kernel, rfl⟩
theorem d_M_handler_63 : dc b_M_handler 63 (.aaload) 1 64 := ⟨by decide +kernel, rfl⟩
theorem d_M_handler_64 : dc b_M_handler 64 (.iload_n 2) 1 65 := ⟨by decide +kernel, rfl⟩
theorem d_M_handler_65 : dc b_M_handler 65 (.putfield 281) 3 68 := ⟨by decide +kernel, rfl⟩
theorem d_M_handler_68 : dc b_M_handler 68 (.aload_n 0) 1 69 := ⟨by decide +kernel, rfl⟩
theorem d_M_handler_69 : dc b_M_handler 69 (.getfield 41) 3 72 := ⟨by decide +kernel, rfl⟩
theorem d_M_handler_72 : dc b_M_handler 72 (.iload_n 1) 1 73 := ⟨by decide +kernel, rfl⟩
theorem d_M_handler_73 : dc b_M_handler 73 (.aaload) 1 74 := ⟨by decide +kernel, rfl⟩
theorem d_M_handler_74 : dc b_M_handler 74 (.iload_n 3) 1 75 := ⟨by decide +kernel, rfl⟩
theorem d_M_handler_75 : dc b_M_handler 75 (.putfield 284) 3 78 := ⟨by decide +kernel, rfl⟩
theorem d_M_handler_78 : dc b_M_handler 78 (.iconst 1) 1 79 := ⟨by decide +kernel, rfl⟩
theorem d_M_handler_79 : dc b_M_handler 79 (.ireturn) 1 80 := ⟨by decide +kernel, rfl⟩
def f_M_handler_J58 (S : gS) (o : Nat) (d : gD) (v1 : Int32) (v2 : Int32) (v3 : Int32) : Option (Int32 × gD) :=
  kd S o 1 <|
  lt_ (sP S o 9) fun x2 =>
  nn x2 fun a3 =>
  kd S a3 62 <|
  gi v1 (sN S a3) <|
  lt_ (sP S a3 v1.toNatClampNeg) fun x6 =>
  nn x6 fun a7 =>
  kd S a7 6 <|
  lt_ (wI d a7 6 v2) fun d9 =>
  lt_ (sP S o 9) fun x10 =>
  nn x10 fun a11 =>
  kd S a11 62 <|
  gi v1 (sN S a11) <|
  lt_ (sP S a11 v1.toNatClampNeg) fun x14 =>
  nn x14 fun a15 =>
  kd S a15 6 <|
  nb v3 <|
  lt_ (wI d9 a15 7 v3) fun d18 =>
  some (1, d18)
set_option maxRecDepth 100000 in
set_option maxHeartbeats 4000000 in
theorem w_M_handler_J58 {X : GX} (hE : gE X b_M_handler 4 "StandInMill" (some (.boolean)) "handler" 2 43) {S : gS} {o : Nat} {r : Int32} {d' : gD} :
    ∀ (d : gD) (v1 : Int32) (v2 : Int32) (v3 : Int32), f_M_handler_J58 S o d v1 v2 v3 = some (r, d') → gw X 0 0 (gQ X (some (.int r)) S d' 0 0) S d 58 [some (va_rf (some o)), some (.int v1), some (.int v2), some (.int v3)] [] := by
  intro d v1 v2 v3 h
  unfold f_M_handler_J58 at h
  refine g_aload_n (i := 0) hE d_M_handler_58 rfl rfl ?_
  obtain ⟨k1, h⟩ := kd_s h
  refine g_getR 9 hE kc_M k1 (Nat.le_of_ble_eq_true rfl) rfl m_50 d_M_handler_59 (fun x2 e => ?_)
  replace h := lt_i e h; clear e
  refine g_iload_n (i := 1) hE d_M_handler_62 rfl rfl ?_
  obtain ⟨a3, rfl, h⟩ := nn_s h
  obtain ⟨k4, h⟩ := kd_s h
  obtain ⟨g5, h⟩ := gi_s h
  refine g_aald hE k4 (by decide) rfl (fun _ => rfl) g5 d_M_handler_63 (fun x6 e => ?_)
  replace h := lt_i e h; clear e
  refine g_iload_n (i := 2) hE d_M_handler_64 rfl rfl ?_
  obtain ⟨a7, rfl, h⟩ := nn_s h
  obtain ⟨k8, h⟩ := kd_s h
  refine g_putIN 6 hE kc_Si k8 (Nat.le_of_ble_eq_true rfl) rfl nf_52 rfl (by decide +kernel) d_M_handler_65 (fun d9 e => ?_)
  replace h := lt_i e h; clear e
  refine g_aload_n (i := 0) hE d_M_handler_68 rfl rfl ?_
  refine g_getR 9 hE kc_M k1 (Nat.le_of_ble_eq_true rfl) rfl m_50 d_M_handler_69 (fun x10 e => ?_)
  replace h := lt_i e h; clear e
  refine g_iload_n (i := 1) hE d_M_handler_72 rfl rfl ?_
  obtain ⟨a11, rfl, h⟩ := nn_s h
  obtain ⟨k12, h⟩ := kd_s h
  obtain ⟨g13, h⟩ := gi_s h
  refine g_aald hE k12 (by decide) rfl (fun _ => rfl) g13 d_M_handler_73 (fun x14 e => ?_)
  replace h := lt_i e h; clear e
  refine g_iload_n (i := 3) hE d_M_handler_74 rfl rfl ?_
  obtain ⟨a15, rfl, h⟩ := nn_s h
  obtain ⟨k16, h⟩ := kd_s h
  obtain ⟨g17, h⟩ := nb_s h
  refine g_putZN 7 hE kc_Si k16 (Nat.le_of_ble_eq_true rfl) rfl nf_53 rfl (by decide +kernel) g17 d_M_handler_75 (fun d18 e => ?_)
  replace h := lt_i e h; clear e
  refine g_iconst hE d_M_handler_78 ki_1 ?_
  cases h
  exact g_zret hE (Or.inr rfl) d_M_handler_79 rfl rfl
def f_M_handler_J29 (S : gS) (o : Nat) (d : gD) (v1 : Int32) (v2 : Int32) (v3 : Int32) : Option (Int32 × gD) :=
  if v3 = 0 then (
    f_M_handler_J58 S o d v1 v2 v3)
  else (
    if v2 = (-1) then (
      some (0, d))
    else (
      kd S o 1 <|
      lt_ (sP S o 0) fun x2 =>
      lt_ (sP S o 5) fun x3 =>
      nn x3 fun a4 =>
      kd S a4 50 <|
      gi v2 (sN S a4) <|
      lt_ (dI d a4 v2.toNatClampNeg) fun x7 =>
      nn x2 fun a8 =>
      kd S a8 8 <|
      bd (f_Ty_isBelow S d a8 x7 8) fun x10 =>
      if x10 = 0 then (
        some (0, d))
      else (
        f_M_handler_J58 S o d v1 v2 v3)))
set_option maxRecDepth 100000 in
set_option maxHeartbeats 4000000 in
theorem w_M_handler_J29 {X : GX} (hE : gE X b_M_handler 4 "StandInMill" (some (.boolean)) "handler" 2 43) {S : gS} {o : Nat} {r : Int32} {d' : gD} :
    ∀ (d : gD) (v1 : Int32) (v2 : Int32) (v3 : Int32), f_M_handler_J29 S o d v1 v2 v3 = some (r, d') → gw X 0 0 (gQ X (some (.int r)) S d' 0 0) S d 29 [some (va_rf (some o)), some (.int v1), some (.int v2), some (.int v3)] [] := by
  intro d v1 v2 v3 h
  unfold f_M_handler_J29 at h
  refine g_iload_n (i := 3) hE d_M_handler_29 rfl rfl ?_
  refine g_if_eq hE d_M_handler_30 (fun c14 => ?_) (fun c14 => ?_)
  · replace h := if_t c14 h
    exact gw.less (lv' := [some (va_rf (some o)), some (.int v1), some (.int v2), some (.int v3)]) (And.intro rfl (And.intro rfl (And.intro rfl (And.intro rfl trivial)))) (w_M_handler_J58 hE d v1 v2 v3 h)
  · replace h := if_f c14 h
    refine g_iload_n (i := 2) hE d_M_handler_33 rfl rfl ?_
    refine g_iconst hE d_M_handler_34 ki_m1 ?_
    refine g_icmp_eq hE d_M_handler_35 (fun c13 => ?_) (fun c13 => ?_)
    · replace h := if_t c13 h
      refine g_iconst hE d_M_handler_56 ki_0 ?_
      cases h
      exact g_zret hE (Or.inl rfl) d_M_handler_57 rfl rfl
    · replace h := if_f c13 h
      refine g_aload_n (i := 0) hE d_M_handler_38 rfl rfl ?_
      obtain ⟨k1, h⟩ := kd_s h
      refine g_getR 0 hE kc_M k1 (Nat.le_of_ble_eq_true rfl) rfl m_41 d_M_handler_39 (fun x2 e => ?_)
      replace h := lt_i e h; clear e
      refine g_aload_n (i := 0) hE d_M_handler_42 rfl rfl ?_
      refine g_getR 5 hE kc_M k1 (Nat.le_of_ble_eq_true rfl) rfl m_45 d_M_handler_43 (fun x3 e => ?_)
      replace h := lt_i e h; clear e
      refine g_iload_n (i := 2) hE d_M_handler_46 rfl rfl ?_
      obtain ⟨a4, rfl, h⟩ := nn_s h
      obtain ⟨k5, h⟩ := kd_s h
      obtain ⟨g6, h⟩ := gi_s h
      refine g_iald hE k5 g6 d_M_handler_47 (fun x7 e => ?_)
      replace h := lt_i e h; clear e
      refine g_bipush hE d_M_handler_48 kb_8 ?_
      obtain ⟨a8, rfl, h⟩ := nn_s h
      obtain ⟨k9, h⟩ := kd_s h
      obtain ⟨x10, e11, h⟩ := bd_s h
      refine g_callV (av := [.inr (.inr (some a8)), .inl x7, .inl 8]) (as := [.inl x7, .inl 8]) (stk := [.int x10]) [] hE (c_Ty_isBelow (xl X) (xG X) e11) ky_Ty_isBelow ⟨Nat.le_of_ble_eq_true rfl, Nat.le_of_ble_eq_true rfl⟩ rfl kc_Ty k9 m_165 m_109 m_110 rfl d_M_handler_50 rfl rfl ct_0 (Nat.zero_le _) (Nat.zero_le _) ?_
      refine gw.cs (c2 := 0) (s2 := 0) rfl rfl ?_
      refine g_if_ne hE d_M_handler_53 (fun c12 => ?_) (fun c12 => ?_)
      · replace h := if_f c12 h
        exact gw.less (lv' := [some (va_rf (some o)), some (.int v1), some (.int v2), some (.int v3)]) (And.intro rfl (And.intro rfl (And.intro rfl (And.intro rfl trivial)))) (w_M_handler_J58 hE d v1 v2 v3 h)
      · replace h := if_t c12 h
        refine g_iconst hE d_M_handler_56 ki_0 ?_
        cases h
        exact g_zret hE (Or.inl rfl) d_M_handler_57 rfl rfl
set_option maxRecDepth 100000 in
def f_M_handler (S : gS) (d : gD) (o : Nat) (v1 : Int32) (v2 : Int32) (v3 : Int32) : Option (Int32 × gD) :=
  kd S o 1 <|
  lt_ (dI d o 10) fun x2 =>
  bd (f_M_isWithin S d v1 x2) fun x3 =>
  if x3 = 0 then (
    some (0, d))
  else (
    if v2 = (-1) then (
      f_M_handler_J29 S o d v1 v2 v3)
    else (
      lt_ (dI d o 7) fun x5 =>
      bd (f_M_isWithin S d v2 x5) fun x6 =>
      if x6 = 0 then (
        some (0, d))
      else (
        f_M_handler_J29 S o d v1 v2 v3)))
set_option maxRecDepth 100000 in
set_option maxHeartbeats 4000000 in
theorem c_M_handler (l : Launch) (G : gG) {S : gS} {d : gD} {o : Nat} {v1 : Int32} {v2 : Int32} {v3 : Int32} {r : Int32} {d' : gD} (h : f_M_handler S d o v1 v2 v3 = some (r, d')) : GM l G y_M_handler b_M_handler 4 (some (.boolean)) 2 43 0 0 [.inr (.inr (some o)), .inl v1, .inl v2, .inl v3] S d (some (.int r)) S d' := by
  refine GM.of (by decide) (Nat.le_of_ble_eq_true rfl) ?_
  intro X hl0 hG0 hR0 hE0
  have hE : gE X b_M_handler 4 "StandInMill" (some (.boolean)) "handler" 2 43 := hE0
  unfold f_M_handler at h
  refine gw.less (lv' := [some (va_rf (some o)), some (.int v1), some (.int v2), some (.int v3)]) (And.intro rfl (And.intro rfl (And.intro rfl (And.intro rfl trivial)))) ?_
  refine g_iload_n (i := 1) hE d_M_handler_0 rfl rfl ?_
  refine g_aload_n (i := 0) hE d_M_handler_1 rfl rfl ?_
  obtain ⟨k1, h⟩ := kd_s h
  refine g_getI 10 hE kc_M k1 (Nat.le_of_ble_eq_true rfl) rfl m_111 d_M_handler_2 (fun x2 e => ?_)
  replace h := lt_i e h; clear e
  obtain ⟨x3, e4, h⟩ := bd_s h
  refine g_callS (av := [.inl v1, .inl x2]) (stk := [.int x3]) [] hE (c_M_isWithin (xl X) (xG X) e4) ky_M_isWithin ⟨Nat.le_of_ble_eq_true rfl, Nat.le_of_ble_eq_true rfl⟩ m_73 m_74 rfl d_M_handler_5 rfl rfl ct_0 (Nat.zero_le _) (Nat.zero_le _) ?_
  refine gw.cs (c2 := 0) (s2 := 0) rfl rfl ?_
  refine g_if_eq hE d_M_handler_8 (fun c10 => ?_) (fun c10 => ?_)
  · replace h := if_t c10 h
    refine g_iconst hE d_M_handler_27 ki_0 ?_
    cases h
    exact g_zret hE (Or.inl rfl) d_M_handler_28 rfl rfl
  · replace h := if_f c10 h
    refine g_iload_n (i := 2) hE d_M_handler_11 rfl rfl ?_
    refine g_iconst hE d_M_handler_12 ki_m1 ?_
    refine g_icmp_eq hE d_M_handler_13 (fun c9 => ?_) (fun c9 => ?_)
    · replace h := if_t c9 h
      exact gw.less (lv' := [some (va_rf (some o)), some (.int v1), some (.int v2), some (.int v3)]) (And.intro rfl (And.intro rfl (And.intro rfl (And.intro rfl trivial)))) (w_M_handler_J29 hE d v1 v2 v3 h)
    · replace h := if_f c9 h
      refine g_iload_n (i := 2) hE d_M_handler_16 rfl rfl ?_
      refine g_aload_n (i := 0) hE d_M_handler_17 rfl rfl ?_
      refine g_getI 7 hE kc_M k1 (Nat.le_of_ble_eq_true rfl) rfl m_160 d_M_handler_18 (fun x5 e => ?_)
      replace h := lt_i e h; clear e
      obtain ⟨x6, e7, h⟩ := bd_s h
      refine g_callS (av := [.inl v2, .inl x5]) (stk := [.int x6]) [] hE (c_M_isWithin (xl X) (xG X) e7) ky_M_isWithin ⟨Nat.le_of_ble_eq_true rfl, Nat.le_of_ble_eq_true rfl⟩ m_73 m_74 rfl d_M_handler_21 rfl rfl ct_0 (Nat.zero_le _) (Nat.zero_le _) ?_
      refine gw.cs (c2 := 0) (s2 := 0) rfl rfl ?_
      refine g_if_ne hE d_M_handler_24 (fun c8 => ?_) (fun c8 => ?_)
      · replace h := if_f c8 h
        exact gw.less (lv' := [some (va_rf (some o)), some (.int v1), some (.int v2), some (.int v3)]) (And.intro rfl (And.intro rfl (And.intro rfl (And.intro rfl trivial)))) (w_M_handler_J29 hE d v1 v2 v3 h)
      · replace h := if_t c8 h
        refine g_iconst hE d_M_handler_27 ki_0 ?_
        cases h
        exact g_zret hE (Or.inl rfl) d_M_handler_28 rfl rfl
