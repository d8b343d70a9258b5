theorem d_R_entry_0 : dc b_R_entry 0 (.iconst 0) 1 1 := ⟨by decide +kernel, rfl⟩
theorem d_R_entry_1 : dc b_R_entry 1 (.istore 4) 2 3 := ⟨by decide +kernel, rfl⟩
theorem d_R_entry_3 : dc b_R_entry 3 (.iload 4) 2 5 := ⟨by decide +kernel, rfl⟩
theorem d_R_entry_5 : dc b_R_entry 5 (.aload_n 0) 1 6 := ⟨by decide +kernel, rfl⟩
theorem d_R_entry_6 : dc b_R_entry 6 (.getfield 139) 3 9 := ⟨by decide +kernel, rfl⟩
theorem d_R_entry_9 : db b_R_entry 9 (.if_icmp .ge 55) 55 64 12 := ⟨by decide +kernel, by decide, rfl⟩
theorem d_R_entry_12 : dc b_R_entry 12 (.aload_n 0) 1 13 := ⟨by decide +kernel, rfl⟩
theorem d_R_entry_13 : dc b_R_entry 13 (.getfield 136) 3 16 := ⟨by decide +kernel, rfl⟩
theorem d_R_entry_16 : dc b_R_entry 16 (.iconst 3) 1 17 := ⟨by decide +kernel, rfl⟩
theorem d_R_entry_17 : dc b_R_entry 17 (.iload 4) 2 19 := ⟨by decide +kernel, rfl⟩
theorem d_R_entry_19 : dc b_R_entry 19 (.imul) 1 20 := ⟨by decide +kernel, rfl⟩
theorem d_R_entry_20 : dc b_R_entry 20 (.iaload) 1 21 := ⟨by decide +kernel, rfl⟩
theorem d_R_entry_21 : dc b_R_entry 21 (.iload_n 1) 1 22 := ⟨by decide +kernel, rfl⟩
theorem d_R_entry_22 : db b_R_entry 22 (.if_icmp .ne 36) 36 58 25 := ⟨by decide +kernel, by decide, rfl⟩
theorem d_R_entry_25 : dc b_R_entry 25 (.aload_n 0) 1 26 := ⟨by decide +kernel, rfl⟩
theorem d_R_entry_26 : dc b_R_entry 26 (.getfield 136) 3 29 := ⟨by decide +kernel, rfl⟩
theorem d_R_entry_29 : dc b_R_entry 29 (.iconst 3) 1 30 := ⟨by decide +kernel, rfl⟩
theorem d_R_entry_30 : dc b_R_entry 30 (.iload 4) 2 32 := ⟨by decide +kernel, rfl⟩
theorem d_R_entry_32 : dc b_R_entry 32 (.imul) 1 33 := ⟨by decide +kernel, rfl⟩
theorem d_R_entry_33 : dc b_R_entry 33 (.iconst 1) 1 34 := ⟨by decide +kernel, rfl⟩
theorem d_R_entry_34 : dc b_R_entry 34 (.iadd) 1 35 := ⟨by decide +kernel, rfl⟩
theorem d_R_entry_35 : dc b_R_entry 35 (.iaload) 1 36 := ⟨by decide +kernel, rfl⟩
theorem d_R_entry_36 : dc b_R_entry 36 (.iload_n 2) 1 37 := ⟨by decide +kernel, rfl⟩
theorem d_R_entry_37 : db b_R_entry 37 (.if_icmp .ne 21) 21 58 40 := ⟨by decide +kernel, by decide, rfl⟩
theorem d_R_entry_40 : dc b_R_entry 40 (.aload_n 0) 1 41 := ⟨by decide +kernel, rfl⟩
theorem d_R_entry_41 : dc b_R_entry 41 (.getfield 136) 3 44 := ⟨by decide +kernel, rfl⟩
theorem d_R_entry_44 : dc b_R_entry 44 (.iconst 3) 1 45 := ⟨by decide +kernel, rfl⟩
theorem d_R_entry_45 : dc b_R_entry 45 (.iload 4) 2 47 := ⟨by decide +kernel, rfl⟩
theorem d_R_entry_47 : dc b_R_entry 47 (.imul) 1 48 := ⟨by decide +kernel, rfl⟩
theorem d_R_entry_48 : dc b_R_entry 48 (.iconst 2) 1 49 := ⟨by decide +kernel, rfl⟩
theorem d_R_entry_49 : dc b_R_entry 49 (.iadd) 1 50 := ⟨by decide +kernel, rfl⟩
theorem d_R_entry_50 : dc b_R_entry 50 (.iaload) 1 51 := ⟨by decide +kernel, rfl⟩
theorem d_R_entry_51 : dc b_R_entry 51 (.iload_n 3) 1 52 := ⟨by decide +kernel, rfl⟩
theorem d_R_entry_52 : db b_R_entry 52 (.if_icmp .ne 6) 6 58 55 := ⟨by decide +kernel, by decide, rfl⟩
theorem d_R_entry_55 : dc b_R_entry 55 (.iload 4) 2 57 := ⟨by decide +kernel, rfl⟩
theorem d_R_entry_57 : dc b_R_entry 57 (.ireturn) 1 58 := ⟨by decide +kernel, rfl⟩
theorem d_R_entry_58 : dc b_R_entry 58 (.iinc 4 1) 3 61 := ⟨by decide +kernel, rfl⟩
theorem d_R_entry_61 : db b_R_entry 61 (.goto (-58)) (-58) 3 64 := ⟨by decide +kernel, by decide, rfl⟩
theorem d_R_entry_64 : dc b_R_entry 64 (.aload_n 0) 1 65 := ⟨by decide +kernel, rfl⟩
theorem d_R_entry_65 : dc b_R_entry 65 (.getfield 136) 3 68 := ⟨by decide +kernel, rfl⟩
theorem d_R_entry_68 : dc b_R_entry 68 (.iconst 3) 1 69 := ⟨by decide +kernel, rfl⟩
theorem d_R_entry_69 : dc b_R_entry 69 (.aload_n 0) 1 70 := ⟨by decide +kernel, rfl⟩
theorem d_R_entry_70 : dc b_R_entry 70 (.getfield 139) 3 73 := ⟨by decide +kernel, rfl⟩
theorem d_R_entry_73 : dc b_R_entry 73 (.imul) 1 74 := ⟨by decide +kernel, rfl⟩
theorem d_R_entry_74 : dc b_R_entry 74 (.iload_n 1) 1 75 := ⟨by decide +kernel, rfl⟩
theorem d_R_entry_75 : dc b_R_entry 75 (.iastore) 1 76 := ⟨by decide +kernel, rfl⟩
theorem d_R_entry_76 : dc b_R_entry 76 (.aload_n 0) 1 77 := ⟨by decide +kernel, rfl⟩
theorem d_R_entry_77 : dc b_R_entry 77 (.getfield 136) 3 80 := ⟨by decide +kernel, rfl⟩
theorem d_R_entry_80 : dc b_R_entry 80 (.iconst 3) 1 81 := ⟨by decide +kernel, rfl⟩
theorem d_R_entry_81 : dc b_R_entry 81 (.aload_n 0) 1 82 := ⟨by decide +kernel, rfl⟩
theorem d_R_entry_82 : dc b_R_entry 82 (.getfield 139) 3 85 := ⟨by decide +kernel, rfl⟩
theorem d_R_entry_85 : dc b_R_entry 85 (.imul) 1 86 := ⟨by decide +kernel, rfl⟩
theorem d_R_entry_86 : dc b_R_entry 86 (.iconst 1) 1 87 := ⟨by decide +kernel, rfl⟩
theorem d_R_entry_87 : dc b_R_entry 87 (.iadd) 1 88 := ⟨by decide +kernel, rfl⟩
theorem d_R_entry_88 : dc b_R_entry 88 (.iload_n 2) 1 89 := ⟨by decide +kernel, rfl⟩
theorem d_R_entry_89 : dc b_R_entry 89 (.iastore) 1 90 := ⟨by decide +kernel, rfl⟩
theorem d_R_entry_90 : dc b_R_entry 90 (.aload_n 0) 1 91 := ⟨by decide +kernel, rfl⟩
theorem d_R_entry_91 : dc b_R_entry 91 (.getfield 136) 3 94 := ⟨by decide +kernel, rfl⟩
theorem d_R_entry_94 : dc b_R_entry 94 (.iconst 3) 1 95 := ⟨by decide +kernel, rfl⟩
theorem d_R_entry_95 : dc b_R_entry 95 (.aload_n 0) 1 96 := ⟨by decide +kernel, rfl⟩
theorem d_R_entry_96 : dc b_R_entry 96 (.getfield 139) 3 99 := ⟨by decide +kernel, rfl⟩
theorem d_R_entry_99 : dc b_R_entry 99 (.imul) 1 100 := ⟨by decide +kernel, rfl⟩
theorem d_R_entry_100 : dc b_R_entry 100 (.iconst 2) 1 101 := ⟨by decide +kernel, rfl⟩
theorem d_R_entry_101 : dc b_R_entry 101 (.iadd) 1 102 := ⟨by decide +kernel, rfl⟩
theorem d_R_entry_102 : dc b_R_entry 102 (.iload_n 3) 1 103 := ⟨by decide +kernel, rfl⟩
theorem d_R_entry_103 : dc b_R_entry 103 (.iastore) 1 104 := ⟨by decide +kernel, rfl⟩
theorem d_R_entry_104 : dc b_R_entry 104 (.aload_n 0) 1 105 := ⟨by decide +kernel, rfl⟩
theorem d_R_entry_105 : dc b_R_entry 105 (.dup) 1 106 := ⟨by decide +kernel, rfl⟩
theorem d_R_entry_106 : dc b_R_entry 106 (.getfield 139) 3 109 := ⟨by decide +kernel, rfl⟩
theorem d_R_entry_109 : dc b_R_entry 109 (.iconst 1) 1 110 := ⟨by decide +kernel, rfl⟩
theorem d_R_entry_110 : dc b_R_entry 110 (.iadd) 1 111 := ⟨by decide +kernel, rfl⟩
theorem d_R_entry_111 : dc b_R_entry 111 (.putfield 139) 3 114 := ⟨by decide +kernel, rfl⟩
theorem d_R_entry_114 : dc b_R_entry 114 (.aload_n 0) 1 115 := ⟨by decide +kernel, rfl⟩
theorem d_R_entry_115 : dc b_R_entry 115 (.getfield 139) 3 118 := ⟨by decide +kernel, rfl⟩
theorem d_R_entry_118 : dc b_R_entry 118 (.iconst 1) 1 119 := ⟨by decide +kernel, rfl⟩
theorem d_R_entry_119 : dc b_R_entry 119 (.isub) 1 120 := ⟨by decide +kernel, rfl⟩
theorem d_R_entry_120 : dc b_R_entry 120 (.ireturn) 1 121 := ⟨by decide +kernel, rfl⟩
def f_R_entry_J58 (S : gS) (o : Nat) (kx64 : gD → Int32 → Int32 → Int32 → Option (Int32 × gD)) (kb : gD → Int32 → Int32 → Int32 → Int32 → Option (Int32 × gD)) (d : gD) (v1 : Int32) (v2 : Int32) (v3 : Int32) (v4 : Int32) : Option (Int32 × gD) :=
  kb d v1 v2 v3 (v4 + 1)
set_option maxRecDepth 100000 in
set_option maxHeartbeats 4000000 in
theorem w_R_entry_J58 {X : GX} (hE : gE X b_R_entry 5 "StandInMillModel" (some (.int)) "entry" 0 0) {S : gS} {o : Nat} {r : Int32} {d' : gD} {kb : gD → Int32 → Int32 → Int32 → Int32 → Option (Int32 × gD)} {kx64 : gD → Int32 → Int32 → Int32 → Option (Int32 × gD)} (hkb : ∀ (d : gD) (v1 : Int32) (v2 : Int32) (v3 : Int32) (v4 : Int32), kb d v1 v2 v3 v4 = some (r, d') → gw X 0 0 (gQ X (some (.int r)) S d' 0 0) S d 3 [some (va_rf (some o)), some (.int v1), some (.int v2), some (.int v3), some (.int v4)] []) (hkx64 : ∀ (d : gD) (v1 : Int32) (v2 : Int32) (v3 : Int32), kx64 d v1 v2 v3 = some (r, d') → gw X 0 0 (gQ X (some (.int r)) S d' 0 0) S d 64 [some (va_rf (some o)), some (.int v1), some (.int v2), some (.int v3), none] []) :
    ∀ (d : gD) (v1 : Int32) (v2 : Int32) (v3 : Int32) (v4 : Int32), f_R_entry_J58 S o kx64 kb d v1 v2 v3 v4 = some (r, d') → gw X 0 0 (gQ X (some (.int r)) S d' 0 0) S d 58 [some (va_rf (some o)), some (.int v1), some (.int v2), some (.int v3), some (.int v4)] [] := by
  intro d v1 v2 v3 v4 h
  unfold f_R_entry_J58 at h
  refine g_iinc (i := 4) (lv' := [some (va_rf (some o)), some (.int v1), some (.int v2), some (.int v3), some (.int (v4 + 1))]) hE d_R_entry_58 ki_1 rfl (Nat.le_of_ble_eq_true rfl) ⟨rfl, Nat.le_of_ble_eq_true rfl⟩ (lvp_i rfl) ?_
  refine g_goto hE d_R_entry_61 ?_
  exact gw.less (lv' := [some (va_rf (some o)), some (.int v1), some (.int v2), some (.int v3), some (.int (v4 + 1))]) (And.intro rfl (And.intro rfl (And.intro rfl (And.intro rfl (And.intro rfl trivial))))) (hkb d v1 v2 v3 (v4 + 1) h)
def f_R_entry_B3 (S : gS) (o : Nat) (kx64 : gD → Int32 → Int32 → Int32 → Option (Int32 × gD)) (kb : gD → Int32 → Int32 → Int32 → Int32 → Option (Int32 × gD)) (d : gD) (v1 : Int32) (v2 : Int32) (v3 : Int32) (v4 : Int32) : Option (Int32 × gD) :=
  kd S o 10 <|
  lt_ (dI d o 42) fun x2 =>
  if x2 ≤ v4 then (
    kx64 d v1 v2 v3)
  else (
    lt_ (sP S o 41) fun x3 =>
    nn x3 fun a4 =>
    kd S a4 50 <|
    gi (3 * v4) (sN S a4) <|
    lt_ (dI d a4 (3 * v4 : Int32).toNatClampNeg) fun x7 =>
    if x7 = v1 then (
      lt_ (sP S o 41) fun x8 =>
      nn x8 fun a9 =>
      kd S a9 50 <|
      gi ((3 * v4) + 1) (sN S a9) <|
      lt_ (dI d a9 ((3 * v4) + 1 : Int32).toNatClampNeg) fun x12 =>
      if x12 = v2 then (
        lt_ (sP S o 41) fun x13 =>
        nn x13 fun a14 =>
        kd S a14 50 <|
        gi ((3 * v4) + 2) (sN S a14) <|
        lt_ (dI d a14 ((3 * v4) + 2 : Int32).toNatClampNeg) fun x17 =>
        if x17 = v3 then (
          some (v4, d))
        else (
          f_R_entry_J58 S o kx64 kb d v1 v2 v3 v4))
      else (
        f_R_entry_J58 S o kx64 kb d v1 v2 v3 v4))
    else (
      f_R_entry_J58 S o kx64 kb d v1 v2 v3 v4))
set_option maxRecDepth 100000 in
set_option maxHeartbeats 4000000 in
theorem w_R_entry_B3 {X : GX} (hE : gE X b_R_entry 5 "StandInMillModel" (some (.int)) "entry" 0 0) {S : gS} {o : Nat} {r : Int32} {d' : gD} {kb : gD → Int32 → Int32 → Int32 → Int32 → Option (Int32 × gD)} {kx64 : gD → Int32 → Int32 → Int32 → Option (Int32 × gD)} (hkb : ∀ (d : gD) (v1 : Int32) (v2 : Int32) (v3 : Int32) (v4 : Int32), kb d v1 v2 v3 v4 = some (r, d') → gw X 0 0 (gQ X (some (.int r)) S d' 0 0) S d 3 [some (va_rf (some o)), some (.int v1), some (.int v2), some (.int v3), some (.int v4)] []) (hkx64 : ∀ (d : gD) (v1 : Int32) (v2 : Int32) (v3 : Int32), kx64 d v1 v2 v3 = some (r, d') → gw X 0 0 (gQ X (some (.int r)) S d' 0 0) S d 64 [some (va_rf (some o)), some (.int v1), some (.int v2), some (.int v3), none] []) :
    ∀ (d : gD) (v1 : Int32) (v2 : Int32) (v3 : Int32) (v4 : Int32), f_R_entry_B3 S o kx64 kb d v1 v2 v3 v4 = some (r, d') → gw X 0 0 (gQ X (some (.int r)) S d' 0 0) S d 3 [some (va_rf (some o)), some (.int v1), some (.int v2), some (.int v3), some (.int v4)] [] := by
  intro d v1 v2 v3 v4 h
  unfold f_R_entry_B3 at h
  refine g_iload (i := 4) hE d_R_entry_3 rfl ?_
  refine g_aload_n (i := 0) hE d_R_entry_5 rfl rfl ?_
  obtain ⟨k1, h⟩ := kd_s h
  refine g_getI 42 hE kc_R k1 (Nat.le_of_ble_eq_true rfl) rfl m_419 d_R_entry_6 (fun x2 e => ?_)
  replace h := lt_i e h; clear e
  refine g_icmp_ge hE d_R_entry_9 (fun c21 => ?_) (fun c21 => ?_)
  · replace h := if_t c21 h
    exact gw.less (lv' := [some (va_rf (some o)), some (.int v1), some (.int v2), some (.int v3), none]) (And.intro rfl (And.intro rfl (And.intro rfl (And.intro rfl trivial)))) (hkx64 d v1 v2 v3 h)
  · replace h := if_f c21 h
    refine g_aload_n (i := 0) hE d_R_entry_12 rfl rfl ?_
    refine g_getR 41 hE kc_R k1 (Nat.le_of_ble_eq_true rfl) rfl m_418 d_R_entry_13 (fun x3 e => ?_)
    replace h := lt_i e h; clear e
    refine g_iconst hE d_R_entry_16 ki_3 ?_
    refine g_iload (i := 4) hE d_R_entry_17 rfl ?_
    refine g_imul hE d_R_entry_19 ?_
    obtain ⟨a4, rfl, h⟩ := nn_s h
    obtain ⟨k5, h⟩ := kd_s h
    obtain ⟨g6, h⟩ := gi_s h
    refine g_iald hE k5 g6 d_R_entry_20 (fun x7 e => ?_)
    replace h := lt_i e h; clear e
    refine g_iload_n (i := 1) hE d_R_entry_21 rfl rfl ?_
    refine g_icmp_ne hE d_R_entry_22 (fun c20 => ?_) (fun c20 => ?_)
    · replace h := if_f c20 h
      exact gw.less (lv' := [some (va_rf (some o)), some (.int v1), some (.int v2), some (.int v3), some (.int v4)]) (And.intro rfl (And.intro rfl (And.intro rfl (And.intro rfl (And.intro rfl trivial))))) (w_R_entry_J58 hE hkb hkx64 d v1 v2 v3 v4 h)
    · replace h := if_t c20 h
      refine g_aload_n (i := 0) hE d_R_entry_25 rfl rfl ?_
      refine g_getR 41 hE kc_R k1 (Nat.le_of_ble_eq_true rfl) rfl m_418 d_R_entry_26 (fun x8 e => ?_)
      replace h := lt_i e h; clear e
      refine g_iconst hE d_R_entry_29 ki_3 ?_
      refine g_iload (i := 4) hE d_R_entry_30 rfl ?_
      refine g_imul hE d_R_entry_32 ?_
      refine g_iconst hE d_R_entry_33 ki_1 ?_
      refine g_iadd hE d_R_entry_34 ?_
      obtain ⟨a9, rfl, h⟩ := nn_s h
      obtain ⟨k10, h⟩ := kd_s h
      obtain ⟨g11, h⟩ := gi_s h
      refine g_iald hE k10 g11 d_R_entry_35 (fun x12 e => ?_)
      replace h := lt_i e h; clear e
      refine g_iload_n (i := 2) hE d_R_entry_36 rfl rfl ?_
      refine g_icmp_ne hE d_R_entry_37 (fun c19 => ?_) (fun c19 => ?_)
      · replace h := if_f c19 h
        exact gw.less (lv' := [some (va_rf (some o)), some (.int v1), some (.int v2), some (.int v3), some (.int v4)]) (And.intro rfl (And.intro rfl (And.intro rfl (And.intro rfl (And.intro rfl trivial))))) (w_R_entry_J58 hE hkb hkx64 d v1 v2 v3 v4 h)
      · replace h := if_t c19 h
        refine g_aload_n (i := 0) hE d_R_entry_40 rfl rfl ?_
        refine g_getR 41 hE kc_R k1 (Nat.le_of_ble_eq_true rfl) rfl m_418 d_R_entry_41 (fun x13 e => ?_)
        replace h := lt_i e h; clear e
        refine g_iconst hE d_R_entry_44 ki_3 ?_
        refine g_iload (i := 4) hE d_R_entry_45 rfl ?_
        refine g_imul hE d_R_entry_47 ?_
        refine g_iconst hE d_R_entry_48 ki_2 ?_
        refine g_iadd hE d_R_entry_49 ?_
        obtain ⟨a14, rfl, h⟩ := nn_s h
        obtain ⟨k15, h⟩ := kd_s h
        obtain ⟨g16, h⟩ := gi_s h
        refine g_iald hE k15 g16 d_R_entry_50 (fun x17 e => ?_)
        replace h := lt_i e h; clear e
        refine g_iload_n (i := 3) hE d_R_entry_51 rfl rfl ?_
        refine g_icmp_ne hE d_R_entry_52 (fun c18 => ?_) (fun c18 => ?_)
        · replace h := if_f c18 h
          exact gw.less (lv' := [some (va_rf (some o)), some (.int v1), some (.int v2), some (.int v3), some (.int v4)]) (And.intro rfl (And.intro rfl (And.intro rfl (And.intro rfl (And.intro rfl trivial))))) (w_R_entry_J58 hE hkb hkx64 d v1 v2 v3 v4 h)
        · replace h := if_t c18 h
          refine g_iload (i := 4) hE d_R_entry_55 rfl ?_
          cases h
          exact g_iret hE d_R_entry_57 rfl rfl
theorem w_R_entry_L3 {X : GX} (hE : gE X b_R_entry 5 "StandInMillModel" (some (.int)) "entry" 0 0) {S : gS} {o : Nat} {r : Int32} {d' : gD} {kx64 : gD → Int32 → Int32 → Int32 → Option (Int32 × gD)} (hkx64 : ∀ (d : gD) (v1 : Int32) (v2 : Int32) (v3 : Int32), kx64 d v1 v2 v3 = some (r, d') → gw X 0 0 (gQ X (some (.int r)) S d' 0 0) S d 64 [some (va_rf (some o)), some (.int v1), some (.int v2), some (.int v3), none] []) : ∀ (n : Nat) (d : gD) (v1 : Int32) (v2 : Int32) (v3 : Int32) (v4 : Int32), itr (f_R_entry_B3 S o kx64) (fun _ _ _ _ _ => none) n d v1 v2 v3 v4 = some (r, d') → gw X 0 0 (gQ X (some (.int r)) S d' 0 0) S d 3 [some (va_rf (some o)), some (.int v1), some (.int v2), some (.int v3), some (.int v4)] [] := by
  intro n
  induction n with
  | zero => intro d v1 v2 v3 v4 h; cases h
  | succ n ih => exact w_R_entry_B3 hE ih hkx64
def f_R_entry_J64 (S : gS) (o : Nat) (d : gD) (v1 : Int32) (v2 : Int32) (v3 : Int32) : Option (Int32 × gD) :=
  kd S o 10 <|
  lt_ (sP S o 41) fun x2 =>
  lt_ (dI d o 42) fun x3 =>
  nn x2 fun a4 =>
  kd S a4 50 <|
  gi (3 * x3) (sN S a4) <|
  lt_ (wI d a4 (3 * x3 : Int32).toNatClampNeg v1) fun d7 =>
  lt_ (sP S o 41) fun x8 =>
  lt_ (dI d7 o 42) fun x9 =>
  nn x8 fun a10 =>
  kd S a10 50 <|
  gi ((3 * x9) + 1) (sN S a10) <|
  lt_ (wI d7 a10 ((3 * x9) + 1 : Int32).toNatClampNeg v2) fun d13 =>
  lt_ (sP S o 41) fun x14 =>
  lt_ (dI d13 o 42) fun x15 =>
  nn x14 fun a16 =>
  kd S a16 50 <|
  gi ((3 * x15) + 2) (sN S a16) <|
  lt_ (wI d13 a16 ((3 * x15) + 2 : Int32).toNatClampNeg v3) fun d19 =>
  lt_ (dI d19 o 42) fun x20 =>
  lt_ (wI d19 o 42 (x20 + 1)) fun d21 =>
  lt_ (dI d21 o 42) fun x22 =>
  some (x22 - 1, d21)
set_option maxRecDepth 100000 in
set_option maxHeartbeats 4000000 in
theorem w_R_entry_J64 {X : GX} (hE : gE X b_R_entry 5 "StandInMillModel" (some (.int)) "entry" 0 0) {S : gS} {o : Nat} {r : Int32} {d' : gD} :
    ∀ (d : gD) (v1 : Int32) (v2 : Int32) (v3 : Int32), f_R_entry_J64 S o d v1 v2 v3 = some (r, d') → gw X 0 0 (gQ X (some (.int r)) S d' 0 0) S d 64 [some (va_rf (some o)), some (.int v1), some (.int v2), some (.int v3), none] [] := by
  intro d v1 v2 v3 h
  unfold f_R_entry_J64 at h
  refine g_aload_n (i := 0) hE d_R_entry_64 rfl rfl ?_
  obtain ⟨k1, h⟩ := kd_s h
  refine g_getR 41 hE kc_R k1 (Nat.le_of_ble_eq_true rfl) rfl m_418 d_R_entry_65 (fun x2 e => ?_)
  replace h := lt_i e h; clear e
  refine g_iconst hE d_R_entry_68 ki_3 ?_
  refine g_aload_n (i := 0) hE d_R_entry_69 rfl rfl ?_
  refine g_getI 42 hE kc_R k1 (Nat.le_of_ble_eq_true rfl) rfl m_419 d_R_entry_70 (fun x3 e => ?_)
  replace h := lt_i e h; clear e
  refine g_imul hE d_R_entry_73 ?_
  refine g_iload_n (i := 1) hE d_R_entry_74 rfl rfl ?_
  obtain ⟨a4, rfl, h⟩ := nn_s h
  obtain ⟨k5, h⟩ := kd_s h
  obtain ⟨g6, h⟩ := gi_s h
  refine g_iast hE k5 g6 d_R_entry_75 (fun d7 e => ?_)
  replace h := lt_i e h; clear e
  refine g_aload_n (i := 0) hE d_R_entry_76 rfl rfl ?_
  refine g_getR 41 hE kc_R k1 (Nat.le_of_ble_eq_true rfl) rfl m_418 d_R_entry_77 (fun x8 e => ?_)
  replace h := lt_i e h; clear e
  refine g_iconst hE d_R_entry_80 ki_3 ?_
  refine g_aload_n (i := 0) hE d_R_entry_81 rfl rfl ?_
  refine g_getI 42 hE kc_R k1 (Nat.le_of_ble_eq_true rfl) rfl m_419 d_R_entry_82 (fun x9 e => ?_)
  replace h := lt_i e h; clear e
  refine g_imul hE d_R_entry_85 ?_
  refine g_iconst hE d_R_entry_86 ki_1 ?_
  refine g_iadd hE d_R_entry_87 ?_
  refine g_iload_n (i := 2) hE d_R_entry_88 rfl rfl ?_
  obtain ⟨a10, rfl, h⟩ := nn_s h
  obtain ⟨k11, h⟩ := kd_s h
  obtain ⟨g12, h⟩ := gi_s h
  refine g_iast hE k11 g12 d_R_entry_89 (fun d13 e => ?_)
  replace h := lt_i e h; clear e
  refine g_aload_n (i := 0) hE d_R_entry_90 rfl rfl ?_
  refine g_getR 41 hE kc_R k1 (Nat.le_of_ble_eq_true rfl) rfl m_418 d_R_entry_91 (fun x14 e => ?_)
  replace h := lt_i e h; clear e
  refine g_iconst hE d_R_entry_94 ki_3 ?_
  refine g_aload_n (i := 0) hE d_R_entry_95 rfl rfl ?_
  refine g_getI 42 hE kc_R k1 (Nat.le_of_ble_eq_true rfl) rfl m_419 d_R_entry_96 (fun x15 e => ?_)
  replace h := lt_i e h; clear e
  refine g_imul hE d_R_entry_99 ?_
  refine g_iconst hE d_R_entry_100 ki_2 ?_
  refine g_iadd hE d_R_entry_101 ?_
  refine g_iload_n (i := 3) hE d_R_entry_102 rfl rfl ?_
  obtain ⟨a16, rfl, h⟩ := nn_s h
  obtain ⟨k17, h⟩ := kd_s h
  obtain ⟨g18, h⟩ := gi_s h
  refine g_iast hE k17 g18 d_R_entry_103 (fun d19 e => ?_)
  replace h := lt_i e h; clear e
  refine g_aload_n (i := 0) hE d_R_entry_104 rfl rfl ?_
  refine g_dupr hE d_R_entry_105 ?_
  refine g_getI 42 hE kc_R k1 (Nat.le_of_ble_eq_true rfl) rfl m_419 d_R_entry_106 (fun x20 e => ?_)
  replace h := lt_i e h; clear e
  refine g_iconst hE d_R_entry_109 ki_1 ?_
  refine g_iadd hE d_R_entry_110 ?_
  refine g_putI 42 hE kc_R k1 (Nat.le_of_ble_eq_true rfl) rfl m_419 rfl (by decide +kernel) d_R_entry_111 (fun d21 e => ?_)
  replace h := lt_i e h; clear e
  refine g_aload_n (i := 0) hE d_R_entry_114 rfl rfl ?_
  refine g_getI 42 hE kc_R k1 (Nat.le_of_ble_eq_true rfl) rfl m_419 d_R_entry_115 (fun x22 e => ?_)
  replace h := lt_i e h; clear e
  refine g_iconst hE d_R_entry_118 ki_1 ?_
  refine g_isub hE d_R_entry_119 ?_
  cases h
  exact g_iret hE d_R_entry_120 rfl rfl
set_option maxRecDepth 100000 in
def f_R_entry (S : gS) (d : gD) (o : Nat) (v1 : Int32) (v2 : Int32) (v3 : Int32) : Option (Int32 × gD) :=
  itr (f_R_entry_B3 S o (f_R_entry_J64 S o)) (fun _ _ _ _ _ => none) fu d v1 v2 v3 0
set_option maxRecDepth 100000 in
set_option maxHeartbeats 4000000 in
theorem c_R_entry (l : Launch) (G : gG) {S : gS} {d : gD} {o : Nat} {v1 : Int32} {v2 : Int32} {v3 : Int32} {r : Int32} {d' : gD} (h : f_R_entry S d o v1 v2 v3 = some (r, d')) : GM l G y_R_entry b_R_entry 5 (some (.int)) 0 0 0 0 [.inr (.inr (some o)), .inl v1, .inl v2, .inl v3] S d (some (.int r)) S d' := by
  refine GM.of (by decide) (Nat.le_of_ble_eq_true rfl) ?_
  intro X hl0 hG0 hR0 hE0
  have hE : gE X b_R_entry 5 "StandInMillModel" (some (.int)) "entry" 0 0 := hE0
  unfold f_R_entry at h
  refine gw.less (lv' := [some (va_rf (some o)), some (.int v1), some (.int v2), some (.int v3), none]) (And.intro rfl (And.intro rfl (And.intro rfl (And.intro rfl trivial)))) ?_
  refine g_iconst hE d_R_entry_0 ki_0 ?_
  refine g_istore (i := 4) (lv' := [some (va_rf (some o)), some (.int v1), some (.int v2), some (.int v3), some (.int 0)]) hE d_R_entry_1 (Nat.le_of_ble_eq_true rfl) ⟨rfl, Nat.le_of_ble_eq_true rfl⟩ (lvp_i rfl) ?_
  exact gw.less (lv' := [some (va_rf (some o)), some (.int v1), some (.int v2), some (.int v3), some (.int 0)]) (And.intro rfl (And.intro rfl (And.intro rfl (And.intro rfl (And.intro rfl trivial))))) (w_R_entry_L3 hE (w_R_entry_J64 hE) fu d v1 v2 v3 0 h)
theorem d_R_owner_0 : dc b_R_owner 0 (.iload_n 0) 1 1 := ⟨by decide +kernel, rfl⟩
theorem d_R_owner_1 : dc b_R_owner 1 (.bipush 72) 2 3 := ⟨by decide +kernel, rfl⟩
theorem d_R_owner_3 : db b_R_owner 3 (.if_icmp .lt 8) 8 11 6 := ⟨by decide +kernel, by decide, rfl⟩
theorem d_R_owner_6 : dc b_R_owner 6 (.bipush 7) 2 8 := ⟨by decide +kernel, rfl⟩
theorem d_R_owner_8 : db b_R_owner 8 (.goto 10) 10 18 11 := ⟨by decide +kernel, by decide, rfl⟩
theorem d_R_owner_11 : dc b_R_owner 11 (.bipush 24) 2 13 := ⟨by decide +kernel, rfl⟩
theorem d_R_owner_13 : dc b_R_owner 13 (.iload_n 0) 1 14 := ⟨by decide +kernel, rfl⟩
theorem d_R_owner_14 : dc b_R_owner 14 (.bipush 6) 2 16 := ⟨by decide +kernel, rfl⟩
theorem d_R_owner_16 : dc b_R_owner 16 (.idiv) 1 17 := ⟨by decide +kernel, rfl⟩
theorem d_R_owner_17 : dc b_R_owner 17 (.iadd) 1 18 := ⟨by decide +kernel, rfl⟩
theorem d_R_owner_18 : dc b_R_owner 18 (.ireturn) 1 19 := ⟨by decide +kernel, rfl⟩
set_option maxRecDepth 100000 in
def f_R_owner (S : gS) (d : gD) (v0 : Int32) : Option (Int32) :=
  if v0 < 72 then (
    nz 6 <|
    some (24 + (v0 / 6)))
  else (
    some 7)
set_option maxRecDepth 100000 in
set_option maxHeartbeats 4000000 in
theorem c_R_owner (l : Launch) (G : gG) {S : gS} {d : gD} {v0 : Int32} {r : Int32} (h : f_R_owner S d v0 = some r) : GM l G y_R_owner b_R_owner 1 (some (.int)) 0 0 0 0 [.inl v0] S d (some (.int r)) S d := by
  refine GM.of (by decide) (Nat.le_of_ble_eq_true rfl) ?_
  intro X hl0 hG0 hR0 hE0
  have hE : gE X b_R_owner 1 "StandInMillModel" (some (.int)) "owner" 0 0 := hE0
  unfold f_R_owner at h
  refine gw.less (lv' := [some (.int v0)]) (And.intro rfl trivial) ?_
  refine g_iload_n (i := 0) hE d_R_owner_0 rfl rfl ?_
  refine g_bipush hE d_R_owner_1 kb_72 ?_
  refine g_icmp_lt hE d_R_owner_3 (fun c2 => ?_) (fun c2 => ?_)
  · replace h := if_t c2 h
    refine g_bipush hE d_R_owner_11 kb_24 ?_
    refine g_iload_n (i := 0) hE d_R_owner_13 rfl rfl ?_
    refine g_bipush hE d_R_owner_14 kb_6 ?_
    obtain ⟨g1, h⟩ := nz_s h
    refine g_idiv hE d_R_owner_16 g1 ?_
    refine g_iadd hE d_R_owner_17 ?_
    cases h
    exact g_iret hE d_R_owner_18 rfl rfl
  · replace h := if_f c2 h
    refine g_bipush hE d_R_owner_6 kb_7 ?_
    refine g_goto hE d_R_owner_8 ?_
    cases h
    exact g_iret hE d_R_owner_18 rfl rfl
theorem d_R_numberOf_0 : dc b_R_numberOf 0 (.iload_n 0) 1 1 := ⟨by decide +kernel, rfl⟩
theorem d_R_numberOf_1 : dc b_R_numberOf 1 (.bipush 72) 2 3 := ⟨by decide +kernel, rfl⟩
theorem d_R_numberOf_3 : db b_R_numberOf 3 (.if_icmp .lt 10) 10 13 6 := ⟨by decide +kernel, by decide, rfl⟩
theorem d_R_numberOf_6 : dc b_R_numberOf 6 (.iload_n 0) 1 7 := ⟨by decide +kernel, rfl⟩
theorem d_R_numberOf_7 : dc b_R_numberOf 7 (.bipush 72) 2 9 := ⟨by decide +kernel, rfl⟩
theorem d_R_numberOf_9 : dc b_R_numberOf 9 (.isub) 1 10 := ⟨by decide +kernel, rfl⟩
theorem d_R_numberOf_10 : db b_R_numberOf 10 (.goto 7) 7 17 13 := ⟨by decide +kernel, by decide, rfl⟩
theorem d_R_numberOf_13 : dc b_R_numberOf 13 (.iload_n 0) 1 14 := ⟨by decide +kernel, rfl⟩
theorem d_R_numberOf_14 : dc b_R_numberOf 14 (.bipush 6) 2 16 := ⟨by decide +kernel, rfl⟩
theorem d_R_numberOf_16 : dc b_R_numberOf 16 (.irem) 1 17 := ⟨by decide +kernel, rfl⟩
theorem d_R_numberOf_17 : dc b_R_numberOf 17 (.ireturn) 1 18 := ⟨by decide +kernel, rfl⟩
set_option maxRecDepth 100000 in
def f_R_numberOf (S : gS) (d : gD) (v0 : Int32) : Option (Int32) :=
  if v0 < 72 then (
    nz 6 <|
    some (v0 - v0 / 6 * 6))
  else (
    some (v0 - 72))
set_option maxRecDepth 100000 in
set_option maxHeartbeats 4000000 in
theorem c_R_numberOf (l : Launch) (G : gG) {S : gS} {d : gD} {v0 : Int32} {r : Int32} (h : f_R_numberOf S d v0 = some r) : GM l G y_R_numberOf b_R_numberOf 1 (some (.int)) 0 0 0 0 [.inl v0] S d (some (.int r)) S d := by
  refine GM.of (by decide) (Nat.le_of_ble_eq_true rfl) ?_
  intro X hl0 hG0 hR0 hE0
  have hE : gE X b_R_numberOf 1 "StandInMillModel" (some (.int)) "numberOf" 0 0 := hE0
  unfold f_R_numberOf at h
  refine gw.less (lv' := [some (.int v0)]) (And.intro rfl trivial) ?_
  refine g_iload_n (i := 0) hE d_R_numberOf_0 rfl rfl ?_
  refine g_bipush hE d_R_numberOf_1 kb_72 ?_
  refine g_icmp_lt hE d_R_numberOf_3 (fun c2 => ?_) (fun c2 => ?_)
  · replace h := if_t c2 h
    refine g_iload_n (i := 0) hE d_R_numberOf_13 rfl rfl ?_
    refine g_bipush hE d_R_numberOf_14 kb_6 ?_
    obtain ⟨g1, h⟩ := nz_s h
    refine g_irem hE d_R_numberOf_16 g1 ?_
    cases h
    exact g_iret hE d_R_numberOf_17 rfl rfl
  · replace h := if_f c2 h
    refine g_iload_n (i := 0) hE d_R_numberOf_6 rfl rfl ?_
    refine g_bipush hE d_R_numberOf_7 kb_72 ?_
    refine g_isub hE d_R_numberOf_9 ?_
    refine g_goto hE d_R_numberOf_10 ?_
    cases h
    exact g_iret hE d_R_numberOf_17 rfl rfl
