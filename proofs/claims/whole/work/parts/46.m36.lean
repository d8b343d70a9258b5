theorem d_R_throwing_0 : dc b_R_throwing 0 (.aload_n 0) 1 1 := ⟨by decide +kernel, rfl⟩
theorem d_R_throwing_1 : dc b_R_throwing 1 (.iconst 0) 1 2 := ⟨by decide +kernel, rfl⟩
theorem d_R_throwing_2 : dc b_R_throwing 2 (.putfield 7) 3 5 := ⟨by decide +kernel, rfl⟩
theorem d_R_throwing_5 : dc b_R_throwing 5 (.aload_n 0) 1 6 := ⟨by decide +kernel, rfl⟩
theorem d_R_throwing_6 : dc b_R_throwing 6 (.iload_n 1) 1 7 := ⟨by decide +kernel, rfl⟩
theorem d_R_throwing_7 : dc b_R_throwing 7 (.invokevirtual 164) 3 10 := ⟨by decide +kernel, rfl⟩
theorem d_R_throwing_10 : db b_R_throwing 10 (.ifCond .eq 35) 35 45 13 := ⟨by decide +kernel, by decide, rfl⟩
theorem d_R_throwing_13 : dc b_R_throwing 13 (.iload_n 2) 1 14 := ⟨by decide +kernel, rfl⟩
theorem d_R_throwing_14 : db b_R_throwing 14 (.ifCond .lt 31) 31 45 17 := ⟨by decide +kernel, by decide, rfl⟩
theorem d_R_throwing_17 : dc b_R_throwing 17 (.iload_n 2) 1 18 := ⟨by decide +kernel, rfl⟩
theorem d_R_throwing_18 : dc b_R_throwing 18 (.aload_n 0) 1 19 := ⟨by decide +kernel, rfl⟩
theorem d_R_throwing_19 : dc b_R_throwing 19 (.getfield 48) 3 22 := ⟨by decide +kernel, rfl⟩
theorem d_R_throwing_22 : dc b_R_throwing 22 (.iload_n 1) 1 23 := ⟨by decide +kernel, rfl⟩
theorem d_R_throwing_23 : dc b_R_throwing 23 (.bipush 24) 2 25 := ⟨by decide +kernel, rfl⟩
theorem d_R_throwing_25 : dc b_R_throwing 25 (.isub) 1 26 := ⟨by decide +kernel, rfl⟩
theorem d_R_throwing_26 : dc b_R_throwing 26 (.iaload) 1 27 := ⟨by decide +kernel, rfl⟩
theorem d_R_throwing_27 : db b_R_throwing 27 (.if_icmp .ge 18) 18 45 30 := ⟨by decide +kernel, by decide, rfl⟩
theorem d_R_throwing_30 : dc b_R_throwing 30 (.aload_n 0) 1 31 := ⟨by decide +kernel, rfl⟩
theorem d_R_throwing_31 : dc b_R_throwing 31 (.iload_n 3) 1 32 := ⟨by decide +kernel, rfl⟩
theorem d_R_throwing_32 : dc b_R_throwing 32 (.invokevirtual 161) 3 35 := ⟨by decide +kernel, rfl⟩
theorem d_R_throwing_35 : db b_R_throwing 35 (.ifCond .eq 10) 10 45 38 := ⟨by decide +kernel, by decide, rfl⟩
theorem d_R_throwing_38 : dc b_R_throwing 38 (.aload_n 0) 1 39 := ⟨by decide +kernel, rfl⟩
theorem d_R_throwing_39 : dc b_R_throwing 39 (.getfield 76) 3 42 := ⟨by decide +kernel, rfl⟩
theorem d_R_throwing_42 : db b_R_throwing 42 (.ifCond .le 5) 5 47 45 := ⟨by decide +kernel, by decide, rfl⟩
theorem d_R_throwing_45 : dc b_R_throwing 45 (.iconst 0) 1 46 := ⟨by decide +kernel, rfl⟩
theorem d_R_throwing_46 : dc b_R_throwing 46 (.ireturn) 1 47 := ⟨by decide +kernel, rfl⟩
theorem d_R_throwing_47 : dc b_R_throwing 47 (.bipush 6) 2 49 := ⟨by decide +kernel, rfl⟩
theorem d_R_throwing_49 : dc b_R_throwing 49 (.iload_n 1) 1 50 := ⟨by decide +kernel, rfl⟩
theorem d_R_throwing_50 : dc b_R_throwing 50 (.bipush 24) 2 52 := ⟨by decide +kernel, rfl⟩
theorem d_R_throwing_52 : dc b_R_throwing 52 (.isub) 1 53 := ⟨by decide +kernel, rfl⟩
theorem d_R_throwing_53 : dc b_R_throwing 53 (.imul) 1 54 := ⟨by decide +kernel, rfl⟩
theorem d_R_throwing_54 : dc b_R_throwing 54 (.iload_n 2) 1 55 := ⟨by decide +kernel, rfl⟩
theorem d_R_throwing_55 : dc b_R_throwing 55 (.iadd) 1 56 := ⟨by decide +kernel, rfl⟩
theorem d_R_throwing_56 : dc b_R_throwing 56 (.istore 4) 2 58 := ⟨by decide +kernel, rfl⟩
theorem d_R_throwing_58 : dc b_R_throwing 58 (.iconst 0) 1 59 := ⟨by decide +kernel, rfl⟩
theorem d_R_throwing_59 : dc b_R_throwing 59 (.istore 5) 2 61 := ⟨by decide +kernel, rfl⟩
theorem d_R_throwing_61 : dc b_R_throwing 61 (.iload 5) 2 63 := ⟨by decide +kernel, rfl⟩
theorem d_R_throwing_63 : dc b_R_throwing 63 (.aload_n 0) 1 64 := ⟨by decide +kernel, rfl⟩
theorem d_R_throwing_64 : dc b_R_throwing 64 (.getfield 60) 3 67 := ⟨by decide +kernel, rfl⟩
theorem d_R_throwing_67 : dc b_R_throwing 67 (.iload 4) 2 69 := ⟨by decide +kernel, rfl⟩
theorem d_R_throwing_69 : dc b_R_throwing 69 (.iaload) 1 70 := ⟨by decide +kernel, rfl⟩
theorem d_R_throwing_70 : db b_R_throwing 70 (.if_icmp .ge 27) 27 97 73 := ⟨by decide +kernel, by decide, rfl⟩
theorem d_R_throwing_73 : dc b_R_throwing 73 (.aload_n 0) 1 74 := ⟨by decide +kernel, rfl⟩
theorem d_R_throwing_74 : dc b_R_throwing 74 (.getfield 63) 3 77 := ⟨by decide +kernel, rfl⟩
theorem d_R_throwing_77 : dc b_R_throwing 77 (.iconst 3) 1 78 := ⟨by decide +kernel, rfl⟩
theorem d_R_throwing_78 : dc b_R_throwing 78 (.iload 4) 2 80 := ⟨by decide +kernel, rfl⟩
theorem d_R_throwing_80 : dc b_R_throwing 80 (.imul) 1 81 := ⟨by decide +kernel, rfl⟩
theorem d_R_throwing_81 : dc b_R_throwing 81 (.iload 5) 2 83 := ⟨by decide +kernel, rfl⟩
theorem d_R_throwing_83 : dc b_R_throwing 83 (.iadd) 1 84 := ⟨by decide +kernel, rfl⟩
theorem d_R_throwing_84 : dc b_R_throwing 84 (.iaload) 1 85 := ⟨by decide +kernel, rfl⟩
theorem d_R_throwing_85 : dc b_R_throwing 85 (.iload_n 3) 1 86 := ⟨by decide +kernel, rfl⟩
theorem d_R_throwing_86 : db b_R_throwing 86 (.if_icmp .ne 5) 5 91 89 := ⟨by decide +kernel, by decide, rfl⟩
theorem d_R_throwing_89 : dc b_R_throwing 89 (.iconst 0) 1 90 := ⟨by decide +kernel, rfl⟩
theorem d_R_throwing_90 : dc b_R_throwing 90 (.ireturn) 1 91 := ⟨by decide +kernel, rfl⟩
theorem d_R_throwing_91 : dc b_R_throwing 91 (.iinc 5 1) 3 94 := ⟨by decide +kernel, rfl⟩
theorem d_R_throwing_94 : db b_R_throwing 94 (.goto (-33)) (-33) 61 97 := ⟨by decide +kernel, by decide, rfl⟩
theorem d_R_throwing_97 : dc b_R_throwing 97 (.aload_n 0) 1 98 := ⟨by decide +kernel, rfl⟩
theorem d_R_throwing_98 : dc b_R_throwing 98 (.getfield 60) 3 101 := ⟨by decide +kernel, rfl⟩
theorem d_R_throwing_101 : dc b_R_throwing 101 (.iload 4) 2 103 := ⟨by decide +kernel, rfl⟩
theorem d_R_throwing_103 : dc b_R_throwing 103 (.iaload) 1 104 := ⟨by decide +kernel, rfl⟩
theorem d_R_throwing_104 : dc b_R_throwing 104 (.iconst 3) 1 105 := ⟨by decide +kernel, rfl⟩
theorem d_R_throwing_105 : db b_R_throwing 105 (.if_icmp .ne 5) 5 110 108 := ⟨by decide +kernel, by decide, rfl⟩
theorem d_R_throwing_108 : dc b_R_throwing 108 (.iconst 0) 1 109 := ⟨by decide +kernel, rfl⟩
theorem d_R_throwing_109 : dc b_R_throwing 109 (.ireturn) 1 110 := ⟨by decide +kernel, rfl⟩
theorem d_R_throwing_110 : dc b_R_throwing 110 (.aload_n 0) 1 111 := ⟨by decide +kernel, rfl⟩
theorem d_R_throwing_111 : dc b_R_throwing 111 (.getfield 63) 3 114 := ⟨by decide +kernel, rfl⟩
theorem d_R_throwing_114 : dc b_R_throwing 114 (.iconst 3) 1 115 := ⟨by decide +kernel, rfl⟩
theorem d_R_throwing_115 : dc b_R_throwing 115 (.iload 4) 2 117 := ⟨by decide +kernel, rfl⟩
theorem d_R_throwing_117 : dc b_R_throwing 117 (.imul) 1 118 := ⟨by decide +kernel, rfl⟩
theorem d_R_throwing_118 : dc b_R_throwing 118 (.aload_n 0) 1 119 := ⟨by decide +kernel, rfl⟩
theorem d_R_throwing_119 : dc b_R_throwing 119 (.getfield 60) 3 122 := ⟨by decide +kernel, rfl⟩
theorem d_R_throwing_122 : dc b_R_throwing 122 (.iload 4) 2 124 := ⟨by decide +kernel, rfl⟩
theorem d_R_throwing_124 : dc b_R_throwing 124 (.iaload) 1 125 := ⟨by decide +kernel, rfl⟩
theorem d_R_throwing_125 : dc b_R_throwing 125 (.iadd) 1 126 := ⟨by decide +kernel, rfl⟩
theorem d_R_throwing_126 : dc b_R_throwing 126 (.iload_n 3) 1 127 := ⟨by decide +kernel, rfl⟩
theorem d_R_throwing_127 : dc b_R_throwing 127 (.iastore) 1 128 := ⟨by decide +kernel, rfl⟩
theorem d_R_throwing_128 : dc b_R_throwing 128 (.aload_n 0) 1 129 := ⟨by decide +kernel, rfl⟩
theorem d_R_throwing_129 : dc b_R_throwing 129 (.getfield 60) 3 132 := ⟨by decide +kernel, rfl⟩
theorem d_R_throwing_132 : dc b_R_throwing 132 (.iload 4) 2 134 := ⟨by decide +kernel, rfl⟩
theorem d_R_throwing_134 : dc b_R_throwing 134 (.aload_n 0) 1 135 := ⟨by decide +kernel, rfl⟩
theorem d_R_throwing_135 : dc b_R_throwing 135 (.getfield 60) 3 138 := ⟨by decide +kernel, rfl⟩
theorem d_R_throwing_138 : dc b_R_throwing 138 (.iload 4) 2 140 := ⟨by decide +kernel, rfl⟩
theorem d_R_throwing_140 : dc b_R_throwing 140 (.iaload) 1 141 := ⟨by decide +kernel, rfl⟩
theorem d_R_throwing_141 : dc b_R_throwing 141 (.iconst 1) 1 142 := ⟨by decide +kernel, rfl⟩
theorem d_R_throwing_142 : dc b_R_throwing 142 (.iadd) 1 143 := ⟨by decide +kernel, rfl⟩
theorem d_R_throwing_143 : dc b_R_throwing 143 (.iastore) 1 144 := ⟨by decide +kernel, rfl⟩
theorem d_R_throwing_144 : dc b_R_throwing 144 (.iconst 1) 1 145 := ⟨by decide +kernel, rfl⟩
theorem d_R_throwing_145 : dc b_R_throwing 145 (.ireturn) 1 146 := ⟨by decide +kernel, rfl⟩
def f_R_throwing_B61 (S : gS) (o : Nat) (kx97 : gD → Int32 → Int32 → Option (Int32 × gD)) (kb : gD → Int32 → Int32 → Int32 → Option (Int32 × gD)) (d : gD) (v3 : Int32) (v4 : Int32) (v5 : Int32) : Option (Int32 × gD) :=
  kd S o 10 <|
  lt_ (sP S o 16) fun x2 =>
  nn x2 fun a3 =>
  kd S a3 50 <|
  gi v4 (sN S a3) <|
  lt_ (dI d a3 v4.toNatClampNeg) fun x6 =>
  if x6 ≤ v5 then (
    kx97 d v3 v4)
  else (
    lt_ (sP S o 17) fun x7 =>
    nn x7 fun a8 =>
    kd S a8 50 <|
    gi ((3 * v4) + v5) (sN S a8) <|
    lt_ (dI d a8 ((3 * v4) + v5 : Int32).toNatClampNeg) fun x11 =>
    if x11 = v3 then (
      some (0, d))
    else (
      kb d v3 v4 (v5 + 1)))
set_option maxRecDepth 100000 in
set_option maxHeartbeats 4000000 in
theorem w_R_throwing_B61 {X : GX} (hE : gE X b_R_throwing 6 "StandInMillModel" (some (.boolean)) "throwing" 1 21) {S : gS} {o : Nat} {r : Int32} {d' : gD} {kb : gD → Int32 → Int32 → Int32 → Option (Int32 × gD)} {kx97 : gD → Int32 → Int32 → Option (Int32 × gD)} (hkb : ∀ (d : gD) (v3 : Int32) (v4 : Int32) (v5 : Int32), kb d v3 v4 v5 = some (r, d') → gw X 0 0 (gQ X (some (.int r)) S d' 0 0) S d 61 [some (va_rf (some o)), none, none, some (.int v3), some (.int v4), some (.int v5)] []) (hkx97 : ∀ (d : gD) (v3 : Int32) (v4 : Int32), kx97 d v3 v4 = some (r, d') → gw X 0 0 (gQ X (some (.int r)) S d' 0 0) S d 97 [some (va_rf (some o)), none, none, some (.int v3), some (.int v4), none] []) :
    ∀ (d : gD) (v3 : Int32) (v4 : Int32) (v5 : Int32), f_R_throwing_B61 S o kx97 kb d v3 v4 v5 = some (r, d') → gw X 0 0 (gQ X (some (.int r)) S d' 0 0) S d 61 [some (va_rf (some o)), none, none, some (.int v3), some (.int v4), some (.int v5)] [] := by
  intro d v3 v4 v5 h
  unfold f_R_throwing_B61 at h
  refine g_iload (i := 5) hE d_R_throwing_61 rfl ?_
  refine g_aload_n (i := 0) hE d_R_throwing_63 rfl rfl ?_
  obtain ⟨k1, h⟩ := kd_s h
  refine g_getR 16 hE kc_R k1 (Nat.le_of_ble_eq_true rfl) rfl m_393 d_R_throwing_64 (fun x2 e => ?_)
  replace h := lt_i e h; clear e
  refine g_iload (i := 4) hE d_R_throwing_67 rfl ?_
  obtain ⟨a3, rfl, h⟩ := nn_s h
  obtain ⟨k4, h⟩ := kd_s h
  obtain ⟨g5, h⟩ := gi_s h
  refine g_iald hE k4 g5 d_R_throwing_69 (fun x6 e => ?_)
  replace h := lt_i e h; clear e
  refine g_icmp_ge hE d_R_throwing_70 (fun c13 => ?_) (fun c13 => ?_)
  · replace h := if_t c13 h
    exact gw.less (lv' := [some (va_rf (some o)), none, none, some (.int v3), some (.int v4), none]) (And.intro rfl (And.intro rfl (And.intro rfl trivial))) (hkx97 d v3 v4 h)
  · replace h := if_f c13 h
    refine g_aload_n (i := 0) hE d_R_throwing_73 rfl rfl ?_
    refine g_getR 17 hE kc_R k1 (Nat.le_of_ble_eq_true rfl) rfl m_394 d_R_throwing_74 (fun x7 e => ?_)
    replace h := lt_i e h; clear e
    refine g_iconst hE d_R_throwing_77 ki_3 ?_
    refine g_iload (i := 4) hE d_R_throwing_78 rfl ?_
    refine g_imul hE d_R_throwing_80 ?_
    refine g_iload (i := 5) hE d_R_throwing_81 rfl ?_
    refine g_iadd hE d_R_throwing_83 ?_
    obtain ⟨a8, rfl, h⟩ := nn_s h
    obtain ⟨k9, h⟩ := kd_s h
    obtain ⟨g10, h⟩ := gi_s h
    refine g_iald hE k9 g10 d_R_throwing_84 (fun x11 e => ?_)
    replace h := lt_i e h; clear e
    refine g_iload_n (i := 3) hE d_R_throwing_85 rfl rfl ?_
    refine g_icmp_ne hE d_R_throwing_86 (fun c12 => ?_) (fun c12 => ?_)
    · replace h := if_f c12 h
      refine g_iinc (i := 5) (lv' := [some (va_rf (some o)), none, none, some (.int v3), some (.int v4), some (.int (v5 + 1))]) hE d_R_throwing_91 ki_1 rfl (Nat.le_of_ble_eq_true rfl) ⟨rfl, Nat.le_of_ble_eq_true rfl⟩ (lvp_i rfl) ?_
      refine g_goto hE d_R_throwing_94 ?_
      exact gw.less (lv' := [some (va_rf (some o)), none, none, some (.int v3), some (.int v4), some (.int (v5 + 1))]) (And.intro rfl (And.intro rfl (And.intro rfl (And.intro rfl trivial)))) (hkb d v3 v4 (v5 + 1) h)
    · replace h := if_t c12 h
      refine g_iconst hE d_R_throwing_89 ki_0 ?_
      cases h
      exact g_zret hE (Or.inl rfl) d_R_throwing_90 rfl rfl
theorem w_R_throwing_L61 {X : GX} (hE : gE X b_R_throwing 6 "StandInMillModel" (some (.boolean)) "throwing" 1 21) {S : gS} {o : Nat} {r : Int32} {d' : gD} {kx97 : gD → Int32 → Int32 → Option (Int32 × gD)} (hkx97 : ∀ (d : gD) (v3 : Int32) (v4 : Int32), kx97 d v3 v4 = some (r, d') → gw X 0 0 (gQ X (some (.int r)) S d' 0 0) S d 97 [some (va_rf (some o)), none, none, some (.int v3), some (.int v4), none] []) : ∀ (n : Nat) (d : gD) (v3 : Int32) (v4 : Int32) (v5 : Int32), itr (f_R_throwing_B61 S o kx97) (fun _ _ _ _ => none) n d v3 v4 v5 = some (r, d') → gw X 0 0 (gQ X (some (.int r)) S d' 0 0) S d 61 [some (va_rf (some o)), none, none, some (.int v3), some (.int v4), some (.int v5)] [] := by
  intro n
  induction n with
  | zero => intro d v3 v4 v5 h; cases h
  | succ n ih => exact w_R_throwing_B61 hE ih hkx97
def f_R_throwing_J97 (S : gS) (o : Nat) (d : gD) (v3 : Int32) (v4 : Int32) : Option (Int32 × gD) :=
  kd S o 10 <|
  lt_ (sP S o 16) fun x2 =>
  nn x2 fun a3 =>
  kd S a3 50 <|
  gi v4 (sN S a3) <|
  lt_ (dI d a3 v4.toNatClampNeg) fun x6 =>
  if x6 = 3 then (
    some (0, d))
  else (
    lt_ (sP S o 17) fun x7 =>
    lt_ (sP S o 16) fun x8 =>
    nn x8 fun a9 =>
    kd S a9 50 <|
    gi v4 (sN S a9) <|
    lt_ (dI d a9 v4.toNatClampNeg) fun x12 =>
    nn x7 fun a13 =>
    kd S a13 50 <|
    gi ((3 * v4) + x12) (sN S a13) <|
    lt_ (wI d a13 ((3 * v4) + x12 : Int32).toNatClampNeg v3) fun d16 =>
    lt_ (sP S o 16) fun x17 =>
    lt_ (sP S o 16) fun x18 =>
    nn x18 fun a19 =>
    kd S a19 50 <|
    gi v4 (sN S a19) <|
    lt_ (dI d16 a19 v4.toNatClampNeg) fun x22 =>
    nn x17 fun a23 =>
    kd S a23 50 <|
    gi v4 (sN S a23) <|
    lt_ (wI d16 a23 v4.toNatClampNeg (x22 + 1)) fun d26 =>
    some (1, d26))
set_option maxRecDepth 100000 in
set_option maxHeartbeats 4000000 in
theorem w_R_throwing_J97 {X : GX} (hE : gE X b_R_throwing 6 "StandInMillModel" (some (.boolean)) "throwing" 1 21) {S : gS} {o : Nat} {r : Int32} {d' : gD} :
    ∀ (d : gD) (v3 : Int32) (v4 : Int32), f_R_throwing_J97 S o d v3 v4 = some (r, d') → gw X 0 0 (gQ X (some (.int r)) S d' 0 0) S d 97 [some (va_rf (some o)), none, none, some (.int v3), some (.int v4), none] [] := by
  intro d v3 v4 h
  unfold f_R_throwing_J97 at h
  refine g_aload_n (i := 0) hE d_R_throwing_97 rfl rfl ?_
  obtain ⟨k1, h⟩ := kd_s h
  refine g_getR 16 hE kc_R k1 (Nat.le_of_ble_eq_true rfl) rfl m_393 d_R_throwing_98 (fun x2 e => ?_)
  replace h := lt_i e h; clear e
  refine g_iload (i := 4) hE d_R_throwing_101 rfl ?_
  obtain ⟨a3, rfl, h⟩ := nn_s h
  obtain ⟨k4, h⟩ := kd_s h
  obtain ⟨g5, h⟩ := gi_s h
  refine g_iald hE k4 g5 d_R_throwing_103 (fun x6 e => ?_)
  replace h := lt_i e h; clear e
  refine g_iconst hE d_R_throwing_104 ki_3 ?_
  refine g_icmp_ne hE d_R_throwing_105 (fun c27 => ?_) (fun c27 => ?_)
  · replace h := if_f c27 h
    refine g_aload_n (i := 0) hE d_R_throwing_110 rfl rfl ?_
    refine g_getR 17 hE kc_R k1 (Nat.le_of_ble_eq_true rfl) rfl m_394 d_R_throwing_111 (fun x7 e => ?_)
    replace h := lt_i e h; clear e
    refine g_iconst hE d_R_throwing_114 ki_3 ?_
    refine g_iload (i := 4) hE d_R_throwing_115 rfl ?_
    refine g_imul hE d_R_throwing_117 ?_
    refine g_aload_n (i := 0) hE d_R_throwing_118 rfl rfl ?_
    refine g_getR 16 hE kc_R k1 (Nat.le_of_ble_eq_true rfl) rfl m_393 d_R_throwing_119 (fun x8 e => ?_)
    replace h := lt_i e h; clear e
    refine g_iload (i := 4) hE d_R_throwing_122 rfl ?_
    obtain ⟨a9, rfl, h⟩ := nn_s h
    obtain ⟨k10, h⟩ := kd_s h
    obtain ⟨g11, h⟩ := gi_s h
    refine g_iald hE k10 g11 d_R_throwing_124 (fun x12 e => ?_)
    replace h := lt_i e h; clear e
    refine g_iadd hE d_R_throwing_125 ?_
    refine g_iload_n (i := 3) hE d_R_throwing_126 rfl rfl ?_
    obtain ⟨a13, rfl, h⟩ := nn_s h
    obtain ⟨k14, h⟩ := kd_s h
    obtain ⟨g15, h⟩ := gi_s h
    refine g_iast hE k14 g15 d_R_throwing_127 (fun d16 e => ?_)
    replace h := lt_i e h; clear e
    refine g_aload_n (i := 0) hE d_R_throwing_128 rfl rfl ?_
    refine g_getR 16 hE kc_R k1 (Nat.le_of_ble_eq_true rfl) rfl m_393 d_R_throwing_129 (fun x17 e => ?_)
    replace h := lt_i e h; clear e
    refine g_iload (i := 4) hE d_R_throwing_132 rfl ?_
    refine g_aload_n (i := 0) hE d_R_throwing_134 rfl rfl ?_
    refine g_getR 16 hE kc_R k1 (Nat.le_of_ble_eq_true rfl) rfl m_393 d_R_throwing_135 (fun x18 e => ?_)
    replace h := lt_i e h; clear e
    refine g_iload (i := 4) hE d_R_throwing_138 rfl ?_
    obtain ⟨a19, rfl, h⟩ := nn_s h
    obtain ⟨k20, h⟩ := kd_s h
    obtain ⟨g21, h⟩ := gi_s h
    refine g_iald hE k20 g21 d_R_throwing_140 (fun x22 e => ?_)
    replace h := lt_i e h; clear e
    refine g_iconst hE d_R_throwing_141 ki_1 ?_
    refine g_iadd hE d_R_throwing_142 ?_
    obtain ⟨a23, rfl, h⟩ := nn_s h
    obtain ⟨k24, h⟩ := kd_s h
    obtain ⟨g25, h⟩ := gi_s h
    refine g_iast hE k24 g25 d_R_throwing_143 (fun d26 e => ?_)
    replace h := lt_i e h; clear e
    refine g_iconst hE d_R_throwing_144 ki_1 ?_
    cases h
    exact g_zret hE (Or.inr rfl) d_R_throwing_145 rfl rfl
  · replace h := if_t c27 h
    refine g_iconst hE d_R_throwing_108 ki_0 ?_
    cases h
    exact g_zret hE (Or.inl rfl) d_R_throwing_109 rfl rfl
set_option maxRecDepth 100000 in
def f_R_throwing (S : gS) (d : gD) (o : Nat) (v1 : Int32) (v2 : Int32) (v3 : Int32) : Option (Int32 × gD) :=
  kd S o 10 <|
  lt_ (wI d o 0 0) fun d2 =>
  bd (f_R_isFace S d2 o v1) fun x3 =>
  if x3 = 0 then (
    some (0, d2))
  else (
    if v2 < 0 then (
      some (0, d2))
    else (
      lt_ (sP S o 12) fun x5 =>
      nn x5 fun a6 =>
      kd S a6 50 <|
      gi (v1 - 24) (sN S a6) <|
      lt_ (dI d2 a6 (v1 - 24 : Int32).toNatClampNeg) fun x9 =>
      if x9 ≤ v2 then (
        some (0, d2))
      else (
        bd (f_R_isClass S d2 o v3) fun x10 =>
        if x10 = 0 then (
          some (0, d2))
        else (
          lt_ (dI d2 o 21) fun x12 =>
          if x12 ≤ 0 then (
            itr (f_R_throwing_B61 S o (f_R_throwing_J97 S o)) (fun _ _ _ _ => none) fu d2 v3 ((6 * (v1 - 24)) + v2) 0)
          else (
            some (0, d2))))))
set_option maxRecDepth 100000 in
set_option maxHeartbeats 4000000 in
theorem c_R_throwing (l : Launch) (G : gG) {S : gS} {d : gD} {o : Nat} {v1 : Int32} {v2 : Int32} {v3 : Int32} {r : Int32} {d' : gD} (h : f_R_throwing S d o v1 v2 v3 = some (r, d')) : GM l G y_R_throwing b_R_throwing 6 (some (.boolean)) 1 21 0 0 [.inr (.inr (some o)), .inl v1, .inl v2, .inl v3] S d (some (.int r)) S d' := by
  refine GM.of (by decide) (Nat.le_of_ble_eq_true rfl) ?_
  intro X hl0 hG0 hR0 hE0
  have hE : gE X b_R_throwing 6 "StandInMillModel" (some (.boolean)) "throwing" 1 21 := hE0
  unfold f_R_throwing at h
  refine gw.less (lv' := [some (va_rf (some o)), some (.int v1), some (.int v2), some (.int v3), none, none]) (And.intro rfl (And.intro rfl (And.intro rfl (And.intro rfl trivial)))) ?_
  refine g_aload_n (i := 0) hE d_R_throwing_0 rfl rfl ?_
  refine g_iconst hE d_R_throwing_1 ki_0 ?_
  obtain ⟨k1, h⟩ := kd_s h
  refine g_putI 0 hE kc_R k1 (Nat.le_of_ble_eq_true rfl) rfl m_376 rfl (by decide +kernel) d_R_throwing_2 (fun d2 e => ?_)
  replace h := lt_i e h; clear e
  refine g_aload_n (i := 0) hE d_R_throwing_5 rfl rfl ?_
  refine g_iload_n (i := 1) hE d_R_throwing_6 rfl rfl ?_
  obtain ⟨x3, e4, h⟩ := bd_s h
  refine g_callV (av := [.inr (.inr (some o)), .inl v1]) (as := [.inl v1]) (stk := [.int x3]) [] hE (c_R_isFace (xl X) (xG X) e4) ky_R_isFace ⟨Nat.le_of_ble_eq_true rfl, Nat.le_of_ble_eq_true rfl⟩ rfl kc_R k1 m_430 m_431 m_432 rfl d_R_throwing_7 rfl rfl ct_0 (Nat.zero_le _) (Nat.zero_le _) ?_
  refine gw.cs (c2 := 0) (s2 := 0) rfl rfl ?_
  refine g_if_eq hE d_R_throwing_10 (fun c17 => ?_) (fun c17 => ?_)
  · replace h := if_t c17 h
    refine g_iconst hE d_R_throwing_45 ki_0 ?_
    cases h
    exact g_zret hE (Or.inl rfl) d_R_throwing_46 rfl rfl
  · replace h := if_f c17 h
    refine g_iload_n (i := 2) hE d_R_throwing_13 rfl rfl ?_
    refine g_if_lt hE d_R_throwing_14 (fun c16 => ?_) (fun c16 => ?_)
    · replace h := if_t c16 h
      refine g_iconst hE d_R_throwing_45 ki_0 ?_
      cases h
      exact g_zret hE (Or.inl rfl) d_R_throwing_46 rfl rfl
    · replace h := if_f c16 h
      refine g_iload_n (i := 2) hE d_R_throwing_17 rfl rfl ?_
      refine g_aload_n (i := 0) hE d_R_throwing_18 rfl rfl ?_
      refine g_getR 12 hE kc_R k1 (Nat.le_of_ble_eq_true rfl) rfl m_389 d_R_throwing_19 (fun x5 e => ?_)
      replace h := lt_i e h; clear e
      refine g_iload_n (i := 1) hE d_R_throwing_22 rfl rfl ?_
      refine g_bipush hE d_R_throwing_23 kb_24 ?_
      refine g_isub hE d_R_throwing_25 ?_
      obtain ⟨a6, rfl, h⟩ := nn_s h
      obtain ⟨k7, h⟩ := kd_s h
      obtain ⟨g8, h⟩ := gi_s h
      refine g_iald hE k7 g8 d_R_throwing_26 (fun x9 e => ?_)
      replace h := lt_i e h; clear e
      refine g_icmp_ge hE d_R_throwing_27 (fun c15 => ?_) (fun c15 => ?_)
      · replace h := if_t c15 h
        refine g_iconst hE d_R_throwing_45 ki_0 ?_
        cases h
        exact g_zret hE (Or.inl rfl) d_R_throwing_46 rfl rfl
      · replace h := if_f c15 h
        refine g_aload_n (i := 0) hE d_R_throwing_30 rfl rfl ?_
        refine g_iload_n (i := 3) hE d_R_throwing_31 rfl rfl ?_
        obtain ⟨x10, e11, h⟩ := bd_s h
        refine g_callV (av := [.inr (.inr (some o)), .inl v3]) (as := [.inl v3]) (stk := [.int x10]) [] hE (c_R_isClass (xl X) (xG X) e11) ky_R_isClass ⟨Nat.le_of_ble_eq_true rfl, Nat.le_of_ble_eq_true rfl⟩ rfl kc_R k1 m_427 m_428 m_429 rfl d_R_throwing_32 rfl rfl ct_0 (Nat.zero_le _) (Nat.zero_le _) ?_
        refine gw.cs (c2 := 0) (s2 := 0) rfl rfl ?_
        refine g_if_eq hE d_R_throwing_35 (fun c14 => ?_) (fun c14 => ?_)
        · replace h := if_t c14 h
          refine g_iconst hE d_R_throwing_45 ki_0 ?_
          cases h
          exact g_zret hE (Or.inl rfl) d_R_throwing_46 rfl rfl
        · replace h := if_f c14 h
          refine g_aload_n (i := 0) hE d_R_throwing_38 rfl rfl ?_
          refine g_getI 21 hE kc_R k1 (Nat.le_of_ble_eq_true rfl) rfl m_398 d_R_throwing_39 (fun x12 e => ?_)
          replace h := lt_i e h; clear e
          refine g_if_le hE d_R_throwing_42 (fun c13 => ?_) (fun c13 => ?_)
          · replace h := if_t c13 h
            refine g_bipush hE d_R_throwing_47 kb_6 ?_
            refine g_iload_n (i := 1) hE d_R_throwing_49 rfl rfl ?_
            refine g_bipush hE d_R_throwing_50 kb_24 ?_
            refine g_isub hE d_R_throwing_52 ?_
            refine g_imul hE d_R_throwing_53 ?_
            refine g_iload_n (i := 2) hE d_R_throwing_54 rfl rfl ?_
            refine g_iadd hE d_R_throwing_55 ?_
            refine g_istore (i := 4) (lv' := [some (va_rf (some o)), some (.int v1), some (.int v2), some (.int v3), some (.int ((6 * (v1 - 24)) + v2)), none]) hE d_R_throwing_56 (Nat.le_of_ble_eq_true rfl) ⟨rfl, Nat.le_of_ble_eq_true rfl⟩ (lvp_i rfl) ?_
            refine g_iconst hE d_R_throwing_58 ki_0 ?_
            refine g_istore (i := 5) (lv' := [some (va_rf (some o)), some (.int v1), some (.int v2), some (.int v3), some (.int ((6 * (v1 - 24)) + v2)), some (.int 0)]) hE d_R_throwing_59 (Nat.le_of_ble_eq_true rfl) ⟨rfl, Nat.le_of_ble_eq_true rfl⟩ (lvp_i rfl) ?_
            exact gw.less (lv' := [some (va_rf (some o)), none, none, some (.int v3), some (.int ((6 * (v1 - 24)) + v2)), some (.int 0)]) (And.intro rfl (And.intro rfl (And.intro rfl (And.intro rfl trivial)))) (w_R_throwing_L61 hE (w_R_throwing_J97 hE) fu d2 v3 ((6 * (v1 - 24)) + v2) 0 h)
          · replace h := if_f c13 h
            refine g_iconst hE d_R_throwing_45 ki_0 ?_
            cases h
            exact g_zret hE (Or.inl rfl) d_R_throwing_46 rfl rfl
theorem d_R_object_0 : dc b_R_object 0 (.aload_n 0) 1 1 := ⟨by decide +kernel, rfl⟩
theorem d_R_object_1 : dc b_R_object 1 (.iconst 0) 1 2 := ⟨by decide +kernel, rfl⟩
theorem d_R_object_2 : dc b_R_object 2 (.putfield 7) 3 5 := ⟨by decide +kernel, rfl⟩
theorem d_R_object_5 : dc b_R_object 5 (.aload_n 0) 1 6 := ⟨by decide +kernel, rfl⟩
theorem d_R_object_6 : dc b_R_object 6 (.iload_n 1) 1 7 := ⟨by decide +kernel, rfl⟩
theorem d_R_object_7 : dc b_R_object 7 (.invokevirtual 161) 3 10 := ⟨by decide +kernel, rfl⟩
theorem d_R_object_10 : db b_R_object 10 (.ifCond .ne 10) 10 20 13 := ⟨by decide +kernel, by decide, rfl⟩
theorem d_R_object_13 : dc b_R_object 13 (.iload_n 1) 1 14 := ⟨by decide +kernel, rfl⟩
theorem d_R_object_14 : dc b_R_object 14 (.invokestatic 167) 3 17 := ⟨by decide +kernel, rfl⟩
theorem d_R_object_17 : db b_R_object 17 (.ifCond .eq 12) 12 29 20 := ⟨by decide +kernel, by decide, rfl⟩
theorem d_R_object_20 : dc b_R_object 20 (.aload_n 0) 1 21 := ⟨by decide +kernel, rfl⟩
theorem d_R_object_21 : dc b_R_object 21 (.getfield 66) 3 24 := ⟨by decide +kernel, rfl⟩
theorem d_R_object_24 : dc b_R_object 24 (.bipush 32) 2 26 := ⟨by decide +kernel, rfl⟩
theorem d_R_object_26 : db b_R_object 26 (.if_icmp .ne 5) 5 31 29 := ⟨by decide +kernel, by decide, rfl⟩
theorem d_R_object_29 : dc b_R_object 29 (.iconst (-1)) 1 30 := ⟨by decide +kernel, rfl⟩
theorem d_R_object_30 : dc b_R_object 30 (.ireturn) 1 31 := ⟨by decide +kernel, rfl⟩
theorem d_R_object_31 : dc b_R_object 31 (.aload_n 0) 1 32 := ⟨by decide +kernel, rfl⟩
theorem d_R_object_32 : dc b_R_object 32 (.getfield 69) 3 35 := ⟨by decide +kernel, rfl⟩
theorem d_R_object_35 : dc b_R_object 35 (.aload_n 0) 1 36 := ⟨by decide +kernel, rfl⟩
theorem d_R_object_36 : dc b_R_object 36 (.getfield 66) 3 39 := ⟨by decide +kernel, rfl⟩
theorem d_R_object_39 : dc b_R_object 39 (.iload_n 1) 1 40 := ⟨by decide +kernel, rfl⟩
theorem d_R_object_40 : dc b_R_object 40 (.iastore) 1 41 := ⟨by decide +kernel, rfl⟩
theorem d_R_object_41 : dc b_R_object 41 (.aload_n 0) 1 42 := ⟨by decide +kernel, rfl⟩
theorem d_R_object_42 : dc b_R_object 42 (.getfield 72) 3 45 := ⟨by decide +kernel, rfl⟩
theorem d_R_object_45 : dc b_R_object 45 (.aload_n 0) 1 46 := ⟨by decide +kernel, rfl⟩
theorem d_R_object_46 : dc b_R_object 46 (.getfield 66) 3 49 := ⟨by decide +kernel, rfl⟩
theorem d_R_object_49 : dc b_R_object 49 (.iload_n 1) 1 50 := ⟨by decide +kernel, rfl⟩
theorem d_R_object_50 : dc b_R_object 50 (.invokestatic 167) 3 53 := ⟨by decide +kernel, rfl⟩
theorem d_R_object_53 : db b_R_object 53 (.ifCond .eq 14) 14 67 56 := ⟨by decide +kernel, by decide, rfl⟩
theorem d_R_object_56 : dc b_R_object 56 (.iload_n 1) 1 57 := ⟨by decide +kernel, rfl⟩
theorem d_R_object_57 : dc b_R_object 57 (.bipush 40) 2 59 := ⟨by decide +kernel, rfl⟩
theorem d_R_object_59 : dc b_R_object 59 (.isub) 1 60 := ⟨by decide +kernel, rfl⟩
theorem d_R_object_60 : dc b_R_object 60 (.lload_n 2) 1 61 := ⟨by decide +kernel, rfl⟩
theorem d_R_object_61 : dc b_R_object 61 (.invokestatic 235) 3 64 := ⟨by decide +kernel, rfl⟩
theorem d_R_object_64 : db b_R_object 64 (.goto 4) 4 68 67 := ⟨by decide +kernel, by decide, rfl⟩
theorem d_R_object_67 : dc b_R_object 67 (.lload_n 2) 1 68 := ⟨by decide +kernel, rfl⟩
theorem d_R_object_68 : dc b_R_object 68 (.lastore) 1 69 := ⟨by decide +kernel, rfl⟩
theorem d_R_object_69 : dc b_R_object 69 (.aload_n 0) 1 70 := ⟨by decide +kernel, rfl⟩
theorem d_R_object_70 : dc b_R_object 70 (.dup) 1 71 := ⟨by decide +kernel, rfl⟩
theorem d_R_object_71 : dc b_R_object 71 (.getfield 66) 3 74 := ⟨by decide +kernel, rfl⟩
theorem d_R_object_74 : dc b_R_object 74 (.iconst 1) 1 75 := ⟨by decide +kernel, rfl⟩
theorem d_R_object_75 : dc b_R_object 75 (.iadd) 1 76 := ⟨by decide +kernel, rfl⟩
theorem d_R_object_76 : dc b_R_object 76 (.putfield 66) 3 79 := ⟨by decide +kernel, rfl⟩
theorem d_R_object_79 : dc b_R_object 79 (.aload_n 0) 1 80 := ⟨by decide +kernel, rfl⟩
theorem d_R_object_80 : dc b_R_object 80 (.getfield 66) 3 83 := ⟨by decide +kernel, rfl⟩
theorem d_R_object_83 : dc b_R_object 83 (.iconst 1) 1 84 := ⟨by decide +kernel, rfl⟩
theorem d_R_object_84 : dc b_R_object 84 (.isub) 1 85 := ⟨by decide +kernel, rfl⟩
theorem d_R_object_85 : dc b_R_object 85 (.ireturn) 1 86 := ⟨by decide +kernel, rfl⟩
def f_R_object_J68 (S : gS) (o : Nat) (d : gD) (u0 : Option Nat) (u1 : Int32) (u2 : Int64) : Option (Int32 × gD) :=
  nn u0 fun a1 =>
  kd S a1 51 <|
  gi u1 (sN S a1) <|
  lt_ (wL d a1 u1.toNatClampNeg u2) fun d4 =>
  kd S o 10 <|
  lt_ (dI d4 o 18) fun x6 =>
  lt_ (wI d4 o 18 (x6 + 1)) fun d7 =>
  lt_ (dI d7 o 18) fun x8 =>
  some (x8 - 1, d7)
set_option maxRecDepth 100000 in
set_option maxHeartbeats 4000000 in
theorem w_R_object_J68 {X : GX} (hE : gE X b_R_object 4 "StandInMillModel" (some (.int)) "object" 1 22) {S : gS} {o : Nat} {r : Int32} {d' : gD} :
    ∀ (d : gD) (u0 : Option Nat) (u1 : Int32) (u2 : Int64), f_R_object_J68 S o d u0 u1 u2 = some (r, d') → gw X 0 0 (gQ X (some (.int r)) S d' 0 0) S d 68 [some (va_rf (some o)), none, none, none] [.long u2, .int u1, va_rf u0] := by
  intro d u0 u1 u2 h
  unfold f_R_object_J68 at h
  obtain ⟨a1, rfl, h⟩ := nn_s h
  obtain ⟨k2, h⟩ := kd_s h
  obtain ⟨g3, h⟩ := gi_s h
  refine g_last hE k2 g3 d_R_object_68 (fun d4 e => ?_)
  replace h := lt_i e h; clear e
  refine g_aload_n (i := 0) hE d_R_object_69 rfl rfl ?_
  refine g_dupr hE d_R_object_70 ?_
  obtain ⟨k5, h⟩ := kd_s h
  refine g_getI 18 hE kc_R k5 (Nat.le_of_ble_eq_true rfl) rfl m_395 d_R_object_71 (fun x6 e => ?_)
  replace h := lt_i e h; clear e
  refine g_iconst hE d_R_object_74 ki_1 ?_
  refine g_iadd hE d_R_object_75 ?_
  refine g_putI 18 hE kc_R k5 (Nat.le_of_ble_eq_true rfl) rfl m_395 rfl (by decide +kernel) d_R_object_76 (fun d7 e => ?_)
  replace h := lt_i e h; clear e
  refine g_aload_n (i := 0) hE d_R_object_79 rfl rfl ?_
  refine g_getI 18 hE kc_R k5 (Nat.le_of_ble_eq_true rfl) rfl m_395 d_R_object_80 (fun x8 e => ?_)
  replace h := lt_i e h; clear e
  refine g_iconst hE d_R_object_83 ki_1 ?_
  refine g_isub hE d_R_object_84 ?_
  cases h
  exact g_iret hE d_R_object_85 rfl rfl
def f_R_object_J20 (S : gS) (o : Nat) (d : gD) (v1 : Int32) (v2 : Int64) : Option (Int32 × gD) :=
  kd S o 10 <|
  lt_ (dI d o 18) fun x2 =>
  if x2 = 32 then (
    some ((-1), d))
  else (
    lt_ (sP S o 19) fun x3 =>
    lt_ (dI d o 18) fun x4 =>
    nn x3 fun a5 =>
    kd S a5 50 <|
    gi x4 (sN S a5) <|
    lt_ (wI d a5 x4.toNatClampNeg v1) fun d8 =>
    lt_ (sP S o 20) fun x9 =>
    lt_ (dI d8 o 18) fun x10 =>
    bd (f_R_isBox S d8 v1) fun x11 =>
    if x11 = 0 then (
      f_R_object_J68 S o d8 x9 x10 v2)
    else (
      bd (f_R_fitted S d8 (v1 - 40) v2) fun x13 =>
      f_R_object_J68 S o d8 x9 x10 x13))
set_option maxRecDepth 100000 in
set_option maxHeartbeats 4000000 in
theorem w_R_object_J20 {X : GX} (hE : gE X b_R_object 4 "StandInMillModel" (some (.int)) "object" 1 22) {S : gS} {o : Nat} {r : Int32} {d' : gD} :
    ∀ (d : gD) (v1 : Int32) (v2 : Int64), f_R_object_J20 S o d v1 v2 = some (r, d') → gw X 0 0 (gQ X (some (.int r)) S d' 0 0) S d 20 [some (va_rf (some o)), some (.int v1), some (.long v2), none] [] := by
  intro d v1 v2 h
  unfold f_R_object_J20 at h
  refine g_aload_n (i := 0) hE d_R_object_20 rfl rfl ?_
  obtain ⟨k1, h⟩ := kd_s h
  refine g_getI 18 hE kc_R k1 (Nat.le_of_ble_eq_true rfl) rfl m_395 d_R_object_21 (fun x2 e => ?_)
  replace h := lt_i e h; clear e
  refine g_bipush hE d_R_object_24 kb_32 ?_
  refine g_icmp_ne hE d_R_object_26 (fun c16 => ?_) (fun c16 => ?_)
  · replace h := if_f c16 h
    refine g_aload_n (i := 0) hE d_R_object_31 rfl rfl ?_
    refine g_getR 19 hE kc_R k1 (Nat.le_of_ble_eq_true rfl) rfl m_396 d_R_object_32 (fun x3 e => ?_)
    replace h := lt_i e h; clear e
    refine g_aload_n (i := 0) hE d_R_object_35 rfl rfl ?_
    refine g_getI 18 hE kc_R k1 (Nat.le_of_ble_eq_true rfl) rfl m_395 d_R_object_36 (fun x4 e => ?_)
    replace h := lt_i e h; clear e
    refine g_iload_n (i := 1) hE d_R_object_39 rfl rfl ?_
    obtain ⟨a5, rfl, h⟩ := nn_s h
    obtain ⟨k6, h⟩ := kd_s h
    obtain ⟨g7, h⟩ := gi_s h
    refine g_iast hE k6 g7 d_R_object_40 (fun d8 e => ?_)
    replace h := lt_i e h; clear e
    refine g_aload_n (i := 0) hE d_R_object_41 rfl rfl ?_
    refine g_getR 20 hE kc_R k1 (Nat.le_of_ble_eq_true rfl) rfl m_397 d_R_object_42 (fun x9 e => ?_)
    replace h := lt_i e h; clear e
    refine g_aload_n (i := 0) hE d_R_object_45 rfl rfl ?_
    refine g_getI 18 hE kc_R k1 (Nat.le_of_ble_eq_true rfl) rfl m_395 d_R_object_46 (fun x10 e => ?_)
    replace h := lt_i e h; clear e
    refine g_iload_n (i := 1) hE d_R_object_49 rfl rfl ?_
    obtain ⟨x11, e12, h⟩ := bd_s h
    refine g_callS (av := [.inl v1]) (stk := [.int x11, .int x10, va_rf x9]) [.int x10, va_rf x9] hE (c_R_isBox (xl X) (xG X) e12) ky_R_isBox ⟨Nat.le_of_ble_eq_true rfl, Nat.le_of_ble_eq_true rfl⟩ m_433 m_434 rfl d_R_object_50 rfl rfl (Nat.le_trans (ct_i (ct_r ct_n)) (Nat.le_of_ble_eq_true rfl)) (Nat.zero_le _) (Nat.zero_le _) ?_
    refine gw.cs (c2 := 0) (s2 := 0) rfl rfl ?_
    refine g_if_eq hE d_R_object_53 (fun c15 => ?_) (fun c15 => ?_)
    · replace h := if_t c15 h
      refine g_lload_n (i := 2) hE d_R_object_67 rfl rfl ?_
      exact gw.less (lv' := [some (va_rf (some o)), none, none, none]) (And.intro rfl trivial) (w_R_object_J68 hE d8 x9 x10 v2 h)
    · replace h := if_f c15 h
      refine g_iload_n (i := 1) hE d_R_object_56 rfl rfl ?_
      refine g_bipush hE d_R_object_57 kb_40 ?_
      refine g_isub hE d_R_object_59 ?_
      refine g_lload_n (i := 2) hE d_R_object_60 rfl rfl ?_
      obtain ⟨x13, e14, h⟩ := bd_s h
      refine g_callS (av := [.inl (v1 - 40), .inr (.inl v2)]) (stk := [.long x13, .int x10, va_rf x9]) [.int x10, va_rf x9] hE (c_R_fitted (xl X) (xG X) e14) ky_R_fitted ⟨Nat.le_of_ble_eq_true rfl, Nat.le_of_ble_eq_true rfl⟩ m_493 m_494 rfl d_R_object_61 rfl rfl (Nat.le_trans (ct_i (ct_r ct_n)) (Nat.le_of_ble_eq_true rfl)) (Nat.zero_le _) (Nat.zero_le _) ?_
      refine gw.cs (c2 := 0) (s2 := 0) rfl rfl ?_
      refine g_goto hE d_R_object_64 ?_
      exact gw.less (lv' := [some (va_rf (some o)), none, none, none]) (And.intro rfl trivial) (w_R_object_J68 hE d8 x9 x10 x13 h)
  · replace h := if_t c16 h
    refine g_iconst hE d_R_object_29 ki_m1 ?_
    cases h
    exact g_iret hE d_R_object_30 rfl rfl
set_option maxRecDepth 100000 in
def f_R_object (S : gS) (d : gD) (o : Nat) (v1 : Int32) (v2 : Int64) : Option (Int32 × gD) :=
  kd S o 10 <|
  lt_ (wI d o 0 0) fun d2 =>
  bd (f_R_isClass S d2 o v1) fun x3 =>
  if x3 = 0 then (
    bd (f_R_isBox S d2 v1) fun x5 =>
    if x5 = 0 then (
      some ((-1), d2))
    else (
      f_R_object_J20 S o d2 v1 v2))
  else (
    f_R_object_J20 S o d2 v1 v2)
set_option maxRecDepth 100000 in
set_option maxHeartbeats 4000000 in
theorem c_R_object (l : Launch) (G : gG) {S : gS} {d : gD} {o : Nat} {v1 : Int32} {v2 : Int64} {r : Int32} {d' : gD} (h : f_R_object S d o v1 v2 = some (r, d')) : GM l G y_R_object b_R_object 4 (some (.int)) 1 22 0 0 [.inr (.inr (some o)), .inl v1, .inr (.inl v2)] S d (some (.int r)) S d' := by
  refine GM.of (by decide) (Nat.le_of_ble_eq_true rfl) ?_
  intro X hl0 hG0 hR0 hE0
  have hE : gE X b_R_object 4 "StandInMillModel" (some (.int)) "object" 1 22 := hE0
  unfold f_R_object at h
  refine gw.less (lv' := [some (va_rf (some o)), some (.int v1), some (.long v2), none]) (And.intro rfl (And.intro rfl (And.intro rfl trivial))) ?_
  refine g_aload_n (i := 0) hE d_R_object_0 rfl rfl ?_
  refine g_iconst hE d_R_object_1 ki_0 ?_
  obtain ⟨k1, h⟩ := kd_s h
  refine g_putI 0 hE kc_R k1 (Nat.le_of_ble_eq_true rfl) rfl m_376 rfl (by decide +kernel) d_R_object_2 (fun d2 e => ?_)
  replace h := lt_i e h; clear e
  refine g_aload_n (i := 0) hE d_R_object_5 rfl rfl ?_
  refine g_iload_n (i := 1) hE d_R_object_6 rfl rfl ?_
  obtain ⟨x3, e4, h⟩ := bd_s h
  refine g_callV (av := [.inr (.inr (some o)), .inl v1]) (as := [.inl v1]) (stk := [.int x3]) [] hE (c_R_isClass (xl X) (xG X) e4) ky_R_isClass ⟨Nat.le_of_ble_eq_true rfl, Nat.le_of_ble_eq_true rfl⟩ rfl kc_R k1 m_427 m_428 m_429 rfl d_R_object_7 rfl rfl ct_0 (Nat.zero_le _) (Nat.zero_le _) ?_
  refine gw.cs (c2 := 0) (s2 := 0) rfl rfl ?_
  refine g_if_ne hE d_R_object_10 (fun c8 => ?_) (fun c8 => ?_)
  · replace h := if_f c8 h
    exact gw.less (lv' := [some (va_rf (some o)), some (.int v1), some (.long v2), none]) (And.intro rfl (And.intro rfl (And.intro rfl trivial))) (w_R_object_J20 hE d2 v1 v2 h)
  · replace h := if_t c8 h
    refine g_iload_n (i := 1) hE d_R_object_13 rfl rfl ?_
    obtain ⟨x5, e6, h⟩ := bd_s h
    refine g_callS (av := [.inl v1]) (stk := [.int x5]) [] hE (c_R_isBox (xl X) (xG X) e6) ky_R_isBox ⟨Nat.le_of_ble_eq_true rfl, Nat.le_of_ble_eq_true rfl⟩ m_433 m_434 rfl d_R_object_14 rfl rfl ct_0 (Nat.zero_le _) (Nat.zero_le _) ?_
    refine gw.cs (c2 := 0) (s2 := 0) rfl rfl ?_
    refine g_if_eq hE d_R_object_17 (fun c7 => ?_) (fun c7 => ?_)
    · replace h := if_t c7 h
      refine g_iconst hE d_R_object_29 ki_m1 ?_
      cases h
      exact g_iret hE d_R_object_30 rfl rfl
    · replace h := if_f c7 h
      exact gw.less (lv' := [some (va_rf (some o)), some (.int v1), some (.long v2), none]) (And.intro rfl (And.intro rfl (And.intro rfl trivial))) (w_R_object_J20 hE d2 v1 v2 h)
theorem d_R_value_0 : dc b_R_value 0 (.aload_n 0) 1 1 := ⟨by decide +kernel, rfl⟩
theorem d_R_value_1 : dc b_R_value 1 (.iconst 0) 1 2 := ⟨by decide +kernel, rfl⟩
theorem d_R_value_2 : dc b_R_value 2 (.putfield 7) 3 5 := ⟨by decide +kernel, rfl⟩
theorem d_R_value_5 : dc b_R_value 5 (.iload_n 1) 1 6 := ⟨by decide +kernel, rfl⟩
theorem d_R_value_6 : db b_R_value 6 (.ifCond .lt 20) 20 26 9 := ⟨by decide +kernel, by decide, rfl⟩
theorem d_R_value_9 : dc b_R_value 9 (.iload_n 1) 1 10 := ⟨by decide +kernel, rfl⟩
theorem d_R_value_10 : dc b_R_value 10 (.aload_n 0) 1 11 := ⟨by decide +kernel, rfl⟩
theorem d_R_value_11 : dc b_R_value 11 (.getfield 66) 3 14 := ⟨by decide +kernel, rfl⟩
theorem d_R_value_14 : db b_R_value 14 (.if_icmp .ge 12) 12 26 17 := ⟨by decide +kernel, by decide, rfl⟩
theorem d_R_value_17 : dc b_R_value 17 (.iload_n 2) 1 18 := ⟨by decide +kernel, rfl⟩
theorem d_R_value_18 : db b_R_value 18 (.ifCond .lt 8) 8 26 21 := ⟨by decide +kernel, by decide, rfl⟩
theorem d_R_value_21 : dc b_R_value 21 (.iload_n 2) 1 22 := ⟨by decide +kernel, rfl⟩
theorem d_R_value_22 : dc b_R_value 22 (.iconst 1) 1 23 := ⟨by decide +kernel, rfl⟩
theorem d_R_value_23 : db b_R_value 23 (.if_icmp .le 7) 7 30 26 := ⟨by decide +kernel, by decide, rfl⟩
theorem d_R_value_26 : dc b_R_value 26 (.ldc2_w 142) 3 29 := ⟨by decide +kernel, rfl⟩
theorem d_R_value_29 : dc b_R_value 29 (.lreturn) 1 30 := ⟨by decide +kernel, rfl⟩
theorem d_R_value_30 : dc b_R_value 30 (.iload_n 2) 1 31 := ⟨by decide +kernel, rfl⟩
theorem d_R_value_31 : db b_R_value 31 (.ifCond .ne 13) 13 44 34 := ⟨by decide +kernel, by decide, rfl⟩
theorem d_R_value_34 : dc b_R_value 34 (.aload_n 0) 1 35 := ⟨by decide +kernel, rfl⟩
theorem d_R_value_35 : dc b_R_value 35 (.getfield 69) 3 38 := ⟨by decide +kernel, rfl⟩
theorem d_R_value_38 : dc b_R_value 38 (.iload_n 1) 1 39 := ⟨by decide +kernel, rfl⟩
theorem d_R_value_39 : dc b_R_value 39 (.iaload) 1 40 := ⟨by decide +kernel, rfl⟩
theorem d_R_value_40 : dc b_R_value 40 (.i2l) 1 41 := ⟨by decide +kernel, rfl⟩
theorem d_R_value_41 : db b_R_value 41 (.goto 9) 9 50 44 := ⟨by decide +kernel, by decide, rfl⟩
theorem d_R_value_44 : dc b_R_value 44 (.aload_n 0) 1 45 := ⟨by decide +kernel, rfl⟩
theorem d_R_value_45 : dc b_R_value 45 (.getfield 72) 3 48 := ⟨by decide +kernel, rfl⟩
theorem d_R_value_48 : dc b_R_value 48 (.iload_n 1) 1 49 := ⟨by decide +kernel, rfl⟩
theorem d_R_value_49 : dc b_R_value 49 (.laload) 1 50 := ⟨by decide +kernel, rfl⟩
theorem d_R_value_50 : dc b_R_value 50 (.lreturn) 1 51 := ⟨by decide +kernel, rfl⟩
set_option maxRecDepth 100000 in
def f_R_value (S : gS) (d : gD) (o : Nat) (v1 : Int32) (v2 : Int32) : Option (Int64 × gD) :=
  kd S o 10 <|
  lt_ (wI d o 0 0) fun d2 =>
  if v1 < 0 then (
    some ((-1), d2))
  else (
    lt_ (dI d2 o 18) fun x3 =>
    if x3 ≤ v1 then (
      some ((-1), d2))
    else (
      if v2 < 0 then (
        some ((-1), d2))
      else (
        if v2 ≤ 1 then (
          if v2 = 0 then (
            lt_ (sP S o 19) fun x9 =>
            nn x9 fun a10 =>
            kd S a10 50 <|
            gi v1 (sN S a10) <|
            lt_ (dI d2 a10 v1.toNatClampNeg) fun x13 =>
            some (Int32.toInt64 x13, d2))
          else (
            lt_ (sP S o 20) fun x4 =>
            nn x4 fun a5 =>
            kd S a5 51 <|
            gi v1 (sN S a5) <|
            lt_ (dL d2 a5 v1.toNatClampNeg) fun x8 =>
            some (x8, d2)))
        else (
          some ((-1), d2)))))
set_option maxRecDepth 100000 in
set_option maxHeartbeats 4000000 in
theorem c_R_value (l : Launch) (G : gG) {S : gS} {d : gD} {o : Nat} {v1 : Int32} {v2 : Int32} {r : Int64} {d' : gD} (h : f_R_value S d o v1 v2 = some (r, d')) : GM l G y_R_value b_R_value 3 (some (.long)) 0 0 0 0 [.inr (.inr (some o)), .inl v1, .inl v2] S d (some (.long r)) S d' := by
  refine GM.of (by decide) (Nat.le_of_ble_eq_true rfl) ?_
  intro X hl0 hG0 hR0 hE0
  have hE : gE X b_R_value 3 "StandInMillModel" (some (.long)) "value" 0 0 := hE0
  unfold f_R_value at h
  refine gw.less (lv' := [some (va_rf (some o)), some (.int v1), some (.int v2)]) (And.intro rfl (And.intro rfl (And.intro rfl trivial))) ?_
  refine g_aload_n (i := 0) hE d_R_value_0 rfl rfl ?_
  refine g_iconst hE d_R_value_1 ki_0 ?_
  obtain ⟨k1, h⟩ := kd_s h
  refine g_putI 0 hE kc_R k1 (Nat.le_of_ble_eq_true rfl) rfl m_376 rfl (by decide +kernel) d_R_value_2 (fun d2 e => ?_)
  replace h := lt_i e h; clear e
  refine g_iload_n (i := 1) hE d_R_value_5 rfl rfl ?_
  refine g_if_lt hE d_R_value_6 (fun c18 => ?_) (fun c18 => ?_)
  · replace h := if_t c18 h
    refine g_ldc2 hE d_R_value_26 m_420 ?_
    cases h
    exact g_lret hE d_R_value_29 rfl rfl
  · replace h := if_f c18 h
    refine g_iload_n (i := 1) hE d_R_value_9 rfl rfl ?_
    refine g_aload_n (i := 0) hE d_R_value_10 rfl rfl ?_
    refine g_getI 18 hE kc_R k1 (Nat.le_of_ble_eq_true rfl) rfl m_395 d_R_value_11 (fun x3 e => ?_)
    replace h := lt_i e h; clear e
    refine g_icmp_ge hE d_R_value_14 (fun c17 => ?_) (fun c17 => ?_)
    · replace h := if_t c17 h
      refine g_ldc2 hE d_R_value_26 m_420 ?_
      cases h
      exact g_lret hE d_R_value_29 rfl rfl
    · replace h := if_f c17 h
      refine g_iload_n (i := 2) hE d_R_value_17 rfl rfl ?_
      refine g_if_lt hE d_R_value_18 (fun c16 => ?_) (fun c16 => ?_)
      · replace h := if_t c16 h
        refine g_ldc2 hE d_R_value_26 m_420 ?_
        cases h
        exact g_lret hE d_R_value_29 rfl rfl
      · replace h := if_f c16 h
        refine g_iload_n (i := 2) hE d_R_value_21 rfl rfl ?_
        refine g_iconst hE d_R_value_22 ki_1 ?_
        refine g_icmp_le hE d_R_value_23 (fun c15 => ?_) (fun c15 => ?_)
        · replace h := if_t c15 h
          refine g_iload_n (i := 2) hE d_R_value_30 rfl rfl ?_
          refine g_if_ne hE d_R_value_31 (fun c14 => ?_) (fun c14 => ?_)
          · replace h := if_f c14 h
            refine g_aload_n (i := 0) hE d_R_value_44 rfl rfl ?_
            refine g_getR 20 hE kc_R k1 (Nat.le_of_ble_eq_true rfl) rfl m_397 d_R_value_45 (fun x4 e => ?_)
            replace h := lt_i e h; clear e
            refine g_iload_n (i := 1) hE d_R_value_48 rfl rfl ?_
            obtain ⟨a5, rfl, h⟩ := nn_s h
            obtain ⟨k6, h⟩ := kd_s h
            obtain ⟨g7, h⟩ := gi_s h
            refine g_lald hE k6 g7 d_R_value_49 (fun x8 e => ?_)
            replace h := lt_i e h; clear e
            cases h
            exact g_lret hE d_R_value_50 rfl rfl
          · replace h := if_t c14 h
            refine g_aload_n (i := 0) hE d_R_value_34 rfl rfl ?_
            refine g_getR 19 hE kc_R k1 (Nat.le_of_ble_eq_true rfl) rfl m_396 d_R_value_35 (fun x9 e => ?_)
            replace h := lt_i e h; clear e
            refine g_iload_n (i := 1) hE d_R_value_38 rfl rfl ?_
            obtain ⟨a10, rfl, h⟩ := nn_s h
            obtain ⟨k11, h⟩ := kd_s h
            obtain ⟨g12, h⟩ := gi_s h
            refine g_iald hE k11 g12 d_R_value_39 (fun x13 e => ?_)
            replace h := lt_i e h; clear e
            refine g_i2l hE d_R_value_40 ?_
            refine g_goto hE d_R_value_41 ?_
            cases h
            exact g_lret hE d_R_value_50 rfl rfl
        · replace h := if_f c15 h
          refine g_ldc2 hE d_R_value_26 m_420 ?_
          cases h
          exact g_lret hE d_R_value_29 rfl rfl
theorem d_R_below_0 : dc b_R_below 0 (.aload_n 0) 1 1 := ⟨by decide +kernel, rfl⟩
theorem d_R_below_1 : dc b_R_below 1 (.iconst 0) 1 2 := ⟨by decide +kernel, rfl⟩
theorem d_R_below_2 : dc b_R_below 2 (.putfield 7) 3 5 := ⟨by decide +kernel, rfl⟩
theorem d_R_below_5 : dc b_R_below 5 (.aload_n 0) 1 6 := ⟨by decide +kernel, rfl⟩
theorem d_R_below_6 : dc b_R_below 6 (.iload_n 1) 1 7 := ⟨by decide +kernel, rfl⟩
theorem d_R_below_7 : dc b_R_below 7 (.iload_n 2) 1 8 := ⟨by decide +kernel, rfl⟩
theorem d_R_below_8 : dc b_R_below 8 (.invokevirtual 184) 3 11 := ⟨by decide +kernel, rfl⟩
theorem d_R_below_11 : dc b_R_below 11 (.ireturn) 1 12 := ⟨by decide +kernel, rfl⟩
set_option maxRecDepth 100000 in
def f_R_below (S : gS) (d : gD) (o : Nat) (v1 : Int32) (v2 : Int32) : Option (Int32 × gD) :=
  kd S o 10 <|
  lt_ (wI d o 0 0) fun d2 =>
  bd (f_R_isBelow S d2 o v1 v2) fun x3 =>
  nb x3 <|
  some (x3, d2)
set_option maxRecDepth 100000 in
set_option maxHeartbeats 4000000 in
theorem c_R_below (l : Launch) (G : gG) {S : gS} {d : gD} {o : Nat} {v1 : Int32} {v2 : Int32} {r : Int32} {d' : gD} (h : f_R_below S d o v1 v2 = some (r, d')) : GM l G y_R_below b_R_below 3 (some (.boolean)) 3 67 0 0 [.inr (.inr (some o)), .inl v1, .inl v2] S d (some (.int r)) S d' := by
  refine GM.of (by decide) (Nat.le_of_ble_eq_true rfl) ?_
  intro X hl0 hG0 hR0 hE0
  have hE : gE X b_R_below 3 "StandInMillModel" (some (.boolean)) "below" 3 67 := hE0
  unfold f_R_below at h
  refine gw.less (lv' := [some (va_rf (some o)), some (.int v1), some (.int v2)]) (And.intro rfl (And.intro rfl (And.intro rfl trivial))) ?_
  refine g_aload_n (i := 0) hE d_R_below_0 rfl rfl ?_
  refine g_iconst hE d_R_below_1 ki_0 ?_
  obtain ⟨k1, h⟩ := kd_s h
  refine g_putI 0 hE kc_R k1 (Nat.le_of_ble_eq_true rfl) rfl m_376 rfl (by decide +kernel) d_R_below_2 (fun d2 e => ?_)
  replace h := lt_i e h; clear e
  refine g_aload_n (i := 0) hE d_R_below_5 rfl rfl ?_
  refine g_iload_n (i := 1) hE d_R_below_6 rfl rfl ?_
  refine g_iload_n (i := 2) hE d_R_below_7 rfl rfl ?_
  obtain ⟨x3, e4, h⟩ := bd_s h
  refine g_callV (av := [.inr (.inr (some o)), .inl v1, .inl v2]) (as := [.inl v1, .inl v2]) (stk := [.int x3]) [] hE (c_R_isBelow (xl X) (xG X) e4) ky_R_isBelow ⟨Nat.le_of_ble_eq_true rfl, Nat.le_of_ble_eq_true rfl⟩ rfl kc_R k1 m_447 m_448 m_449 rfl d_R_below_8 rfl rfl ct_0 (Nat.zero_le _) (Nat.zero_le _) ?_
  refine gw.cs (c2 := 0) (s2 := 0) rfl rfl ?_
  obtain ⟨g5, h⟩ := nb_s h
  cases h
  exact g_zret hE g5 d_R_below_11 rfl rfl
theorem d_R_find_0 : dc b_R_find 0 (.aload_n 0) 1 1 := ⟨by decide +kernel, rfl⟩
theorem d_R_find_1 : dc b_R_find 1 (.iconst 0) 1 2 := ⟨by decide +kernel, rfl⟩
theorem d_R_find_2 : dc b_R_find 2 (.putfield 7) 3 5 := ⟨by decide +kernel, rfl⟩
theorem d_R_find_5 : dc b_R_find 5 (.iload_n 1) 1 6 := ⟨by decide +kernel, rfl⟩
theorem d_R_find_6 : db b_R_find 6 (.ifCond .lt 11) 11 17 9 := ⟨by decide +kernel, by decide, rfl⟩
theorem d_R_find_9 : dc b_R_find 9 (.iload_n 1) 1 10 := ⟨by decide +kernel, rfl⟩
theorem d_R_find_10 : dc b_R_find 10 (.aload_n 0) 1 11 := ⟨by decide +kernel, rfl⟩
theorem d_R_find_11 : dc b_R_find 11 (.getfield 13) 3 14 := ⟨by decide +kernel, rfl⟩
theorem d_R_find_14 : db b_R_find 14 (.if_icmp .lt 5) 5 19 17 := ⟨by decide +kernel, by decide, rfl⟩
theorem d_R_find_17 : dc b_R_find 17 (.iconst (-1)) 1 18 := ⟨by decide +kernel, rfl⟩
theorem d_R_find_18 : dc b_R_find 18 (.ireturn) 1 19 := ⟨by decide +kernel, rfl⟩
theorem d_R_find_19 : dc b_R_find 19 (.aload_n 0) 1 20 := ⟨by decide +kernel, rfl⟩
theorem d_R_find_20 : dc b_R_find 20 (.iload_n 1) 1 21 := ⟨by decide +kernel, rfl⟩
theorem d_R_find_21 : dc b_R_find 21 (.iload_n 2) 1 22 := ⟨by decide +kernel, rfl⟩
theorem d_R_find_22 : dc b_R_find 22 (.iload_n 3) 1 23 := ⟨by decide +kernel, rfl⟩
theorem d_R_find_23 : dc b_R_find 23 (.invokevirtual 177) 3 26 := ⟨by decide +kernel, rfl⟩
theorem d_R_find_26 : dc b_R_find 26 (.istore 4) 2 28 := ⟨by decide +kernel, rfl⟩
theorem d_R_find_28 : dc b_R_find 28 (.iload 4) 2 30 := ⟨by decide +kernel, rfl⟩
theorem d_R_find_30 : db b_R_find 30 (.ifCond .ge 7) 7 37 33 := ⟨by decide +kernel, by decide, rfl⟩
theorem d_R_find_33 : dc b_R_find 33 (.iconst (-1)) 1 34 := ⟨by decide +kernel, rfl⟩
theorem d_R_find_34 : db b_R_find 34 (.goto 8) 8 42 37 := ⟨by decide +kernel, by decide, rfl⟩
theorem d_R_find_37 : dc b_R_find 37 (.bipush 24) 2 39 := ⟨by decide +kernel, rfl⟩
theorem d_R_find_39 : dc b_R_find 39 (.iload 4) 2 41 := ⟨by decide +kernel, rfl⟩
theorem d_R_find_41 : dc b_R_find 41 (.iadd) 1 42 := ⟨by decide +kernel, rfl⟩
theorem d_R_find_42 : dc b_R_find 42 (.ireturn) 1 43 := ⟨by decide +kernel, rfl⟩
set_option maxRecDepth 100000 in
def f_R_find (S : gS) (d : gD) (o : Nat) (v1 : Int32) (v2 : Int32) (v3 : Int32) : Option (Int32 × gD) :=
  kd S o 10 <|
  lt_ (wI d o 0 0) fun d2 =>
  if v1 < 0 then (
    some ((-1), d2))
  else (
    lt_ (dI d2 o 1) fun x3 =>
    if v1 < x3 then (
      bd (f_R_finds S d2 o v1 v2 v3) fun x4 =>
      if 0 ≤ x4 then (
        some (24 + x4, d2))
      else (
        some ((-1), d2)))
    else (
      some ((-1), d2)))
set_option maxRecDepth 100000 in
set_option maxHeartbeats 4000000 in
theorem c_R_find (l : Launch) (G : gG) {S : gS} {d : gD} {o : Nat} {v1 : Int32} {v2 : Int32} {v3 : Int32} {r : Int32} {d' : gD} (h : f_R_find S d o v1 v2 v3 = some (r, d')) : GM l G y_R_find b_R_find 5 (some (.int)) 2 50 0 0 [.inr (.inr (some o)), .inl v1, .inl v2, .inl v3] S d (some (.int r)) S d' := by
  refine GM.of (by decide) (Nat.le_of_ble_eq_true rfl) ?_
  intro X hl0 hG0 hR0 hE0
  have hE : gE X b_R_find 5 "StandInMillModel" (some (.int)) "find" 2 50 := hE0
  unfold f_R_find at h
  refine gw.less (lv' := [some (va_rf (some o)), some (.int v1), some (.int v2), some (.int v3), none]) (And.intro rfl (And.intro rfl (And.intro rfl (And.intro rfl trivial)))) ?_
  refine g_aload_n (i := 0) hE d_R_find_0 rfl rfl ?_
  refine g_iconst hE d_R_find_1 ki_0 ?_
  obtain ⟨k1, h⟩ := kd_s h
  refine g_putI 0 hE kc_R k1 (Nat.le_of_ble_eq_true rfl) rfl m_376 rfl (by decide +kernel) d_R_find_2 (fun d2 e => ?_)
  replace h := lt_i e h; clear e
  refine g_iload_n (i := 1) hE d_R_find_5 rfl rfl ?_
  refine g_if_lt hE d_R_find_6 (fun c8 => ?_) (fun c8 => ?_)
  · replace h := if_t c8 h
    refine g_iconst hE d_R_find_17 ki_m1 ?_
    cases h
    exact g_iret hE d_R_find_18 rfl rfl
  · replace h := if_f c8 h
    refine g_iload_n (i := 1) hE d_R_find_9 rfl rfl ?_
    refine g_aload_n (i := 0) hE d_R_find_10 rfl rfl ?_
    refine g_getI 1 hE kc_R k1 (Nat.le_of_ble_eq_true rfl) rfl m_377 d_R_find_11 (fun x3 e => ?_)
    replace h := lt_i e h; clear e
    refine g_icmp_lt hE d_R_find_14 (fun c7 => ?_) (fun c7 => ?_)
    · replace h := if_t c7 h
      refine g_aload_n (i := 0) hE d_R_find_19 rfl rfl ?_
      refine g_iload_n (i := 1) hE d_R_find_20 rfl rfl ?_
      refine g_iload_n (i := 2) hE d_R_find_21 rfl rfl ?_
      refine g_iload_n (i := 3) hE d_R_find_22 rfl rfl ?_
      obtain ⟨x4, e5, h⟩ := bd_s h
      refine g_callV (av := [.inr (.inr (some o)), .inl v1, .inl v2, .inl v3]) (as := [.inl v1, .inl v2, .inl v3]) (stk := [.int x4]) [] hE (c_R_finds (xl X) (xG X) e5) ky_R_finds ⟨Nat.le_of_ble_eq_true rfl, Nat.le_of_ble_eq_true rfl⟩ rfl kc_R k1 m_441 m_442 m_443 rfl d_R_find_23 rfl rfl ct_0 (Nat.zero_le _) (Nat.zero_le _) ?_
      refine gw.cs (c2 := 0) (s2 := 0) rfl rfl ?_
      refine g_istore (i := 4) (lv' := [some (va_rf (some o)), some (.int v1), some (.int v2), some (.int v3), some (.int x4)]) hE d_R_find_26 (Nat.le_of_ble_eq_true rfl) ⟨rfl, Nat.le_of_ble_eq_true rfl⟩ (lvp_i rfl) ?_
      refine g_iload (i := 4) hE d_R_find_28 rfl ?_
      refine g_if_ge hE d_R_find_30 (fun c6 => ?_) (fun c6 => ?_)
      · replace h := if_t c6 h
        refine g_bipush hE d_R_find_37 kb_24 ?_
        refine g_iload (i := 4) hE d_R_find_39 rfl ?_
        refine g_iadd hE d_R_find_41 ?_
        cases h
        exact g_iret hE d_R_find_42 rfl rfl
      · replace h := if_f c6 h
        refine g_iconst hE d_R_find_33 ki_m1 ?_
        refine g_goto hE d_R_find_34 ?_
        cases h
        exact g_iret hE d_R_find_42 rfl rfl
    · replace h := if_f c7 h
      refine g_iconst hE d_R_find_17 ki_m1 ?_
      cases h
      exact g_iret hE d_R_find_18 rfl rfl
