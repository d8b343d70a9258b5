theorem d_R_catchFor_0 : dc b_R_catchFor 0 (.aload_n 0) 1 1 := ⟨by decide +kernel, rfl⟩
theorem d_R_catchFor_1 : dc b_R_catchFor 1 (.iconst 2) 1 2 := ⟨by decide +kernel, rfl⟩
theorem d_R_catchFor_2 : dc b_R_catchFor 2 (.putfield 124) 3 5 := ⟨by decide +kernel, rfl⟩
theorem d_R_catchFor_5 : dc b_R_catchFor 5 (.aload_n 0) 1 6 := ⟨by decide +kernel, rfl⟩
theorem d_R_catchFor_6 : dc b_R_catchFor 6 (.getfield 127) 3 9 := ⟨by decide +kernel, rfl⟩
theorem d_R_catchFor_9 : dc b_R_catchFor 9 (.iconst 0) 1 10 := ⟨by decide +kernel, rfl⟩
theorem d_R_catchFor_10 : dc b_R_catchFor 10 (.bipush 9) 2 12 := ⟨by decide +kernel, rfl⟩
theorem d_R_catchFor_12 : dc b_R_catchFor 12 (.iastore) 1 13 := ⟨by decide +kernel, rfl⟩
theorem d_R_catchFor_13 : dc b_R_catchFor 13 (.aload_n 0) 1 14 := ⟨by decide +kernel, rfl⟩
theorem d_R_catchFor_14 : dc b_R_catchFor 14 (.getfield 127) 3 17 := ⟨by decide +kernel, rfl⟩
theorem d_R_catchFor_17 : dc b_R_catchFor 17 (.iconst 1) 1 18 := ⟨by decide +kernel, rfl⟩
theorem d_R_catchFor_18 : dc b_R_catchFor 18 (.bipush 10) 2 20 := ⟨by decide +kernel, rfl⟩
theorem d_R_catchFor_20 : dc b_R_catchFor 20 (.iastore) 1 21 := ⟨by decide +kernel, rfl⟩
theorem d_R_catchFor_21 : dc b_R_catchFor 21 (.iconst 0) 1 22 := ⟨by decide +kernel, rfl⟩
theorem d_R_catchFor_22 : dc b_R_catchFor 22 (.istore_n 2) 1 23 := ⟨by decide +kernel, rfl⟩
theorem d_R_catchFor_23 : dc b_R_catchFor 23 (.iload_n 2) 1 24 := ⟨by decide +kernel, rfl⟩
theorem d_R_catchFor_24 : dc b_R_catchFor 24 (.aload_n 0) 1 25 := ⟨by decide +kernel, rfl⟩
theorem d_R_catchFor_25 : dc b_R_catchFor 25 (.getfield 115) 3 28 := ⟨by decide +kernel, rfl⟩
theorem d_R_catchFor_28 : dc b_R_catchFor 28 (.iload_n 1) 1 29 := ⟨by decide +kernel, rfl⟩
theorem d_R_catchFor_29 : dc b_R_catchFor 29 (.iaload) 1 30 := ⟨by decide +kernel, rfl⟩
theorem d_R_catchFor_30 : db b_R_catchFor 30 (.if_icmp .ge 160) 160 190 33 := ⟨by decide +kernel, by decide, rfl⟩
theorem d_R_catchFor_33 : dc b_R_catchFor 33 (.aload_n 0) 1 34 := ⟨by decide +kernel, rfl⟩
theorem d_R_catchFor_34 : dc b_R_catchFor 34 (.getfield 112) 3 37 := ⟨by decide +kernel, rfl⟩
theorem d_R_catchFor_37 : dc b_R_catchFor 37 (.bipush 16) 2 39 := ⟨by decide +kernel, rfl⟩
theorem d_R_catchFor_39 : dc b_R_catchFor 39 (.iload_n 1) 1 40 := ⟨by decide +kernel, rfl⟩
theorem d_R_catchFor_40 : dc b_R_catchFor 40 (.imul) 1 41 := ⟨by decide +kernel, rfl⟩
theorem d_R_catchFor_41 : dc b_R_catchFor 41 (.iload_n 2) 1 42 := ⟨by decide +kernel, rfl⟩
theorem d_R_catchFor_42 : dc b_R_catchFor 42 (.iadd) 1 43 := ⟨by decide +kernel, rfl⟩
theorem d_R_catchFor_43 : dc b_R_catchFor 43 (.iaload) 1 44 := ⟨by decide +kernel, rfl⟩
theorem d_R_catchFor_44 : dc b_R_catchFor 44 (.istore_n 3) 1 45 := ⟨by decide +kernel, rfl⟩
theorem d_R_catchFor_45 : dc b_R_catchFor 45 (.iload_n 3) 1 46 := ⟨by decide +kernel, rfl⟩
theorem d_R_catchFor_46 : dc b_R_catchFor 46 (.bipush 8) 2 48 := ⟨by decide +kernel, rfl⟩
theorem d_R_catchFor_48 : db b_R_catchFor 48 (.if_icmp .ne 9) 9 57 51 := ⟨by decide +kernel, by decide, rfl⟩
theorem d_R_catchFor_51 : dc b_R_catchFor 51 (.aload_n 0) 1 52 := ⟨by decide +kernel, rfl⟩
theorem d_R_catchFor_52 : dc b_R_catchFor 52 (.iconst 0) 1 53 := ⟨by decide +kernel, rfl⟩
theorem d_R_catchFor_53 : dc b_R_catchFor 53 (.putfield 124) 3 56 := ⟨by decide +kernel, rfl⟩
theorem d_R_catchFor_56 : dc b_R_catchFor 56 (.return_) 1 57 := ⟨by decide +kernel, rfl⟩
theorem d_R_catchFor_57 : dc b_R_catchFor 57 (.aload_n 0) 1 58 := ⟨by decide +kernel, rfl⟩
theorem d_R_catchFor_58 : dc b_R_catchFor 58 (.iload_n 3) 1 59 := ⟨by decide +kernel, rfl⟩
theorem d_R_catchFor_59 : dc b_R_catchFor 59 (.bipush 8) 2 61 := ⟨by decide +kernel, rfl⟩
theorem d_R_catchFor_61 : dc b_R_catchFor 61 (.invokevirtual 184) 3 64 := ⟨by decide +kernel, rfl⟩
theorem d_R_catchFor_64 : db b_R_catchFor 64 (.ifCond .ne 7) 7 71 67 := ⟨by decide +kernel, by decide, rfl⟩
theorem d_R_catchFor_67 : dc b_R_catchFor 67 (.iconst 1) 1 68 := ⟨by decide +kernel, rfl⟩
theorem d_R_catchFor_68 : db b_R_catchFor 68 (.goto 4) 4 72 71 := ⟨by decide +kernel, by decide, rfl⟩
theorem d_R_catchFor_71 : dc b_R_catchFor 71 (.iconst 0) 1 72 := ⟨by decide +kernel, rfl⟩
theorem d_R_catchFor_72 : dc b_R_catchFor 72 (.istore 4) 2 74 := ⟨by decide +kernel, rfl⟩
theorem d_R_catchFor_74 : dc b_R_catchFor 74 (.iconst 0) 1 75 := ⟨by decide +kernel, rfl⟩
theorem d_R_catchFor_75 : dc b_R_catchFor 75 (.istore 5) 2 77 := ⟨by decide +kernel, rfl⟩
theorem d_R_catchFor_77 : dc b_R_catchFor 77 (.iload 5) 2 79 := ⟨by decide +kernel, rfl⟩
theorem d_R_catchFor_79 : dc b_R_catchFor 79 (.aload_n 0) 1 80 := ⟨by decide +kernel, rfl⟩
theorem d_R_catchFor_80 : dc b_R_catchFor 80 (.getfield 124) 3 83 := ⟨by decide +kernel, rfl⟩
theorem d_R_catchFor_83 : db b_R_catchFor 83 (.if_icmp .ge 27) 27 110 86 := ⟨by decide +kernel, by decide, rfl⟩
theorem d_R_catchFor_86 : dc b_R_catchFor 86 (.aload_n 0) 1 87 := ⟨by decide +kernel, rfl⟩
theorem d_R_catchFor_87 : dc b_R_catchFor 87 (.iload_n 3) 1 88 := ⟨by decide +kernel, rfl⟩
theorem d_R_catchFor_88 : dc b_R_catchFor 88 (.aload_n 0) 1 89 := ⟨by decide +kernel, rfl⟩
theorem d_R_catchFor_89 : dc b_R_catchFor 89 (.getfield 127) 3 92 := ⟨by decide +kernel, rfl⟩
theorem d_R_catchFor_92 : dc b_R_catchFor 92 (.iload 5) 2 94 := ⟨by decide +kernel, rfl⟩
theorem d_R_catchFor_94 : dc b_R_catchFor 94 (.iaload) 1 95 := ⟨by decide +kernel, rfl⟩
theorem d_R_catchFor_95 : dc b_R_catchFor 95 (.invokevirtual 184) 3 98 := ⟨by decide +kernel, rfl⟩
theorem d_R_catchFor_98 : db b_R_catchFor 98 (.ifCond .eq 6) 6 104 101 := ⟨by decide +kernel, by decide, rfl⟩
theorem d_R_catchFor_101 : dc b_R_catchFor 101 (.iconst 1) 1 102 := ⟨by decide +kernel, rfl⟩
theorem d_R_catchFor_102 : dc b_R_catchFor 102 (.istore 4) 2 104 := ⟨by decide +kernel, rfl⟩
theorem d_R_catchFor_104 : dc b_R_catchFor 104 (.iinc 5 1) 3 107 := ⟨by decide +kernel, rfl⟩
theorem d_R_catchFor_107 : db b_R_catchFor 107 (.goto (-30)) (-30) 77 110 := ⟨by decide +kernel, by decide, rfl⟩
theorem d_R_catchFor_110 : dc b_R_catchFor 110 (.iload 4) 2 112 := ⟨by decide +kernel, rfl⟩
theorem d_R_catchFor_112 : db b_R_catchFor 112 (.ifCond .ne 72) 72 184 115 := ⟨by decide +kernel, by decide, rfl⟩
theorem d_R_catchFor_115 : dc b_R_catchFor 115 (.iconst 0) 1 116 := ⟨by decide +kernel, rfl⟩
theorem d_R_catchFor_116 : dc b_R_catchFor 116 (.istore 5) 2 118 := ⟨by decide +kernel, rfl⟩
theorem d_R_catchFor_118 : dc b_R_catchFor 118 (.iconst 0) 1 119 := ⟨by decide +kernel, rfl⟩
theorem d_R_catchFor_119 : dc b_R_catchFor 119 (.istore 6) 2 121 := ⟨by decide +kernel, rfl⟩
theorem d_R_catchFor_121 : dc b_R_catchFor 121 (.iload 6) 2 123 := ⟨by decide +kernel, rfl⟩
theorem d_R_catchFor_123 : dc b_R_catchFor 123 (.aload_n 0) 1 124 := ⟨by decide +kernel, rfl⟩
theorem d_R_catchFor_124 : dc b_R_catchFor 124 (.getfield 124) 3 127 := ⟨by decide +kernel, rfl⟩
theorem d_R_catchFor_127 : db b_R_catchFor 127 (.if_icmp .ge 41) 41 168 130 := ⟨by decide +kernel, by decide, rfl⟩
theorem d_R_catchFor_130 : dc b_R_catchFor 130 (.aload_n 0) 1 131 := ⟨by decide +kernel, rfl⟩
theorem d_R_catchFor_131 : dc b_R_catchFor 131 (.aload_n 0) 1 132 := ⟨by decide +kernel, rfl⟩
theorem d_R_catchFor_132 : dc b_R_catchFor 132 (.getfield 127) 3 135 := ⟨by decide +kernel, rfl⟩
theorem d_R_catchFor_135 : dc b_R_catchFor 135 (.iload 6) 2 137 := ⟨by decide +kernel, rfl⟩
theorem d_R_catchFor_137 : dc b_R_catchFor 137 (.iaload) 1 138 := ⟨by decide +kernel, rfl⟩
theorem d_R_catchFor_138 : dc b_R_catchFor 138 (.iload_n 3) 1 139 := ⟨by decide +kernel, rfl⟩
theorem d_R_catchFor_139 : dc b_R_catchFor 139 (.invokevirtual 184) 3 142 := ⟨by decide +kernel, rfl⟩
theorem d_R_catchFor_142 : db b_R_catchFor 142 (.ifCond .ne 20) 20 162 145 := ⟨by decide +kernel, by decide, rfl⟩
theorem d_R_catchFor_145 : dc b_R_catchFor 145 (.aload_n 0) 1 146 := ⟨by decide +kernel, rfl⟩
theorem d_R_catchFor_146 : dc b_R_catchFor 146 (.getfield 127) 3 149 := ⟨by decide +kernel, rfl⟩
theorem d_R_catchFor_149 : dc b_R_catchFor 149 (.iload 5) 2 151 := ⟨by decide +kernel, rfl⟩
theorem d_R_catchFor_151 : dc b_R_catchFor 151 (.aload_n 0) 1 152 := ⟨by decide +kernel, rfl⟩
theorem d_R_catchFor_152 : dc b_R_catchFor 152 (.getfield 127) 3 155 := ⟨by decide +kernel, rfl⟩
theorem d_R_catchFor_155 : dc b_R_catchFor 155 (.iload 6) 2 157 := ⟨by decide +kernel, rfl⟩
theorem d_R_catchFor_157 : dc b_R_catchFor 157 (.iaload) 1 158 := ⟨by decide +kernel, rfl⟩
theorem d_R_catchFor_158 : dc b_R_catchFor 158 (.iastore) 1 159 := ⟨by decide +kernel, rfl⟩
theorem d_R_catchFor_159 : dc b_R_catchFor 159 (.iinc 5 1) 3 162 := ⟨by decide +kernel, rfl⟩
theorem d_R_catchFor_162 : dc b_R_catchFor 162 (.iinc 6 1) 3 165 := ⟨by decide +kernel, rfl⟩
theorem d_R_catchFor_165 : db b_R_catchFor 165 (.goto (-44)) (-44) 121 168 := ⟨by decide +kernel, by decide, rfl⟩
theorem d_R_catchFor_168 : dc b_R_catchFor 168 (.aload_n 0) 1 169 := ⟨by decide +kernel, rfl⟩
theorem d_R_catchFor_169 : dc b_R_catchFor 169 (.getfield 127) 3 172 := ⟨by decide +kernel, rfl⟩
theorem d_R_catchFor_172 : dc b_R_catchFor 172 (.iload 5) 2 174 := ⟨by decide +kernel, rfl⟩
theorem d_R_catchFor_174 : dc b_R_catchFor 174 (.iload_n 3) 1 175 := ⟨by decide +kernel, rfl⟩
theorem d_R_catchFor_175 : dc b_R_catchFor 175 (.iastore) 1 176 := ⟨by decide +kernel, rfl⟩
theorem d_R_catchFor_176 : dc b_R_catchFor 176 (.aload_n 0) 1 177 := ⟨by decide +kernel, rfl⟩
theorem d_R_catchFor_177 : dc b_R_catchFor 177 (.iload 5) 2 179 := ⟨by decide +kernel, rfl⟩
theorem d_R_catchFor_179 : dc b_R_catchFor 179 (.iconst 1) 1 180 := ⟨by decide +kernel, rfl⟩
theorem d_R_catchFor_180 : dc b_R_catchFor 180 (.iadd) 1 181 := ⟨by decide +kernel, rfl⟩
theorem d_R_catchFor_181 : dc b_R_catchFor 181 (.putfield 124) 3 184 := ⟨by decide +kernel, rfl⟩
theorem d_R_catchFor_184 : dc b_R_catchFor 184 (.iinc 2 1) 3 187 := ⟨by decide +kernel, rfl⟩
theorem d_R_catchFor_187 : db b_R_catchFor 187 (.goto (-164)) (-164) 23 190 := ⟨by decide +kernel, by decide, rfl⟩
theorem d_R_catchFor_190 : dc b_R_catchFor 190 (.return_) 1 191 := ⟨by decide +kernel, rfl⟩
def f_R_catchFor_J104 (S : gS) (o : Nat) (kx110 : gD → Int32 → Int32 → Int32 → Int32 → Option (Unit × gD)) (kb : gD → Int32 → Int32 → Int32 → Int32 → Int32 → Option (Unit × gD)) (d : gD) (v1 : Int32) (v2 : Int32) (v3 : Int32) (v4 : Int32) (v5 : Int32) : Option (Unit × gD) :=
  kb d v1 v2 v3 v4 (v5 + 1)
set_option maxRecDepth 100000 in
set_option maxHeartbeats 4000000 in
theorem w_R_catchFor_J104 {X : GX} (hE : gE X b_R_catchFor 7 "StandInMillModel" none "catchFor" 3 67) {S : gS} {o : Nat} {r : Unit} {d' : gD} {kb : gD → Int32 → Int32 → Int32 → Int32 → Int32 → Option (Unit × gD)} {kx110 : gD → Int32 → Int32 → Int32 → Int32 → Option (Unit × gD)} (hkb : ∀ (d : gD) (v1 : Int32) (v2 : Int32) (v3 : Int32) (v4 : Int32) (v5 : Int32), kb d v1 v2 v3 v4 v5 = some (r, d') → gw X 0 0 (gQ X (none) S d' 0 0) S d 77 [some (va_rf (some o)), some (.int v1), some (.int v2), some (.int v3), some (.int v4), some (.int v5), none] []) (hkx110 : ∀ (d : gD) (v1 : Int32) (v2 : Int32) (v3 : Int32) (v4 : Int32), kx110 d v1 v2 v3 v4 = some (r, d') → gw X 0 0 (gQ X (none) S d' 0 0) S d 110 [some (va_rf (some o)), some (.int v1), some (.int v2), some (.int v3), some (.int v4), none, none] []) :
    ∀ (d : gD) (v1 : Int32) (v2 : Int32) (v3 : Int32) (v4 : Int32) (v5 : Int32), f_R_catchFor_J104 S o kx110 kb d v1 v2 v3 v4 v5 = some (r, d') → gw X 0 0 (gQ X (none) S d' 0 0) S d 104 [some (va_rf (some o)), some (.int v1), some (.int v2), some (.int v3), some (.int v4), some (.int v5), none] [] := by
  intro d v1 v2 v3 v4 v5 h
  unfold f_R_catchFor_J104 at h
  refine g_iinc (i := 5) (lv' := [some (va_rf (some o)), some (.int v1), some (.int v2), some (.int v3), some (.int v4), some (.int (v5 + 1)), none]) hE d_R_catchFor_104 ki_1 rfl (Nat.le_of_ble_eq_true rfl) ⟨rfl, Nat.le_of_ble_eq_true rfl⟩ (lvp_i rfl) ?_
  refine g_goto hE d_R_catchFor_107 ?_
  exact gw.less (lv' := [some (va_rf (some o)), some (.int v1), some (.int v2), some (.int v3), some (.int v4), some (.int (v5 + 1)), none]) (And.intro rfl (And.intro rfl (And.intro rfl (And.intro rfl (And.intro rfl (And.intro rfl trivial)))))) (hkb d v1 v2 v3 v4 (v5 + 1) h)
def f_R_catchFor_B77 (S : gS) (o : Nat) (kx110 : gD → Int32 → Int32 → Int32 → Int32 → Option (Unit × gD)) (kb : gD → Int32 → Int32 → Int32 → Int32 → Int32 → Option (Unit × gD)) (d : gD) (v1 : Int32) (v2 : Int32) (v3 : Int32) (v4 : Int32) (v5 : Int32) : Option (Unit × gD) :=
  kd S o 10 <|
  lt_ (dI d o 37) fun x2 =>
  if x2 ≤ v5 then (
    kx110 d v1 v2 v3 v4)
  else (
    lt_ (sP S o 38) fun x3 =>
    nn x3 fun a4 =>
    kd S a4 50 <|
    gi v5 (sN S a4) <|
    lt_ (dI d a4 v5.toNatClampNeg) fun x7 =>
    bd (f_R_isBelow S d o v3 x7) fun x8 =>
    if x8 = 0 then (
      f_R_catchFor_J104 S o kx110 kb d v1 v2 v3 v4 v5)
    else (
      f_R_catchFor_J104 S o kx110 kb d v1 v2 v3 1 v5))
set_option maxRecDepth 100000 in
set_option maxHeartbeats 4000000 in
theorem w_R_catchFor_B77 {X : GX} (hE : gE X b_R_catchFor 7 "StandInMillModel" none "catchFor" 3 67) {S : gS} {o : Nat} {r : Unit} {d' : gD} {kb : gD → Int32 → Int32 → Int32 → Int32 → Int32 → Option (Unit × gD)} {kx110 : gD → Int32 → Int32 → Int32 → Int32 → Option (Unit × gD)} (hkb : ∀ (d : gD) (v1 : Int32) (v2 : Int32) (v3 : Int32) (v4 : Int32) (v5 : Int32), kb d v1 v2 v3 v4 v5 = some (r, d') → gw X 0 0 (gQ X (none) S d' 0 0) S d 77 [some (va_rf (some o)), some (.int v1), some (.int v2), some (.int v3), some (.int v4), some (.int v5), none] []) (hkx110 : ∀ (d : gD) (v1 : Int32) (v2 : Int32) (v3 : Int32) (v4 : Int32), kx110 d v1 v2 v3 v4 = some (r, d') → gw X 0 0 (gQ X (none) S d' 0 0) S d 110 [some (va_rf (some o)), some (.int v1), some (.int v2), some (.int v3), some (.int v4), none, none] []) :
    ∀ (d : gD) (v1 : Int32) (v2 : Int32) (v3 : Int32) (v4 : Int32) (v5 : Int32), f_R_catchFor_B77 S o kx110 kb d v1 v2 v3 v4 v5 = some (r, d') → gw X 0 0 (gQ X (none) S d' 0 0) S d 77 [some (va_rf (some o)), some (.int v1), some (.int v2), some (.int v3), some (.int v4), some (.int v5), none] [] := by
  intro d v1 v2 v3 v4 v5 h
  unfold f_R_catchFor_B77 at h
  refine g_iload (i := 5) hE d_R_catchFor_77 rfl ?_
  refine g_aload_n (i := 0) hE d_R_catchFor_79 rfl rfl ?_
  obtain ⟨k1, h⟩ := kd_s h
  refine g_getI 37 hE kc_R k1 (Nat.le_of_ble_eq_true rfl) rfl m_414 d_R_catchFor_80 (fun x2 e => ?_)
  replace h := lt_i e h; clear e
  refine g_icmp_ge hE d_R_catchFor_83 (fun c11 => ?_) (fun c11 => ?_)
  · replace h := if_t c11 h
    exact gw.less (lv' := [some (va_rf (some o)), some (.int v1), some (.int v2), some (.int v3), some (.int v4), none, none]) (And.intro rfl (And.intro rfl (And.intro rfl (And.intro rfl (And.intro rfl trivial))))) (hkx110 d v1 v2 v3 v4 h)
  · replace h := if_f c11 h
    refine g_aload_n (i := 0) hE d_R_catchFor_86 rfl rfl ?_
    refine g_iload_n (i := 3) hE d_R_catchFor_87 rfl rfl ?_
    refine g_aload_n (i := 0) hE d_R_catchFor_88 rfl rfl ?_
    refine g_getR 38 hE kc_R k1 (Nat.le_of_ble_eq_true rfl) rfl m_415 d_R_catchFor_89 (fun x3 e => ?_)
    replace h := lt_i e h; clear e
    refine g_iload (i := 5) hE d_R_catchFor_92 rfl ?_
    obtain ⟨a4, rfl, h⟩ := nn_s h
    obtain ⟨k5, h⟩ := kd_s h
    obtain ⟨g6, h⟩ := gi_s h
    refine g_iald hE k5 g6 d_R_catchFor_94 (fun x7 e => ?_)
    replace h := lt_i e h; clear e
    obtain ⟨x8, e9, h⟩ := bd_s h
    refine g_callV (av := [.inr (.inr (some o)), .inl v3, .inl x7]) (as := [.inl v3, .inl x7]) (stk := [.int x8]) [] hE (c_R_isBelow (xl X) (xG X) e9) ky_R_isBelow ⟨Nat.le_of_ble_eq_true rfl, Nat.le_of_ble_eq_true rfl⟩ rfl kc_R k1 m_447 m_448 m_449 rfl d_R_catchFor_95 rfl rfl ct_0 (Nat.zero_le _) (Nat.zero_le _) ?_
    refine gw.cs (c2 := 0) (s2 := 0) rfl rfl ?_
    refine g_if_eq hE d_R_catchFor_98 (fun c10 => ?_) (fun c10 => ?_)
    · replace h := if_t c10 h
      exact gw.less (lv' := [some (va_rf (some o)), some (.int v1), some (.int v2), some (.int v3), some (.int v4), some (.int v5), none]) (And.intro rfl (And.intro rfl (And.intro rfl (And.intro rfl (And.intro rfl (And.intro rfl trivial)))))) (w_R_catchFor_J104 hE hkb hkx110 d v1 v2 v3 v4 v5 h)
    · replace h := if_f c10 h
      refine g_iconst hE d_R_catchFor_101 ki_1 ?_
      refine g_istore (i := 4) (lv' := [some (va_rf (some o)), some (.int v1), some (.int v2), some (.int v3), some (.int 1), some (.int v5), none]) hE d_R_catchFor_102 (Nat.le_of_ble_eq_true rfl) ⟨rfl, Nat.le_of_ble_eq_true rfl⟩ (lvp_i rfl) ?_
      exact gw.less (lv' := [some (va_rf (some o)), some (.int v1), some (.int v2), some (.int v3), some (.int 1), some (.int v5), none]) (And.intro rfl (And.intro rfl (And.intro rfl (And.intro rfl (And.intro rfl (And.intro rfl trivial)))))) (w_R_catchFor_J104 hE hkb hkx110 d v1 v2 v3 1 v5 h)
theorem w_R_catchFor_L77 {X : GX} (hE : gE X b_R_catchFor 7 "StandInMillModel" none "catchFor" 3 67) {S : gS} {o : Nat} {r : Unit} {d' : gD} {kx110 : gD → Int32 → Int32 → Int32 → Int32 → Option (Unit × gD)} (hkx110 : ∀ (d : gD) (v1 : Int32) (v2 : Int32) (v3 : Int32) (v4 : Int32), kx110 d v1 v2 v3 v4 = some (r, d') → gw X 0 0 (gQ X (none) S d' 0 0) S d 110 [some (va_rf (some o)), some (.int v1), some (.int v2), some (.int v3), some (.int v4), none, none] []) : ∀ (n : Nat) (d : gD) (v1 : Int32) (v2 : Int32) (v3 : Int32) (v4 : Int32) (v5 : Int32), itr (f_R_catchFor_B77 S o kx110) (fun _ _ _ _ _ _ => none) n d v1 v2 v3 v4 v5 = some (r, d') → gw X 0 0 (gQ X (none) S d' 0 0) S d 77 [some (va_rf (some o)), some (.int v1), some (.int v2), some (.int v3), some (.int v4), some (.int v5), none] [] := by
  intro n
  induction n with
  | zero => intro d v1 v2 v3 v4 v5 h; cases h
  | succ n ih => exact w_R_catchFor_B77 hE ih hkx110
def f_R_catchFor_J184 (S : gS) (o : Nat) (kx51 : gD → Option (Unit × gD)) (kb : gD → Int32 → Int32 → Option (Unit × gD)) (d : gD) (v1 : Int32) (v2 : Int32) : Option (Unit × gD) :=
  kb d v1 (v2 + 1)
set_option maxRecDepth 100000 in
set_option maxHeartbeats 4000000 in
theorem w_R_catchFor_J184 {X : GX} (hE : gE X b_R_catchFor 7 "StandInMillModel" none "catchFor" 3 67) {S : gS} {o : Nat} {r : Unit} {d' : gD} {kb : gD → Int32 → Int32 → Option (Unit × gD)} {kx51 : gD → Option (Unit × gD)} (hkb : ∀ (d : gD) (v1 : Int32) (v2 : Int32), kb d v1 v2 = some (r, d') → gw X 0 0 (gQ X (none) S d' 0 0) S d 23 [some (va_rf (some o)), some (.int v1), some (.int v2), none, none, none, none] []) (hkx51 : ∀ (d : gD), kx51 d = some (r, d') → gw X 0 0 (gQ X (none) S d' 0 0) S d 51 [some (va_rf (some o)), none, none, none, none, none, none] []) :
    ∀ (d : gD) (v1 : Int32) (v2 : Int32), f_R_catchFor_J184 S o kx51 kb d v1 v2 = some (r, d') → gw X 0 0 (gQ X (none) S d' 0 0) S d 184 [some (va_rf (some o)), some (.int v1), some (.int v2), none, none, none, none] [] := by
  intro d v1 v2 h
  unfold f_R_catchFor_J184 at h
  refine g_iinc (i := 2) (lv' := [some (va_rf (some o)), some (.int v1), some (.int (v2 + 1)), none, none, none, none]) hE d_R_catchFor_184 ki_1 rfl (Nat.le_of_ble_eq_true rfl) ⟨rfl, Nat.le_of_ble_eq_true rfl⟩ (lvp_i rfl) ?_
  refine g_goto hE d_R_catchFor_187 ?_
  exact gw.less (lv' := [some (va_rf (some o)), some (.int v1), some (.int (v2 + 1)), none, none, none, none]) (And.intro rfl (And.intro rfl (And.intro rfl trivial))) (hkb d v1 (v2 + 1) h)
def f_R_catchFor_J162 (S : gS) (o : Nat) (kx168 : gD → Int32 → Int32 → Int32 → Int32 → Option (Unit × gD)) (kb : gD → Int32 → Int32 → Int32 → Int32 → Int32 → Option (Unit × gD)) (d : gD) (v1 : Int32) (v2 : Int32) (v3 : Int32) (v5 : Int32) (v6 : Int32) : Option (Unit × gD) :=
  kb d v1 v2 v3 v5 (v6 + 1)
set_option maxRecDepth 100000 in
set_option maxHeartbeats 4000000 in
theorem w_R_catchFor_J162 {X : GX} (hE : gE X b_R_catchFor 7 "StandInMillModel" none "catchFor" 3 67) {S : gS} {o : Nat} {r : Unit} {d' : gD} {kb : gD → Int32 → Int32 → Int32 → Int32 → Int32 → Option (Unit × gD)} {kx168 : gD → Int32 → Int32 → Int32 → Int32 → Option (Unit × gD)} (hkb : ∀ (d : gD) (v1 : Int32) (v2 : Int32) (v3 : Int32) (v5 : Int32) (v6 : Int32), kb d v1 v2 v3 v5 v6 = some (r, d') → gw X 0 0 (gQ X (none) S d' 0 0) S d 121 [some (va_rf (some o)), some (.int v1), some (.int v2), some (.int v3), none, some (.int v5), some (.int v6)] []) (hkx168 : ∀ (d : gD) (v1 : Int32) (v2 : Int32) (v3 : Int32) (v5 : Int32), kx168 d v1 v2 v3 v5 = some (r, d') → gw X 0 0 (gQ X (none) S d' 0 0) S d 168 [some (va_rf (some o)), some (.int v1), some (.int v2), some (.int v3), none, some (.int v5), none] []) :
    ∀ (d : gD) (v1 : Int32) (v2 : Int32) (v3 : Int32) (v5 : Int32) (v6 : Int32), f_R_catchFor_J162 S o kx168 kb d v1 v2 v3 v5 v6 = some (r, d') → gw X 0 0 (gQ X (none) S d' 0 0) S d 162 [some (va_rf (some o)), some (.int v1), some (.int v2), some (.int v3), none, some (.int v5), some (.int v6)] [] := by
  intro d v1 v2 v3 v5 v6 h
  unfold f_R_catchFor_J162 at h
  refine g_iinc (i := 6) (lv' := [some (va_rf (some o)), some (.int v1), some (.int v2), some (.int v3), none, some (.int v5), some (.int (v6 + 1))]) hE d_R_catchFor_162 ki_1 rfl (Nat.le_of_ble_eq_true rfl) ⟨rfl, Nat.le_of_ble_eq_true rfl⟩ (lvp_i rfl) ?_
  refine g_goto hE d_R_catchFor_165 ?_
  exact gw.less (lv' := [some (va_rf (some o)), some (.int v1), some (.int v2), some (.int v3), none, some (.int v5), some (.int (v6 + 1))]) (And.intro rfl (And.intro rfl (And.intro rfl (And.intro rfl (And.intro rfl (And.intro rfl trivial)))))) (hkb d v1 v2 v3 v5 (v6 + 1) h)
def f_R_catchFor_B121 (S : gS) (o : Nat) (kx168 : gD → Int32 → Int32 → Int32 → Int32 → Option (Unit × gD)) (kb : gD → Int32 → Int32 → Int32 → Int32 → Int32 → Option (Unit × gD)) (d : gD) (v1 : Int32) (v2 : Int32) (v3 : Int32) (v5 : Int32) (v6 : Int32) : Option (Unit × gD) :=
  kd S o 10 <|
  lt_ (dI d o 37) fun x2 =>
  if x2 ≤ v6 then (
    kx168 d v1 v2 v3 v5)
  else (
    lt_ (sP S o 38) fun x3 =>
    nn x3 fun a4 =>
    kd S a4 50 <|
    gi v6 (sN S a4) <|
    lt_ (dI d a4 v6.toNatClampNeg) fun x7 =>
    bd (f_R_isBelow S d o x7 v3) fun x8 =>
    if x8 = 0 then (
      lt_ (sP S o 38) fun x10 =>
      lt_ (sP S o 38) fun x11 =>
      nn x11 fun a12 =>
      kd S a12 50 <|
      gi v6 (sN S a12) <|
      lt_ (dI d a12 v6.toNatClampNeg) fun x15 =>
      nn x10 fun a16 =>
      kd S a16 50 <|
      gi v5 (sN S a16) <|
      lt_ (wI d a16 v5.toNatClampNeg x15) fun d19 =>
      f_R_catchFor_J162 S o kx168 kb d19 v1 v2 v3 (v5 + 1) v6)
    else (
      f_R_catchFor_J162 S o kx168 kb d v1 v2 v3 v5 v6))
set_option maxRecDepth 100000 in
set_option maxHeartbeats 4000000 in
theorem w_R_catchFor_B121 {X : GX} (hE : gE X b_R_catchFor 7 "StandInMillModel" none "catchFor" 3 67) {S : gS} {o : Nat} {r : Unit} {d' : gD} {kb : gD → Int32 → Int32 → Int32 → Int32 → Int32 → Option (Unit × gD)} {kx168 : gD → Int32 → Int32 → Int32 → Int32 → Option (Unit × gD)} (hkb : ∀ (d : gD) (v1 : Int32) (v2 : Int32) (v3 : Int32) (v5 : Int32) (v6 : Int32), kb d v1 v2 v3 v5 v6 = some (r, d') → gw X 0 0 (gQ X (none) S d' 0 0) S d 121 [some (va_rf (some o)), some (.int v1), some (.int v2), some (.int v3), none, some (.int v5), some (.int v6)] []) (hkx168 : ∀ (d : gD) (v1 : Int32) (v2 : Int32) (v3 : Int32) (v5 : Int32), kx168 d v1 v2 v3 v5 = some (r, d') → gw X 0 0 (gQ X (none) S d' 0 0) S d 168 [some (va_rf (some o)), some (.int v1), some (.int v2), some (.int v3), none, some (.int v5), none] []) :
    ∀ (d : gD) (v1 : Int32) (v2 : Int32) (v3 : Int32) (v5 : Int32) (v6 : Int32), f_R_catchFor_B121 S o kx168 kb d v1 v2 v3 v5 v6 = some (r, d') → gw X 0 0 (gQ X (none) S d' 0 0) S d 121 [some (va_rf (some o)), some (.int v1), some (.int v2), some (.int v3), none, some (.int v5), some (.int v6)] [] := by
  intro d v1 v2 v3 v5 v6 h
  unfold f_R_catchFor_B121 at h
  refine g_iload (i := 6) hE d_R_catchFor_121 rfl ?_
  refine g_aload_n (i := 0) hE d_R_catchFor_123 rfl rfl ?_
  obtain ⟨k1, h⟩ := kd_s h
  refine g_getI 37 hE kc_R k1 (Nat.le_of_ble_eq_true rfl) rfl m_414 d_R_catchFor_124 (fun x2 e => ?_)
  replace h := lt_i e h; clear e
  refine g_icmp_ge hE d_R_catchFor_127 (fun c21 => ?_) (fun c21 => ?_)
  · replace h := if_t c21 h
    exact gw.less (lv' := [some (va_rf (some o)), some (.int v1), some (.int v2), some (.int v3), none, some (.int v5), none]) (And.intro rfl (And.intro rfl (And.intro rfl (And.intro rfl (And.intro rfl trivial))))) (hkx168 d v1 v2 v3 v5 h)
  · replace h := if_f c21 h
    refine g_aload_n (i := 0) hE d_R_catchFor_130 rfl rfl ?_
    refine g_aload_n (i := 0) hE d_R_catchFor_131 rfl rfl ?_
    refine g_getR 38 hE kc_R k1 (Nat.le_of_ble_eq_true rfl) rfl m_415 d_R_catchFor_132 (fun x3 e => ?_)
    replace h := lt_i e h; clear e
    refine g_iload (i := 6) hE d_R_catchFor_135 rfl ?_
    obtain ⟨a4, rfl, h⟩ := nn_s h
    obtain ⟨k5, h⟩ := kd_s h
    obtain ⟨g6, h⟩ := gi_s h
    refine g_iald hE k5 g6 d_R_catchFor_137 (fun x7 e => ?_)
    replace h := lt_i e h; clear e
    refine g_iload_n (i := 3) hE d_R_catchFor_138 rfl rfl ?_
    obtain ⟨x8, e9, h⟩ := bd_s h
    refine g_callV (av := [.inr (.inr (some o)), .inl x7, .inl v3]) (as := [.inl x7, .inl v3]) (stk := [.int x8]) [] hE (c_R_isBelow (xl X) (xG X) e9) ky_R_isBelow ⟨Nat.le_of_ble_eq_true rfl, Nat.le_of_ble_eq_true rfl⟩ rfl kc_R k1 m_447 m_448 m_449 rfl d_R_catchFor_139 rfl rfl ct_0 (Nat.zero_le _) (Nat.zero_le _) ?_
    refine gw.cs (c2 := 0) (s2 := 0) rfl rfl ?_
    refine g_if_ne hE d_R_catchFor_142 (fun c20 => ?_) (fun c20 => ?_)
    · replace h := if_f c20 h
      exact gw.less (lv' := [some (va_rf (some o)), some (.int v1), some (.int v2), some (.int v3), none, some (.int v5), some (.int v6)]) (And.intro rfl (And.intro rfl (And.intro rfl (And.intro rfl (And.intro rfl (And.intro rfl trivial)))))) (w_R_catchFor_J162 hE hkb hkx168 d v1 v2 v3 v5 v6 h)
    · replace h := if_t c20 h
      refine g_aload_n (i := 0) hE d_R_catchFor_145 rfl rfl ?_
      refine g_getR 38 hE kc_R k1 (Nat.le_of_ble_eq_true rfl) rfl m_415 d_R_catchFor_146 (fun x10 e => ?_)
      replace h := lt_i e h; clear e
      refine g_iload (i := 5) hE d_R_catchFor_149 rfl ?_
      refine g_aload_n (i := 0) hE d_R_catchFor_151 rfl rfl ?_
      refine g_getR 38 hE kc_R k1 (Nat.le_of_ble_eq_true rfl) rfl m_415 d_R_catchFor_152 (fun x11 e => ?_)
      replace h := lt_i e h; clear e
      refine g_iload (i := 6) hE d_R_catchFor_155 rfl ?_
      obtain ⟨a12, rfl, h⟩ := nn_s h
      obtain ⟨k13, h⟩ := kd_s h
      obtain ⟨g14, h⟩ := gi_s h
      refine g_iald hE k13 g14 d_R_catchFor_157 (fun x15 e => ?_)
      replace h := lt_i e h; clear e
      obtain ⟨a16, rfl, h⟩ := nn_s h
      obtain ⟨k17, h⟩ := kd_s h
      obtain ⟨g18, h⟩ := gi_s h
      refine g_iast hE k17 g18 d_R_catchFor_158 (fun d19 e => ?_)
      replace h := lt_i e h; clear e
      refine g_iinc (i := 5) (lv' := [some (va_rf (some o)), some (.int v1), some (.int v2), some (.int v3), none, some (.int (v5 + 1)), some (.int v6)]) hE d_R_catchFor_159 ki_1 rfl (Nat.le_of_ble_eq_true rfl) ⟨rfl, Nat.le_of_ble_eq_true rfl⟩ (lvp_n rfl) ?_
      exact gw.less (lv' := [some (va_rf (some o)), some (.int v1), some (.int v2), some (.int v3), none, some (.int (v5 + 1)), some (.int v6)]) (And.intro rfl (And.intro rfl (And.intro rfl (And.intro rfl (And.intro rfl (And.intro rfl trivial)))))) (w_R_catchFor_J162 hE hkb hkx168 d19 v1 v2 v3 (v5 + 1) v6 h)
theorem w_R_catchFor_L121 {X : GX} (hE : gE X b_R_catchFor 7 "StandInMillModel" none "catchFor" 3 67) {S : gS} {o : Nat} {r : Unit} {d' : gD} {kx168 : gD → Int32 → Int32 → Int32 → Int32 → Option (Unit × gD)} (hkx168 : ∀ (d : gD) (v1 : Int32) (v2 : Int32) (v3 : Int32) (v5 : Int32), kx168 d v1 v2 v3 v5 = some (r, d') → gw X 0 0 (gQ X (none) S d' 0 0) S d 168 [some (va_rf (some o)), some (.int v1), some (.int v2), some (.int v3), none, some (.int v5), none] []) : ∀ (n : Nat) (d : gD) (v1 : Int32) (v2 : Int32) (v3 : Int32) (v5 : Int32) (v6 : Int32), itr (f_R_catchFor_B121 S o kx168) (fun _ _ _ _ _ _ => none) n d v1 v2 v3 v5 v6 = some (r, d') → gw X 0 0 (gQ X (none) S d' 0 0) S d 121 [some (va_rf (some o)), some (.int v1), some (.int v2), some (.int v3), none, some (.int v5), some (.int v6)] [] := by
  intro n
  induction n with
  | zero => intro d v1 v2 v3 v5 v6 h; cases h
  | succ n ih => exact w_R_catchFor_B121 hE ih hkx168
def f_R_catchFor_J168 (S : gS) (o : Nat) (kx51 : gD → Option (Unit × gD)) (kb : gD → Int32 → Int32 → Option (Unit × gD)) (d : gD) (v1 : Int32) (v2 : Int32) (v3 : Int32) (v5 : Int32) : Option (Unit × gD) :=
  kd S o 10 <|
  lt_ (sP S o 38) fun x2 =>
  nn x2 fun a3 =>
  kd S a3 50 <|
  gi v5 (sN S a3) <|
  lt_ (wI d a3 v5.toNatClampNeg v3) fun d6 =>
  lt_ (wI d6 o 37 (v5 + 1)) fun d7 =>
  f_R_catchFor_J184 S o kx51 kb d7 v1 v2
set_option maxRecDepth 100000 in
set_option maxHeartbeats 4000000 in
theorem w_R_catchFor_J168 {X : GX} (hE : gE X b_R_catchFor 7 "StandInMillModel" none "catchFor" 3 67) {S : gS} {o : Nat} {r : Unit} {d' : gD} {kb : gD → Int32 → Int32 → Option (Unit × gD)} {kx51 : gD → Option (Unit × gD)} (hkb : ∀ (d : gD) (v1 : Int32) (v2 : Int32), kb d v1 v2 = some (r, d') → gw X 0 0 (gQ X (none) S d' 0 0) S d 23 [some (va_rf (some o)), some (.int v1), some (.int v2), none, none, none, none] []) (hkx51 : ∀ (d : gD), kx51 d = some (r, d') → gw X 0 0 (gQ X (none) S d' 0 0) S d 51 [some (va_rf (some o)), none, none, none, none, none, none] []) :
    ∀ (d : gD) (v1 : Int32) (v2 : Int32) (v3 : Int32) (v5 : Int32), f_R_catchFor_J168 S o kx51 kb d v1 v2 v3 v5 = some (r, d') → gw X 0 0 (gQ X (none) S d' 0 0) S d 168 [some (va_rf (some o)), some (.int v1), some (.int v2), some (.int v3), none, some (.int v5), none] [] := by
  intro d v1 v2 v3 v5 h
  unfold f_R_catchFor_J168 at h
  refine g_aload_n (i := 0) hE d_R_catchFor_168 rfl rfl ?_
  obtain ⟨k1, h⟩ := kd_s h
  refine g_getR 38 hE kc_R k1 (Nat.le_of_ble_eq_true rfl) rfl m_415 d_R_catchFor_169 (fun x2 e => ?_)
  replace h := lt_i e h; clear e
  refine g_iload (i := 5) hE d_R_catchFor_172 rfl ?_
  refine g_iload_n (i := 3) hE d_R_catchFor_174 rfl rfl ?_
  obtain ⟨a3, rfl, h⟩ := nn_s h
  obtain ⟨k4, h⟩ := kd_s h
  obtain ⟨g5, h⟩ := gi_s h
  refine g_iast hE k4 g5 d_R_catchFor_175 (fun d6 e => ?_)
  replace h := lt_i e h; clear e
  refine g_aload_n (i := 0) hE d_R_catchFor_176 rfl rfl ?_
  refine g_iload (i := 5) hE d_R_catchFor_177 rfl ?_
  refine g_iconst hE d_R_catchFor_179 ki_1 ?_
  refine g_iadd hE d_R_catchFor_180 ?_
  refine g_putI 37 hE kc_R k1 (Nat.le_of_ble_eq_true rfl) rfl m_414 rfl (by decide +kernel) d_R_catchFor_181 (fun d7 e => ?_)
  replace h := lt_i e h; clear e
  exact gw.less (lv' := [some (va_rf (some o)), some (.int v1), some (.int v2), none, none, none, none]) (And.intro rfl (And.intro rfl (And.intro rfl trivial))) (w_R_catchFor_J184 hE hkb hkx51 d7 v1 v2 h)
def f_R_catchFor_J110 (S : gS) (o : Nat) (kx51 : gD → Option (Unit × gD)) (kb : gD → Int32 → Int32 → Option (Unit × gD)) (d : gD) (v1 : Int32) (v2 : Int32) (v3 : Int32) (v4 : Int32) : Option (Unit × gD) :=
  if v4 = 0 then (
    itr (f_R_catchFor_B121 S o (f_R_catchFor_J168 S o kx51 kb)) (fun _ _ _ _ _ _ => none) fu d v1 v2 v3 0 0)
  else (
    f_R_catchFor_J184 S o kx51 kb d v1 v2)
set_option maxRecDepth 100000 in
set_option maxHeartbeats 4000000 in
theorem w_R_catchFor_J110 {X : GX} (hE : gE X b_R_catchFor 7 "StandInMillModel" none "catchFor" 3 67) {S : gS} {o : Nat} {r : Unit} {d' : gD} {kb : gD → Int32 → Int32 → Option (Unit × gD)} {kx51 : gD → Option (Unit × gD)} (hkb : ∀ (d : gD) (v1 : Int32) (v2 : Int32), kb d v1 v2 = some (r, d') → gw X 0 0 (gQ X (none) S d' 0 0) S d 23 [some (va_rf (some o)), some (.int v1), some (.int v2), none, none, none, none] []) (hkx51 : ∀ (d : gD), kx51 d = some (r, d') → gw X 0 0 (gQ X (none) S d' 0 0) S d 51 [some (va_rf (some o)), none, none, none, none, none, none] []) :
    ∀ (d : gD) (v1 : Int32) (v2 : Int32) (v3 : Int32) (v4 : Int32), f_R_catchFor_J110 S o kx51 kb d v1 v2 v3 v4 = some (r, d') → gw X 0 0 (gQ X (none) S d' 0 0) S d 110 [some (va_rf (some o)), some (.int v1), some (.int v2), some (.int v3), some (.int v4), none, none] [] := by
  intro d v1 v2 v3 v4 h
  unfold f_R_catchFor_J110 at h
  refine g_iload (i := 4) hE d_R_catchFor_110 rfl ?_
  refine g_if_ne hE d_R_catchFor_112 (fun c1 => ?_) (fun c1 => ?_)
  · replace h := if_f c1 h
    exact gw.less (lv' := [some (va_rf (some o)), some (.int v1), some (.int v2), none, none, none, none]) (And.intro rfl (And.intro rfl (And.intro rfl trivial))) (w_R_catchFor_J184 hE hkb hkx51 d v1 v2 h)
  · replace h := if_t c1 h
    refine g_iconst hE d_R_catchFor_115 ki_0 ?_
    refine g_istore (i := 5) (lv' := [some (va_rf (some o)), some (.int v1), some (.int v2), some (.int v3), some (.int v4), some (.int 0), none]) hE d_R_catchFor_116 (Nat.le_of_ble_eq_true rfl) ⟨rfl, Nat.le_of_ble_eq_true rfl⟩ (lvp_i rfl) ?_
    refine g_iconst hE d_R_catchFor_118 ki_0 ?_
    refine g_istore (i := 6) (lv' := [some (va_rf (some o)), some (.int v1), some (.int v2), some (.int v3), some (.int v4), some (.int 0), some (.int 0)]) hE d_R_catchFor_119 (Nat.le_of_ble_eq_true rfl) ⟨rfl, Nat.le_of_ble_eq_true rfl⟩ (lvp_i rfl) ?_
    exact gw.less (lv' := [some (va_rf (some o)), some (.int v1), some (.int v2), some (.int v3), none, some (.int 0), some (.int 0)]) (And.intro rfl (And.intro rfl (And.intro rfl (And.intro rfl (And.intro rfl (And.intro rfl trivial)))))) (w_R_catchFor_L121 hE (w_R_catchFor_J168 hE hkb hkx51) fu d v1 v2 v3 0 0 h)
def f_R_catchFor_J72 (S : gS) (o : Nat) (kx51 : gD → Option (Unit × gD)) (kb : gD → Int32 → Int32 → Option (Unit × gD)) (d : gD) (v1 : Int32) (v2 : Int32) (v3 : Int32) (u0 : Int32) : Option (Unit × gD) :=
  itr (f_R_catchFor_B77 S o (f_R_catchFor_J110 S o kx51 kb)) (fun _ _ _ _ _ _ => none) fu d v1 v2 v3 u0 0
set_option maxRecDepth 100000 in
set_option maxHeartbeats 4000000 in
theorem w_R_catchFor_J72 {X : GX} (hE : gE X b_R_catchFor 7 "StandInMillModel" none "catchFor" 3 67) {S : gS} {o : Nat} {r : Unit} {d' : gD} {kb : gD → Int32 → Int32 → Option (Unit × gD)} {kx51 : gD → Option (Unit × gD)} (hkb : ∀ (d : gD) (v1 : Int32) (v2 : Int32), kb d v1 v2 = some (r, d') → gw X 0 0 (gQ X (none) S d' 0 0) S d 23 [some (va_rf (some o)), some (.int v1), some (.int v2), none, none, none, none] []) (hkx51 : ∀ (d : gD), kx51 d = some (r, d') → gw X 0 0 (gQ X (none) S d' 0 0) S d 51 [some (va_rf (some o)), none, none, none, none, none, none] []) :
    ∀ (d : gD) (v1 : Int32) (v2 : Int32) (v3 : Int32) (u0 : Int32), f_R_catchFor_J72 S o kx51 kb d v1 v2 v3 u0 = some (r, d') → gw X 0 0 (gQ X (none) S d' 0 0) S d 72 [some (va_rf (some o)), some (.int v1), some (.int v2), some (.int v3), none, none, none] [.int u0] := by
  intro d v1 v2 v3 u0 h
  unfold f_R_catchFor_J72 at h
  refine g_istore (i := 4) (lv' := [some (va_rf (some o)), some (.int v1), some (.int v2), some (.int v3), some (.int u0), none, none]) hE d_R_catchFor_72 (Nat.le_of_ble_eq_true rfl) ⟨rfl, Nat.le_of_ble_eq_true rfl⟩ (lvp_i rfl) ?_
  refine g_iconst hE d_R_catchFor_74 ki_0 ?_
  refine g_istore (i := 5) (lv' := [some (va_rf (some o)), some (.int v1), some (.int v2), some (.int v3), some (.int u0), some (.int 0), none]) hE d_R_catchFor_75 (Nat.le_of_ble_eq_true rfl) ⟨rfl, Nat.le_of_ble_eq_true rfl⟩ (lvp_i rfl) ?_
  exact gw.less (lv' := [some (va_rf (some o)), some (.int v1), some (.int v2), some (.int v3), some (.int u0), some (.int 0), none]) (And.intro rfl (And.intro rfl (And.intro rfl (And.intro rfl (And.intro rfl (And.intro rfl trivial)))))) (w_R_catchFor_L77 hE (w_R_catchFor_J110 hE hkb hkx51) fu d v1 v2 v3 u0 0 h)
def f_R_catchFor_B23 (S : gS) (o : Nat) (kx51 : gD → Option (Unit × gD)) (kb : gD → Int32 → Int32 → Option (Unit × gD)) (d : gD) (v1 : Int32) (v2 : Int32) : Option (Unit × gD) :=
  kd S o 10 <|
  lt_ (sP S o 34) fun x2 =>
  nn x2 fun a3 =>
  kd S a3 50 <|
  gi v1 (sN S a3) <|
  lt_ (dI d a3 v1.toNatClampNeg) fun x6 =>
  if x6 ≤ v2 then (
    some ((), d))
  else (
    lt_ (sP S o 33) fun x7 =>
    nn x7 fun a8 =>
    kd S a8 50 <|
    gi ((16 * v1) + v2) (sN S a8) <|
    lt_ (dI d a8 ((16 * v1) + v2 : Int32).toNatClampNeg) fun x11 =>
    if x11 = 8 then (
      kx51 d)
    else (
      bd (f_R_isBelow S d o x11 8) fun x12 =>
      if x12 = 0 then (
        f_R_catchFor_J72 S o kx51 kb d v1 v2 x11 1)
      else (
        f_R_catchFor_J72 S o kx51 kb d v1 v2 x11 0)))
set_option maxRecDepth 100000 in
set_option maxHeartbeats 4000000 in
theorem w_R_catchFor_B23 {X : GX} (hE : gE X b_R_catchFor 7 "StandInMillModel" none "catchFor" 3 67) {S : gS} {o : Nat} {r : Unit} {d' : gD} {kb : gD → Int32 → Int32 → Option (Unit × gD)} {kx51 : gD → Option (Unit × gD)} (hkb : ∀ (d : gD) (v1 : Int32) (v2 : Int32), kb d v1 v2 = some (r, d') → gw X 0 0 (gQ X (none) S d' 0 0) S d 23 [some (va_rf (some o)), some (.int v1), some (.int v2), none, none, none, none] []) (hkx51 : ∀ (d : gD), kx51 d = some (r, d') → gw X 0 0 (gQ X (none) S d' 0 0) S d 51 [some (va_rf (some o)), none, none, none, none, none, none] []) :
    ∀ (d : gD) (v1 : Int32) (v2 : Int32), f_R_catchFor_B23 S o kx51 kb d v1 v2 = some (r, d') → gw X 0 0 (gQ X (none) S d' 0 0) S d 23 [some (va_rf (some o)), some (.int v1), some (.int v2), none, none, none, none] [] := by
  intro d v1 v2 h
  unfold f_R_catchFor_B23 at h
  refine g_iload_n (i := 2) hE d_R_catchFor_23 rfl rfl ?_
  refine g_aload_n (i := 0) hE d_R_catchFor_24 rfl rfl ?_
  obtain ⟨k1, h⟩ := kd_s h
  refine g_getR 34 hE kc_R k1 (Nat.le_of_ble_eq_true rfl) rfl m_411 d_R_catchFor_25 (fun x2 e => ?_)
  replace h := lt_i e h; clear e
  refine g_iload_n (i := 1) hE d_R_catchFor_28 rfl rfl ?_
  obtain ⟨a3, rfl, h⟩ := nn_s h
  obtain ⟨k4, h⟩ := kd_s h
  obtain ⟨g5, h⟩ := gi_s h
  refine g_iald hE k4 g5 d_R_catchFor_29 (fun x6 e => ?_)
  replace h := lt_i e h; clear e
  refine g_icmp_ge hE d_R_catchFor_30 (fun c16 => ?_) (fun c16 => ?_)
  · replace h := if_t c16 h
    cases h
    exact g_vret hE d_R_catchFor_190 rfl rfl
  · replace h := if_f c16 h
    refine g_aload_n (i := 0) hE d_R_catchFor_33 rfl rfl ?_
    refine g_getR 33 hE kc_R k1 (Nat.le_of_ble_eq_true rfl) rfl m_410 d_R_catchFor_34 (fun x7 e => ?_)
    replace h := lt_i e h; clear e
    refine g_bipush hE d_R_catchFor_37 kb_16 ?_
    refine g_iload_n (i := 1) hE d_R_catchFor_39 rfl rfl ?_
    refine g_imul hE d_R_catchFor_40 ?_
    refine g_iload_n (i := 2) hE d_R_catchFor_41 rfl rfl ?_
    refine g_iadd hE d_R_catchFor_42 ?_
    obtain ⟨a8, rfl, h⟩ := nn_s h
    obtain ⟨k9, h⟩ := kd_s h
    obtain ⟨g10, h⟩ := gi_s h
    refine g_iald hE k9 g10 d_R_catchFor_43 (fun x11 e => ?_)
    replace h := lt_i e h; clear e
    refine g_istore_n (i := 3) (lv' := [some (va_rf (some o)), some (.int v1), some (.int v2), some (.int x11), none, none, none]) hE d_R_catchFor_44 rfl (Nat.le_of_ble_eq_true rfl) ⟨rfl, Nat.le_of_ble_eq_true rfl⟩ (lvp_i rfl) ?_
    refine g_iload_n (i := 3) hE d_R_catchFor_45 rfl rfl ?_
    refine g_bipush hE d_R_catchFor_46 kb_8 ?_
    refine g_icmp_ne hE d_R_catchFor_48 (fun c15 => ?_) (fun c15 => ?_)
    · replace h := if_f c15 h
      refine g_aload_n (i := 0) hE d_R_catchFor_57 rfl rfl ?_
      refine g_iload_n (i := 3) hE d_R_catchFor_58 rfl rfl ?_
      refine g_bipush hE d_R_catchFor_59 kb_8 ?_
      obtain ⟨x12, e13, h⟩ := bd_s h
      refine g_callV (av := [.inr (.inr (some o)), .inl x11, .inl 8]) (as := [.inl x11, .inl 8]) (stk := [.int x12]) [] hE (c_R_isBelow (xl X) (xG X) e13) ky_R_isBelow ⟨Nat.le_of_ble_eq_true rfl, Nat.le_of_ble_eq_true rfl⟩ rfl kc_R k1 m_447 m_448 m_449 rfl d_R_catchFor_61 rfl rfl ct_0 (Nat.zero_le _) (Nat.zero_le _) ?_
      refine gw.cs (c2 := 0) (s2 := 0) rfl rfl ?_
      refine g_if_ne hE d_R_catchFor_64 (fun c14 => ?_) (fun c14 => ?_)
      · replace h := if_f c14 h
        refine g_iconst hE d_R_catchFor_71 ki_0 ?_
        exact gw.less (lv' := [some (va_rf (some o)), some (.int v1), some (.int v2), some (.int x11), none, none, none]) (And.intro rfl (And.intro rfl (And.intro rfl (And.intro rfl trivial)))) (w_R_catchFor_J72 hE hkb hkx51 d v1 v2 x11 0 h)
      · replace h := if_t c14 h
        refine g_iconst hE d_R_catchFor_67 ki_1 ?_
        refine g_goto hE d_R_catchFor_68 ?_
        exact gw.less (lv' := [some (va_rf (some o)), some (.int v1), some (.int v2), some (.int x11), none, none, none]) (And.intro rfl (And.intro rfl (And.intro rfl (And.intro rfl trivial)))) (w_R_catchFor_J72 hE hkb hkx51 d v1 v2 x11 1 h)
    · replace h := if_t c15 h
      exact gw.less (lv' := [some (va_rf (some o)), none, none, none, none, none, none]) (And.intro rfl trivial) (hkx51 d h)
theorem w_R_catchFor_L23 {X : GX} (hE : gE X b_R_catchFor 7 "StandInMillModel" none "catchFor" 3 67) {S : gS} {o : Nat} {r : Unit} {d' : gD} {kx51 : gD → Option (Unit × gD)} (hkx51 : ∀ (d : gD), kx51 d = some (r, d') → gw X 0 0 (gQ X (none) S d' 0 0) S d 51 [some (va_rf (some o)), none, none, none, none, none, none] []) : ∀ (n : Nat) (d : gD) (v1 : Int32) (v2 : Int32), itr (f_R_catchFor_B23 S o kx51) (fun _ _ _ => none) n d v1 v2 = some (r, d') → gw X 0 0 (gQ X (none) S d' 0 0) S d 23 [some (va_rf (some o)), some (.int v1), some (.int v2), none, none, none, none] [] := by
  intro n
  induction n with
  | zero => intro d v1 v2 h; cases h
  | succ n ih => exact w_R_catchFor_B23 hE ih hkx51
def f_R_catchFor_J51 (S : gS) (o : Nat) (d : gD) : Option (Unit × gD) :=
  kd S o 10 <|
  lt_ (wI d o 37 0) fun d2 =>
  some ((), d2)
set_option maxRecDepth 100000 in
set_option maxHeartbeats 4000000 in
theorem w_R_catchFor_J51 {X : GX} (hE : gE X b_R_catchFor 7 "StandInMillModel" none "catchFor" 3 67) {S : gS} {o : Nat} {r : Unit} {d' : gD} :
    ∀ (d : gD), f_R_catchFor_J51 S o d = some (r, d') → gw X 0 0 (gQ X (none) S d' 0 0) S d 51 [some (va_rf (some o)), none, none, none, none, none, none] [] := by
  intro d h
  unfold f_R_catchFor_J51 at h
  refine g_aload_n (i := 0) hE d_R_catchFor_51 rfl rfl ?_
  refine g_iconst hE d_R_catchFor_52 ki_0 ?_
  obtain ⟨k1, h⟩ := kd_s h
  refine g_putI 37 hE kc_R k1 (Nat.le_of_ble_eq_true rfl) rfl m_414 rfl (by decide +kernel) d_R_catchFor_53 (fun d2 e => ?_)
  replace h := lt_i e h; clear e
  cases h
  exact g_vret hE d_R_catchFor_56 rfl rfl
set_option maxRecDepth 100000 in
def f_R_catchFor (S : gS) (d : gD) (o : Nat) (v1 : Int32) : Option (Unit × gD) :=
  kd S o 10 <|
  lt_ (wI d o 37 2) fun d2 =>
  lt_ (sP S o 38) fun x3 =>
  nn x3 fun a4 =>
  kd S a4 50 <|
  gi 0 (sN S a4) <|
  lt_ (wI d2 a4 (0 : Int32).toNatClampNeg 9) fun d7 =>
  lt_ (sP S o 38) fun x8 =>
  nn x8 fun a9 =>
  kd S a9 50 <|
  gi 1 (sN S a9) <|
  lt_ (wI d7 a9 (1 : Int32).toNatClampNeg 10) fun d12 =>
  itr (f_R_catchFor_B23 S o (f_R_catchFor_J51 S o)) (fun _ _ _ => none) fu d12 v1 0
set_option maxRecDepth 100000 in
set_option maxHeartbeats 4000000 in
theorem c_R_catchFor (l : Launch) (G : gG) {S : gS} {d : gD} {o : Nat} {v1 : Int32} {r : Unit} {d' : gD} (h : f_R_catchFor S d o v1 = some (r, d')) : GM l G y_R_catchFor b_R_catchFor 7 none 3 67 0 0 [.inr (.inr (some o)), .inl v1] S d (none) S d' := by
  refine GM.of (by decide) (Nat.le_of_ble_eq_true rfl) ?_
  intro X hl0 hG0 hR0 hE0
  have hE : gE X b_R_catchFor 7 "StandInMillModel" none "catchFor" 3 67 := hE0
  unfold f_R_catchFor at h
  refine gw.less (lv' := [some (va_rf (some o)), some (.int v1), none, none, none, none, none]) (And.intro rfl (And.intro rfl trivial)) ?_
  refine g_aload_n (i := 0) hE d_R_catchFor_0 rfl rfl ?_
  refine g_iconst hE d_R_catchFor_1 ki_2 ?_
  obtain ⟨k1, h⟩ := kd_s h
  refine g_putI 37 hE kc_R k1 (Nat.le_of_ble_eq_true rfl) rfl m_414 rfl (by decide +kernel) d_R_catchFor_2 (fun d2 e => ?_)
  replace h := lt_i e h; clear e
  refine g_aload_n (i := 0) hE d_R_catchFor_5 rfl rfl ?_
  refine g_getR 38 hE kc_R k1 (Nat.le_of_ble_eq_true rfl) rfl m_415 d_R_catchFor_6 (fun x3 e => ?_)
  replace h := lt_i e h; clear e
  refine g_iconst hE d_R_catchFor_9 ki_0 ?_
  refine g_bipush hE d_R_catchFor_10 kb_9 ?_
  obtain ⟨a4, rfl, h⟩ := nn_s h
  obtain ⟨k5, h⟩ := kd_s h
  obtain ⟨g6, h⟩ := gi_s h
  refine g_iast hE k5 g6 d_R_catchFor_12 (fun d7 e => ?_)
  replace h := lt_i e h; clear e
  refine g_aload_n (i := 0) hE d_R_catchFor_13 rfl rfl ?_
  refine g_getR 38 hE kc_R k1 (Nat.le_of_ble_eq_true rfl) rfl m_415 d_R_catchFor_14 (fun x8 e => ?_)
  replace h := lt_i e h; clear e
  refine g_iconst hE d_R_catchFor_17 ki_1 ?_
  refine g_bipush hE d_R_catchFor_18 kb_10 ?_
  obtain ⟨a9, rfl, h⟩ := nn_s h
  obtain ⟨k10, h⟩ := kd_s h
  obtain ⟨g11, h⟩ := gi_s h
  refine g_iast hE k10 g11 d_R_catchFor_20 (fun d12 e => ?_)
  replace h := lt_i e h; clear e
  refine g_iconst hE d_R_catchFor_21 ki_0 ?_
  refine g_istore_n (i := 2) (lv' := [some (va_rf (some o)), some (.int v1), some (.int 0), none, none, none, none]) hE d_R_catchFor_22 rfl (Nat.le_of_ble_eq_true rfl) ⟨rfl, Nat.le_of_ble_eq_true rfl⟩ (lvp_i rfl) ?_
  exact gw.less (lv' := [some (va_rf (some o)), some (.int v1), some (.int 0), none, none, none, none]) (And.intro rfl (And.intro rfl (And.intro rfl trivial))) (w_R_catchFor_L23 hE (w_R_catchFor_J51 hE) fu d12 v1 0 h)
theorem d_R_say_0 : dc b_R_say 0 (.aload_n 0) 1 1 := ⟨by decide +kernel, rfl⟩
theorem d_R_say_1 : dc b_R_say 1 (.getfield 130) 3 4 := ⟨by decide +kernel, rfl⟩
theorem d_R_say_4 : dc b_R_say 4 (.aload_n 0) 1 5 := ⟨by decide +kernel, rfl⟩
theorem d_R_say_5 : dc b_R_say 5 (.getfield 133) 3 8 := ⟨by decide +kernel, rfl⟩
theorem d_R_say_8 : dc b_R_say 8 (.iload_n 1) 1 9 := ⟨by decide +kernel, rfl⟩
theorem d_R_say_9 : dc b_R_say 9 (.iastore) 1 10 := ⟨by decide +kernel, rfl⟩
theorem d_R_say_10 : dc b_R_say 10 (.aload_n 0) 1 11 := ⟨by decide +kernel, rfl⟩
theorem d_R_say_11 : dc b_R_say 11 (.dup) 1 12 := ⟨by decide +kernel, rfl⟩
theorem d_R_say_12 : dc b_R_say 12 (.getfield 133) 3 15 := ⟨by decide +kernel, rfl⟩
theorem d_R_say_15 : dc b_R_say 15 (.iconst 1) 1 16 := ⟨by decide +kernel, rfl⟩
theorem d_R_say_16 : dc b_R_say 16 (.iadd) 1 17 := ⟨by decide +kernel, rfl⟩
theorem d_R_say_17 : dc b_R_say 17 (.putfield 133) 3 20 := ⟨by decide +kernel, rfl⟩
theorem d_R_say_20 : dc b_R_say 20 (.return_) 1 21 := ⟨by decide +kernel, rfl⟩
set_option maxRecDepth 100000 in
def f_R_say (S : gS) (d : gD) (o : Nat) (v1 : Int32) : Option (Unit × gD) :=
  kd S o 10 <|
  lt_ (sP S o 39) fun x2 =>
  lt_ (dI d o 40) fun x3 =>
  nn x2 fun a4 =>
  kd S a4 50 <|
  gi x3 (sN S a4) <|
  lt_ (wI d a4 x3.toNatClampNeg v1) fun d7 =>
  lt_ (dI d7 o 40) fun x8 =>
  lt_ (wI d7 o 40 (x8 + 1)) fun d9 =>
  some ((), d9)
set_option maxRecDepth 100000 in
set_option maxHeartbeats 4000000 in
theorem c_R_say (l : Launch) (G : gG) {S : gS} {d : gD} {o : Nat} {v1 : Int32} {r : Unit} {d' : gD} (h : f_R_say S d o v1 = some (r, d')) : GM l G y_R_say b_R_say 2 none 0 0 0 0 [.inr (.inr (some o)), .inl v1] S d (none) S d' := by
  refine GM.of (by decide) (Nat.le_of_ble_eq_true rfl) ?_
  intro X hl0 hG0 hR0 hE0
  have hE : gE X b_R_say 2 "StandInMillModel" none "say" 0 0 := hE0
  unfold f_R_say at h
  refine gw.less (lv' := [some (va_rf (some o)), some (.int v1)]) (And.intro rfl (And.intro rfl trivial)) ?_
  refine g_aload_n (i := 0) hE d_R_say_0 rfl rfl ?_
  obtain ⟨k1, h⟩ := kd_s h
  refine g_getR 39 hE kc_R k1 (Nat.le_of_ble_eq_true rfl) rfl m_416 d_R_say_1 (fun x2 e => ?_)
  replace h := lt_i e h; clear e
  refine g_aload_n (i := 0) hE d_R_say_4 rfl rfl ?_
  refine g_getI 40 hE kc_R k1 (Nat.le_of_ble_eq_true rfl) rfl m_417 d_R_say_5 (fun x3 e => ?_)
  replace h := lt_i e h; clear e
  refine g_iload_n (i := 1) hE d_R_say_8 rfl rfl ?_
  obtain ⟨a4, rfl, h⟩ := nn_s h
  obtain ⟨k5, h⟩ := kd_s h
  obtain ⟨g6, h⟩ := gi_s h
  refine g_iast hE k5 g6 d_R_say_9 (fun d7 e => ?_)
  replace h := lt_i e h; clear e
  refine g_aload_n (i := 0) hE d_R_say_10 rfl rfl ?_
  refine g_dupr hE d_R_say_11 ?_
  refine g_getI 40 hE kc_R k1 (Nat.le_of_ble_eq_true rfl) rfl m_417 d_R_say_12 (fun x8 e => ?_)
  replace h := lt_i e h; clear e
  refine g_iconst hE d_R_say_15 ki_1 ?_
  refine g_iadd hE d_R_say_16 ?_
  refine g_putI 40 hE kc_R k1 (Nat.le_of_ble_eq_true rfl) rfl m_417 rfl (by decide +kernel) d_R_say_17 (fun d9 e => ?_)
  replace h := lt_i e h; clear e
  cases h
  exact g_vret hE d_R_say_20 rfl rfl
