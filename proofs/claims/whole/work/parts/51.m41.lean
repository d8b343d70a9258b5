theorem d_R_fit_0 : dc b_R_fit 0 (.aload_n 0) 1 1 := ⟨by decide +kernel, rfl⟩
theorem d_R_fit_1 : dc b_R_fit 1 (.getfield 91) 3 4 := ⟨by decide +kernel, rfl⟩
theorem d_R_fit_4 : dc b_R_fit 4 (.iload_n 1) 1 5 := ⟨by decide +kernel, rfl⟩
theorem d_R_fit_5 : dc b_R_fit 5 (.iaload) 1 6 := ⟨by decide +kernel, rfl⟩
theorem d_R_fit_6 : dc b_R_fit 6 (.istore_n 3) 1 7 := ⟨by decide +kernel, rfl⟩
theorem d_R_fit_7 : dc b_R_fit 7 (.aload_n 0) 1 8 := ⟨by decide +kernel, rfl⟩
theorem d_R_fit_8 : dc b_R_fit 8 (.getfield 54) 3 11 := ⟨by decide +kernel, rfl⟩
theorem d_R_fit_11 : dc b_R_fit 11 (.aload_n 0) 1 12 := ⟨by decide +kernel, rfl⟩
theorem d_R_fit_12 : dc b_R_fit 12 (.getfield 109) 3 15 := ⟨by decide +kernel, rfl⟩
theorem d_R_fit_15 : dc b_R_fit 15 (.iload_n 2) 1 16 := ⟨by decide +kernel, rfl⟩
theorem d_R_fit_16 : dc b_R_fit 16 (.iaload) 1 17 := ⟨by decide +kernel, rfl⟩
theorem d_R_fit_17 : dc b_R_fit 17 (.iaload) 1 18 := ⟨by decide +kernel, rfl⟩
theorem d_R_fit_18 : dc b_R_fit 18 (.istore 4) 2 20 := ⟨by decide +kernel, rfl⟩
theorem d_R_fit_20 : dc b_R_fit 20 (.aload_n 0) 1 21 := ⟨by decide +kernel, rfl⟩
theorem d_R_fit_21 : dc b_R_fit 21 (.ldc2_w 142) 3 24 := ⟨by decide +kernel, rfl⟩
theorem d_R_fit_24 : dc b_R_fit 24 (.putfield 144) 3 27 := ⟨by decide +kernel, rfl⟩
theorem d_R_fit_27 : dc b_R_fit 27 (.aload_n 0) 1 28 := ⟨by decide +kernel, rfl⟩
theorem d_R_fit_28 : dc b_R_fit 28 (.getfield 94) 3 31 := ⟨by decide +kernel, rfl⟩
theorem d_R_fit_31 : dc b_R_fit 31 (.iload_n 1) 1 32 := ⟨by decide +kernel, rfl⟩
theorem d_R_fit_32 : dc b_R_fit 32 (.baload) 1 33 := ⟨by decide +kernel, rfl⟩
theorem d_R_fit_33 : db b_R_fit 33 (.ifCond .eq 80) 80 113 36 := ⟨by decide +kernel, by decide, rfl⟩
theorem d_R_fit_36 : dc b_R_fit 36 (.aload_n 0) 1 37 := ⟨by decide +kernel, rfl⟩
theorem d_R_fit_37 : dc b_R_fit 37 (.iload_n 3) 1 38 := ⟨by decide +kernel, rfl⟩
theorem d_R_fit_38 : dc b_R_fit 38 (.i2l) 1 39 := ⟨by decide +kernel, rfl⟩
theorem d_R_fit_39 : dc b_R_fit 39 (.putfield 144) 3 42 := ⟨by decide +kernel, rfl⟩
theorem d_R_fit_42 : dc b_R_fit 42 (.aload_n 0) 1 43 := ⟨by decide +kernel, rfl⟩
theorem d_R_fit_43 : dc b_R_fit 43 (.iload_n 2) 1 44 := ⟨by decide +kernel, rfl⟩
theorem d_R_fit_44 : dc b_R_fit 44 (.invokevirtual 229) 3 47 := ⟨by decide +kernel, rfl⟩
theorem d_R_fit_47 : dc b_R_fit 47 (.aload_n 0) 1 48 := ⟨by decide +kernel, rfl⟩
theorem d_R_fit_48 : dc b_R_fit 48 (.getfield 124) 3 51 := ⟨by decide +kernel, rfl⟩
theorem d_R_fit_51 : db b_R_fit 51 (.ifCond .ne 7) 7 58 54 := ⟨by decide +kernel, by decide, rfl⟩
theorem d_R_fit_54 : dc b_R_fit 54 (.iconst 1) 1 55 := ⟨by decide +kernel, rfl⟩
theorem d_R_fit_55 : db b_R_fit 55 (.goto 4) 4 59 58 := ⟨by decide +kernel, by decide, rfl⟩
theorem d_R_fit_58 : dc b_R_fit 58 (.iconst 0) 1 59 := ⟨by decide +kernel, rfl⟩
theorem d_R_fit_59 : dc b_R_fit 59 (.istore 5) 2 61 := ⟨by decide +kernel, rfl⟩
theorem d_R_fit_61 : dc b_R_fit 61 (.iconst 0) 1 62 := ⟨by decide +kernel, rfl⟩
theorem d_R_fit_62 : dc b_R_fit 62 (.istore 6) 2 64 := ⟨by decide +kernel, rfl⟩
theorem d_R_fit_64 : dc b_R_fit 64 (.iload 6) 2 66 := ⟨by decide +kernel, rfl⟩
theorem d_R_fit_66 : dc b_R_fit 66 (.aload_n 0) 1 67 := ⟨by decide +kernel, rfl⟩
theorem d_R_fit_67 : dc b_R_fit 67 (.getfield 124) 3 70 := ⟨by decide +kernel, rfl⟩
theorem d_R_fit_70 : db b_R_fit 70 (.if_icmp .ge 32) 32 102 73 := ⟨by decide +kernel, by decide, rfl⟩
theorem d_R_fit_73 : dc b_R_fit 73 (.aload_n 0) 1 74 := ⟨by decide +kernel, rfl⟩
theorem d_R_fit_74 : dc b_R_fit 74 (.aload_n 0) 1 75 := ⟨by decide +kernel, rfl⟩
theorem d_R_fit_75 : dc b_R_fit 75 (.getfield 69) 3 78 := ⟨by decide +kernel, rfl⟩
theorem d_R_fit_78 : dc b_R_fit 78 (.iload_n 3) 1 79 := ⟨by decide +kernel, rfl⟩
theorem d_R_fit_79 : dc b_R_fit 79 (.iaload) 1 80 := ⟨by decide +kernel, rfl⟩
theorem d_R_fit_80 : dc b_R_fit 80 (.aload_n 0) 1 81 := ⟨by decide +kernel, rfl⟩
theorem d_R_fit_81 : dc b_R_fit 81 (.getfield 127) 3 84 := ⟨by decide +kernel, rfl⟩
theorem d_R_fit_84 : dc b_R_fit 84 (.iload 6) 2 86 := ⟨by decide +kernel, rfl⟩
theorem d_R_fit_86 : dc b_R_fit 86 (.iaload) 1 87 := ⟨by decide +kernel, rfl⟩
theorem d_R_fit_87 : dc b_R_fit 87 (.invokevirtual 184) 3 90 := ⟨by decide +kernel, rfl⟩
theorem d_R_fit_90 : db b_R_fit 90 (.ifCond .eq 6) 6 96 93 := ⟨by decide +kernel, by decide, rfl⟩
theorem d_R_fit_93 : dc b_R_fit 93 (.iconst 1) 1 94 := ⟨by decide +kernel, rfl⟩
theorem d_R_fit_94 : dc b_R_fit 94 (.istore 5) 2 96 := ⟨by decide +kernel, rfl⟩
theorem d_R_fit_96 : dc b_R_fit 96 (.iinc 6 1) 3 99 := ⟨by decide +kernel, rfl⟩
theorem d_R_fit_99 : db b_R_fit 99 (.goto (-35)) (-35) 64 102 := ⟨by decide +kernel, by decide, rfl⟩
theorem d_R_fit_102 : dc b_R_fit 102 (.iload 5) 2 104 := ⟨by decide +kernel, rfl⟩
theorem d_R_fit_104 : db b_R_fit 104 (.ifCond .eq 7) 7 111 107 := ⟨by decide +kernel, by decide, rfl⟩
theorem d_R_fit_107 : dc b_R_fit 107 (.iconst 4) 1 108 := ⟨by decide +kernel, rfl⟩
theorem d_R_fit_108 : db b_R_fit 108 (.goto 4) 4 112 111 := ⟨by decide +kernel, by decide, rfl⟩
theorem d_R_fit_111 : dc b_R_fit 111 (.iconst 5) 1 112 := ⟨by decide +kernel, rfl⟩
theorem d_R_fit_112 : dc b_R_fit 112 (.ireturn) 1 113 := ⟨by decide +kernel, rfl⟩
theorem d_R_fit_113 : dc b_R_fit 113 (.iload 4) 2 115 := ⟨by decide +kernel, rfl⟩
theorem d_R_fit_115 : db b_R_fit 115 (.ifCond .ne 5) 5 120 118 := ⟨by decide +kernel, by decide, rfl⟩
theorem d_R_fit_118 : dc b_R_fit 118 (.iconst 0) 1 119 := ⟨by decide +kernel, rfl⟩
theorem d_R_fit_119 : dc b_R_fit 119 (.ireturn) 1 120 := ⟨by decide +kernel, rfl⟩
theorem d_R_fit_120 : dc b_R_fit 120 (.iload 4) 2 122 := ⟨by decide +kernel, rfl⟩
theorem d_R_fit_122 : dc b_R_fit 122 (.invokestatic 157) 3 125 := ⟨by decide +kernel, rfl⟩
theorem d_R_fit_125 : db b_R_fit 125 (.ifCond .eq 38) 38 163 128 := ⟨by decide +kernel, by decide, rfl⟩
theorem d_R_fit_128 : dc b_R_fit 128 (.iload_n 3) 1 129 := ⟨by decide +kernel, rfl⟩
theorem d_R_fit_129 : dc b_R_fit 129 (.iconst (-1)) 1 130 := ⟨by decide +kernel, rfl⟩
theorem d_R_fit_130 : db b_R_fit 130 (.if_icmp .ne 5) 5 135 133 := ⟨by decide +kernel, by decide, rfl⟩
theorem d_R_fit_133 : dc b_R_fit 133 (.iconst 2) 1 134 := ⟨by decide +kernel, rfl⟩
theorem d_R_fit_134 : dc b_R_fit 134 (.ireturn) 1 135 := ⟨by decide +kernel, rfl⟩
theorem d_R_fit_135 : dc b_R_fit 135 (.aload_n 0) 1 136 := ⟨by decide +kernel, rfl⟩
theorem d_R_fit_136 : dc b_R_fit 136 (.getfield 69) 3 139 := ⟨by decide +kernel, rfl⟩
theorem d_R_fit_139 : dc b_R_fit 139 (.iload_n 3) 1 140 := ⟨by decide +kernel, rfl⟩
theorem d_R_fit_140 : dc b_R_fit 140 (.iaload) 1 141 := ⟨by decide +kernel, rfl⟩
theorem d_R_fit_141 : dc b_R_fit 141 (.bipush 40) 2 143 := ⟨by decide +kernel, rfl⟩
theorem d_R_fit_143 : dc b_R_fit 143 (.iload 4) 2 145 := ⟨by decide +kernel, rfl⟩
theorem d_R_fit_145 : dc b_R_fit 145 (.iadd) 1 146 := ⟨by decide +kernel, rfl⟩
theorem d_R_fit_146 : db b_R_fit 146 (.if_icmp .eq 5) 5 151 149 := ⟨by decide +kernel, by decide, rfl⟩
theorem d_R_fit_149 : dc b_R_fit 149 (.iconst 3) 1 150 := ⟨by decide +kernel, rfl⟩
theorem d_R_fit_150 : dc b_R_fit 150 (.ireturn) 1 151 := ⟨by decide +kernel, rfl⟩
theorem d_R_fit_151 : dc b_R_fit 151 (.aload_n 0) 1 152 := ⟨by decide +kernel, rfl⟩
theorem d_R_fit_152 : dc b_R_fit 152 (.aload_n 0) 1 153 := ⟨by decide +kernel, rfl⟩
theorem d_R_fit_153 : dc b_R_fit 153 (.getfield 72) 3 156 := ⟨by decide +kernel, rfl⟩
theorem d_R_fit_156 : dc b_R_fit 156 (.iload_n 3) 1 157 := ⟨by decide +kernel, rfl⟩
theorem d_R_fit_157 : dc b_R_fit 157 (.laload) 1 158 := ⟨by decide +kernel, rfl⟩
theorem d_R_fit_158 : dc b_R_fit 158 (.putfield 144) 3 161 := ⟨by decide +kernel, rfl⟩
theorem d_R_fit_161 : dc b_R_fit 161 (.iconst 1) 1 162 := ⟨by decide +kernel, rfl⟩
theorem d_R_fit_162 : dc b_R_fit 162 (.ireturn) 1 163 := ⟨by decide +kernel, rfl⟩
theorem d_R_fit_163 : dc b_R_fit 163 (.iload_n 3) 1 164 := ⟨by decide +kernel, rfl⟩
theorem d_R_fit_164 : db b_R_fit 164 (.ifCond .lt 20) 20 184 167 := ⟨by decide +kernel, by decide, rfl⟩
theorem d_R_fit_167 : dc b_R_fit 167 (.aload_n 0) 1 168 := ⟨by decide +kernel, rfl⟩
theorem d_R_fit_168 : dc b_R_fit 168 (.aload_n 0) 1 169 := ⟨by decide +kernel, rfl⟩
theorem d_R_fit_169 : dc b_R_fit 169 (.getfield 69) 3 172 := ⟨by decide +kernel, rfl⟩
theorem d_R_fit_172 : dc b_R_fit 172 (.iload_n 3) 1 173 := ⟨by decide +kernel, rfl⟩
theorem d_R_fit_173 : dc b_R_fit 173 (.iaload) 1 174 := ⟨by decide +kernel, rfl⟩
theorem d_R_fit_174 : dc b_R_fit 174 (.iload 4) 2 176 := ⟨by decide +kernel, rfl⟩
theorem d_R_fit_176 : dc b_R_fit 176 (.invokevirtual 184) 3 179 := ⟨by decide +kernel, rfl⟩
theorem d_R_fit_179 : db b_R_fit 179 (.ifCond .ne 5) 5 184 182 := ⟨by decide +kernel, by decide, rfl⟩
theorem d_R_fit_182 : dc b_R_fit 182 (.iconst 3) 1 183 := ⟨by decide +kernel, rfl⟩
theorem d_R_fit_183 : dc b_R_fit 183 (.ireturn) 1 184 := ⟨by decide +kernel, rfl⟩
theorem d_R_fit_184 : dc b_R_fit 184 (.aload_n 0) 1 185 := ⟨by decide +kernel, rfl⟩
theorem d_R_fit_185 : dc b_R_fit 185 (.iload_n 3) 1 186 := ⟨by decide +kernel, rfl⟩
theorem d_R_fit_186 : dc b_R_fit 186 (.i2l) 1 187 := ⟨by decide +kernel, rfl⟩
theorem d_R_fit_187 : dc b_R_fit 187 (.putfield 144) 3 190 := ⟨by decide +kernel, rfl⟩
theorem d_R_fit_190 : dc b_R_fit 190 (.iconst 1) 1 191 := ⟨by decide +kernel, rfl⟩
theorem d_R_fit_191 : dc b_R_fit 191 (.ireturn) 1 192 := ⟨by decide +kernel, rfl⟩
def f_R_fit_J184 (S : gS) (o : Nat) (d : gD) (v3 : Int32) : Option (Int32 × gD) :=
  kd S o 10 <|
  lt_ (wL d o 43 (Int32.toInt64 v3)) fun d2 =>
  some (1, d2)
set_option maxRecDepth 100000 in
set_option maxHeartbeats 4000000 in
theorem w_R_fit_J184 {X : GX} (hE : gE X b_R_fit 7 "StandInMillModel" (some (.int)) "fit" 4 93) {S : gS} {o : Nat} {r : Int32} {d' : gD} :
    ∀ (d : gD) (v3 : Int32), f_R_fit_J184 S o d v3 = some (r, d') → gw X 0 0 (gQ X (some (.int r)) S d' 0 0) S d 184 [some (va_rf (some o)), none, none, some (.int v3), none, none, none] [] := by
  intro d v3 h
  unfold f_R_fit_J184 at h
  refine g_aload_n (i := 0) hE d_R_fit_184 rfl rfl ?_
  refine g_iload_n (i := 3) hE d_R_fit_185 rfl rfl ?_
  refine g_i2l hE d_R_fit_186 ?_
  obtain ⟨k1, h⟩ := kd_s h
  refine g_putL 43 hE kc_R k1 (Nat.le_of_ble_eq_true rfl) rfl m_421 rfl (by decide +kernel) d_R_fit_187 (fun d2 e => ?_)
  replace h := lt_i e h; clear e
  refine g_iconst hE d_R_fit_190 ki_1 ?_
  cases h
  exact g_iret hE d_R_fit_191 rfl rfl
def f_R_fit_J96 (S : gS) (o : Nat) (kx102 : gD → Int32 → Option (Int32 × gD)) (kb : gD → Int32 → Int32 → Int32 → Option (Int32 × gD)) (d : gD) (v3 : Int32) (v5 : Int32) (v6 : Int32) : Option (Int32 × gD) :=
  kb d v3 v5 (v6 + 1)
set_option maxRecDepth 100000 in
set_option maxHeartbeats 4000000 in
theorem w_R_fit_J96 {X : GX} (hE : gE X b_R_fit 7 "StandInMillModel" (some (.int)) "fit" 4 93) {S : gS} {o : Nat} {r : Int32} {d' : gD} {kb : gD → Int32 → Int32 → Int32 → Option (Int32 × gD)} {kx102 : gD → Int32 → Option (Int32 × gD)} (hkb : ∀ (d : gD) (v3 : Int32) (v5 : Int32) (v6 : Int32), kb d v3 v5 v6 = some (r, d') → gw X 0 0 (gQ X (some (.int r)) S d' 0 0) S d 64 [some (va_rf (some o)), none, none, some (.int v3), none, some (.int v5), some (.int v6)] []) (hkx102 : ∀ (d : gD) (v5 : Int32), kx102 d v5 = some (r, d') → gw X 0 0 (gQ X (some (.int r)) S d' 0 0) S d 102 [some (va_rf (some o)), none, none, none, none, some (.int v5), none] []) :
    ∀ (d : gD) (v3 : Int32) (v5 : Int32) (v6 : Int32), f_R_fit_J96 S o kx102 kb d v3 v5 v6 = some (r, d') → gw X 0 0 (gQ X (some (.int r)) S d' 0 0) S d 96 [some (va_rf (some o)), none, none, some (.int v3), none, some (.int v5), some (.int v6)] [] := by
  intro d v3 v5 v6 h
  unfold f_R_fit_J96 at h
  refine g_iinc (i := 6) (lv' := [some (va_rf (some o)), none, none, some (.int v3), none, some (.int v5), some (.int (v6 + 1))]) hE d_R_fit_96 ki_1 rfl (Nat.le_of_ble_eq_true rfl) ⟨rfl, Nat.le_of_ble_eq_true rfl⟩ (lvp_i rfl) ?_
  refine g_goto hE d_R_fit_99 ?_
  exact gw.less (lv' := [some (va_rf (some o)), none, none, some (.int v3), none, some (.int v5), some (.int (v6 + 1))]) (And.intro rfl (And.intro rfl (And.intro rfl (And.intro rfl trivial)))) (hkb d v3 v5 (v6 + 1) h)
def f_R_fit_B64 (S : gS) (o : Nat) (kx102 : gD → Int32 → Option (Int32 × gD)) (kb : gD → Int32 → Int32 → Int32 → Option (Int32 × gD)) (d : gD) (v3 : Int32) (v5 : Int32) (v6 : Int32) : Option (Int32 × gD) :=
  kd S o 10 <|
  lt_ (dI d o 37) fun x2 =>
  if x2 ≤ v6 then (
    kx102 d v5)
  else (
    lt_ (sP S o 19) fun x3 =>
    nn x3 fun a4 =>
    kd S a4 50 <|
    gi v3 (sN S a4) <|
    lt_ (dI d a4 v3.toNatClampNeg) fun x7 =>
    lt_ (sP S o 38) fun x8 =>
    nn x8 fun a9 =>
    kd S a9 50 <|
    gi v6 (sN S a9) <|
    lt_ (dI d a9 v6.toNatClampNeg) fun x12 =>
    bd (f_R_isBelow S d o x7 x12) fun x13 =>
    if x13 = 0 then (
      f_R_fit_J96 S o kx102 kb d v3 v5 v6)
    else (
      f_R_fit_J96 S o kx102 kb d v3 1 v6))
set_option maxRecDepth 100000 in
set_option maxHeartbeats 4000000 in
theorem w_R_fit_B64 {X : GX} (hE : gE X b_R_fit 7 "StandInMillModel" (some (.int)) "fit" 4 93) {S : gS} {o : Nat} {r : Int32} {d' : gD} {kb : gD → Int32 → Int32 → Int32 → Option (Int32 × gD)} {kx102 : gD → Int32 → Option (Int32 × gD)} (hkb : ∀ (d : gD) (v3 : Int32) (v5 : Int32) (v6 : Int32), kb d v3 v5 v6 = some (r, d') → gw X 0 0 (gQ X (some (.int r)) S d' 0 0) S d 64 [some (va_rf (some o)), none, none, some (.int v3), none, some (.int v5), some (.int v6)] []) (hkx102 : ∀ (d : gD) (v5 : Int32), kx102 d v5 = some (r, d') → gw X 0 0 (gQ X (some (.int r)) S d' 0 0) S d 102 [some (va_rf (some o)), none, none, none, none, some (.int v5), none] []) :
    ∀ (d : gD) (v3 : Int32) (v5 : Int32) (v6 : Int32), f_R_fit_B64 S o kx102 kb d v3 v5 v6 = some (r, d') → gw X 0 0 (gQ X (some (.int r)) S d' 0 0) S d 64 [some (va_rf (some o)), none, none, some (.int v3), none, some (.int v5), some (.int v6)] [] := by
  intro d v3 v5 v6 h
  unfold f_R_fit_B64 at h
  refine g_iload (i := 6) hE d_R_fit_64 rfl ?_
  refine g_aload_n (i := 0) hE d_R_fit_66 rfl rfl ?_
  obtain ⟨k1, h⟩ := kd_s h
  refine g_getI 37 hE kc_R k1 (Nat.le_of_ble_eq_true rfl) rfl m_414 d_R_fit_67 (fun x2 e => ?_)
  replace h := lt_i e h; clear e
  refine g_icmp_ge hE d_R_fit_70 (fun c16 => ?_) (fun c16 => ?_)
  · replace h := if_t c16 h
    exact gw.less (lv' := [some (va_rf (some o)), none, none, none, none, some (.int v5), none]) (And.intro rfl (And.intro rfl trivial)) (hkx102 d v5 h)
  · replace h := if_f c16 h
    refine g_aload_n (i := 0) hE d_R_fit_73 rfl rfl ?_
    refine g_aload_n (i := 0) hE d_R_fit_74 rfl rfl ?_
    refine g_getR 19 hE kc_R k1 (Nat.le_of_ble_eq_true rfl) rfl m_396 d_R_fit_75 (fun x3 e => ?_)
    replace h := lt_i e h; clear e
    refine g_iload_n (i := 3) hE d_R_fit_78 rfl rfl ?_
    obtain ⟨a4, rfl, h⟩ := nn_s h
    obtain ⟨k5, h⟩ := kd_s h
    obtain ⟨g6, h⟩ := gi_s h
    refine g_iald hE k5 g6 d_R_fit_79 (fun x7 e => ?_)
    replace h := lt_i e h; clear e
    refine g_aload_n (i := 0) hE d_R_fit_80 rfl rfl ?_
    refine g_getR 38 hE kc_R k1 (Nat.le_of_ble_eq_true rfl) rfl m_415 d_R_fit_81 (fun x8 e => ?_)
    replace h := lt_i e h; clear e
    refine g_iload (i := 6) hE d_R_fit_84 rfl ?_
    obtain ⟨a9, rfl, h⟩ := nn_s h
    obtain ⟨k10, h⟩ := kd_s h
    obtain ⟨g11, h⟩ := gi_s h
    refine g_iald hE k10 g11 d_R_fit_86 (fun x12 e => ?_)
    replace h := lt_i e h; clear e
    obtain ⟨x13, e14, h⟩ := bd_s h
    refine g_callV (av := [.inr (.inr (some o)), .inl x7, .inl x12]) (as := [.inl x7, .inl x12]) (stk := [.int x13]) [] hE (c_R_isBelow (xl X) (xG X) e14) ky_R_isBelow ⟨Nat.le_of_ble_eq_true rfl, Nat.le_of_ble_eq_true rfl⟩ rfl kc_R k1 m_447 m_448 m_449 rfl d_R_fit_87 rfl rfl ct_0 (Nat.zero_le _) (Nat.zero_le _) ?_
    refine gw.cs (c2 := 0) (s2 := 0) rfl rfl ?_
    refine g_if_eq hE d_R_fit_90 (fun c15 => ?_) (fun c15 => ?_)
    · replace h := if_t c15 h
      exact gw.less (lv' := [some (va_rf (some o)), none, none, some (.int v3), none, some (.int v5), some (.int v6)]) (And.intro rfl (And.intro rfl (And.intro rfl (And.intro rfl trivial)))) (w_R_fit_J96 hE hkb hkx102 d v3 v5 v6 h)
    · replace h := if_f c15 h
      refine g_iconst hE d_R_fit_93 ki_1 ?_
      refine g_istore (i := 5) (lv' := [some (va_rf (some o)), none, none, some (.int v3), none, some (.int 1), some (.int v6)]) hE d_R_fit_94 (Nat.le_of_ble_eq_true rfl) ⟨rfl, Nat.le_of_ble_eq_true rfl⟩ (lvp_n rfl) ?_
      exact gw.less (lv' := [some (va_rf (some o)), none, none, some (.int v3), none, some (.int 1), some (.int v6)]) (And.intro rfl (And.intro rfl (And.intro rfl (And.intro rfl trivial)))) (w_R_fit_J96 hE hkb hkx102 d v3 1 v6 h)
theorem w_R_fit_L64 {X : GX} (hE : gE X b_R_fit 7 "StandInMillModel" (some (.int)) "fit" 4 93) {S : gS} {o : Nat} {r : Int32} {d' : gD} {kx102 : gD → Int32 → Option (Int32 × gD)} (hkx102 : ∀ (d : gD) (v5 : Int32), kx102 d v5 = some (r, d') → gw X 0 0 (gQ X (some (.int r)) S d' 0 0) S d 102 [some (va_rf (some o)), none, none, none, none, some (.int v5), none] []) : ∀ (n : Nat) (d : gD) (v3 : Int32) (v5 : Int32) (v6 : Int32), itr (f_R_fit_B64 S o kx102) (fun _ _ _ _ => none) n d v3 v5 v6 = some (r, d') → gw X 0 0 (gQ X (some (.int r)) S d' 0 0) S d 64 [some (va_rf (some o)), none, none, some (.int v3), none, some (.int v5), some (.int v6)] [] := by
  intro n
  induction n with
  | zero => intro d v3 v5 v6 h; cases h
  | succ n ih => exact w_R_fit_B64 hE ih hkx102
def f_R_fit_J102 (S : gS) (o : Nat) (d : gD) (v5 : Int32) : Option (Int32 × gD) :=
  if v5 = 0 then (
    some (5, d))
  else (
    some (4, d))
set_option maxRecDepth 100000 in
set_option maxHeartbeats 4000000 in
theorem w_R_fit_J102 {X : GX} (hE : gE X b_R_fit 7 "StandInMillModel" (some (.int)) "fit" 4 93) {S : gS} {o : Nat} {r : Int32} {d' : gD} :
    ∀ (d : gD) (v5 : Int32), f_R_fit_J102 S o d v5 = some (r, d') → gw X 0 0 (gQ X (some (.int r)) S d' 0 0) S d 102 [some (va_rf (some o)), none, none, none, none, some (.int v5), none] [] := by
  intro d v5 h
  unfold f_R_fit_J102 at h
  refine g_iload (i := 5) hE d_R_fit_102 rfl ?_
  refine g_if_eq hE d_R_fit_104 (fun c1 => ?_) (fun c1 => ?_)
  · replace h := if_t c1 h
    refine g_iconst hE d_R_fit_111 ki_5 ?_
    cases h
    exact g_iret hE d_R_fit_112 rfl rfl
  · replace h := if_f c1 h
    refine g_iconst hE d_R_fit_107 ki_4 ?_
    refine g_goto hE d_R_fit_108 ?_
    cases h
    exact g_iret hE d_R_fit_112 rfl rfl
def f_R_fit_J59 (S : gS) (o : Nat) (d : gD) (v3 : Int32) (u0 : Int32) : Option (Int32 × gD) :=
  itr (f_R_fit_B64 S o (f_R_fit_J102 S o)) (fun _ _ _ _ => none) fu d v3 u0 0
set_option maxRecDepth 100000 in
set_option maxHeartbeats 4000000 in
theorem w_R_fit_J59 {X : GX} (hE : gE X b_R_fit 7 "StandInMillModel" (some (.int)) "fit" 4 93) {S : gS} {o : Nat} {r : Int32} {d' : gD} :
    ∀ (d : gD) (v3 : Int32) (u0 : Int32), f_R_fit_J59 S o d v3 u0 = some (r, d') → gw X 0 0 (gQ X (some (.int r)) S d' 0 0) S d 59 [some (va_rf (some o)), none, none, some (.int v3), none, none, none] [.int u0] := by
  intro d v3 u0 h
  unfold f_R_fit_J59 at h
  refine g_istore (i := 5) (lv' := [some (va_rf (some o)), none, none, some (.int v3), none, some (.int u0), none]) hE d_R_fit_59 (Nat.le_of_ble_eq_true rfl) ⟨rfl, Nat.le_of_ble_eq_true rfl⟩ (lvp_n rfl) ?_
  refine g_iconst hE d_R_fit_61 ki_0 ?_
  refine g_istore (i := 6) (lv' := [some (va_rf (some o)), none, none, some (.int v3), none, some (.int u0), some (.int 0)]) hE d_R_fit_62 (Nat.le_of_ble_eq_true rfl) ⟨rfl, Nat.le_of_ble_eq_true rfl⟩ (lvp_i rfl) ?_
  exact gw.less (lv' := [some (va_rf (some o)), none, none, some (.int v3), none, some (.int u0), some (.int 0)]) (And.intro rfl (And.intro rfl (And.intro rfl (And.intro rfl trivial)))) (w_R_fit_L64 hE (w_R_fit_J102 hE) fu d v3 u0 0 h)
set_option maxRecDepth 100000 in
def f_R_fit (S : gS) (d : gD) (o : Nat) (v1 : Int32) (v2 : Int32) : Option (Int32 × gD) :=
  kd S o 10 <|
  lt_ (sP S o 26) fun x2 =>
  nn x2 fun a3 =>
  kd S a3 50 <|
  gi v1 (sN S a3) <|
  lt_ (dI d a3 v1.toNatClampNeg) fun x6 =>
  lt_ (sP S o 14) fun x7 =>
  lt_ (sP S o 32) fun x8 =>
  nn x8 fun a9 =>
  kd S a9 50 <|
  gi v2 (sN S a9) <|
  lt_ (dI d a9 v2.toNatClampNeg) fun x12 =>
  nn x7 fun a13 =>
  kd S a13 50 <|
  gi x12 (sN S a13) <|
  lt_ (dI d a13 x12.toNatClampNeg) fun x16 =>
  lt_ (wL d o 43 (-1)) fun d17 =>
  lt_ (sP S o 27) fun x18 =>
  nn x18 fun a19 =>
  kd S a19 53 <|
  gi v1 (sN S a19) <|
  lt_ (dI d17 a19 v1.toNatClampNeg) fun x22 =>
  if x22 = 0 then (
    if x16 = 0 then (
      some (0, d17))
    else (
      bd (f_R_isPlain S d17 x16) fun x23 =>
      if x23 = 0 then (
        if x6 < 0 then (
          f_R_fit_J184 S o d17 x6)
        else (
          lt_ (sP S o 19) fun x25 =>
          nn x25 fun a26 =>
          kd S a26 50 <|
          gi x6 (sN S a26) <|
          lt_ (dI d17 a26 x6.toNatClampNeg) fun x29 =>
          bd (f_R_isBelow S d17 o x29 x16) fun x30 =>
          if x30 = 0 then (
            some (3, d17))
          else (
            f_R_fit_J184 S o d17 x6)))
      else (
        if x6 = (-1) then (
          some (2, d17))
        else (
          lt_ (sP S o 19) fun x34 =>
          nn x34 fun a35 =>
          kd S a35 50 <|
          gi x6 (sN S a35) <|
          lt_ (dI d17 a35 x6.toNatClampNeg) fun x38 =>
          if x38 = (40 + x16) then (
            lt_ (sP S o 20) fun x39 =>
            nn x39 fun a40 =>
            kd S a40 51 <|
            gi x6 (sN S a40) <|
            lt_ (dL d17 a40 x6.toNatClampNeg) fun x43 =>
            lt_ (wL d17 o 43 x43) fun d44 =>
            some (1, d44))
          else (
            some (3, d17))))))
  else (
    lt_ (wL d17 o 43 (Int32.toInt64 x6)) fun d49 =>
    bdD (f_R_catchFor S d49 o v2) fun _ d52 =>
    lt_ (dI d52 o 37) fun x53 =>
    if x53 = 0 then (
      f_R_fit_J59 S o d52 x6 1)
    else (
      f_R_fit_J59 S o d52 x6 0))
set_option maxRecDepth 100000 in
set_option maxHeartbeats 4000000 in
theorem c_R_fit (l : Launch) (G : gG) {S : gS} {d : gD} {o : Nat} {v1 : Int32} {v2 : Int32} {r : Int32} {d' : gD} (h : f_R_fit S d o v1 v2 = some (r, d')) : GM l G y_R_fit b_R_fit 7 (some (.int)) 4 93 0 0 [.inr (.inr (some o)), .inl v1, .inl v2] S d (some (.int r)) S d' := by
  refine GM.of (by decide) (Nat.le_of_ble_eq_true rfl) ?_
  intro X hl0 hG0 hR0 hE0
  have hE : gE X b_R_fit 7 "StandInMillModel" (some (.int)) "fit" 4 93 := hE0
  unfold f_R_fit at h
  refine gw.less (lv' := [some (va_rf (some o)), some (.int v1), some (.int v2), none, none, none, none]) (And.intro rfl (And.intro rfl (And.intro rfl trivial))) ?_
  refine g_aload_n (i := 0) hE d_R_fit_0 rfl rfl ?_
  obtain ⟨k1, h⟩ := kd_s h
  refine g_getR 26 hE kc_R k1 (Nat.le_of_ble_eq_true rfl) rfl m_403 d_R_fit_1 (fun x2 e => ?_)
  replace h := lt_i e h; clear e
  refine g_iload_n (i := 1) hE d_R_fit_4 rfl rfl ?_
  obtain ⟨a3, rfl, h⟩ := nn_s h
  obtain ⟨k4, h⟩ := kd_s h
  obtain ⟨g5, h⟩ := gi_s h
  refine g_iald hE k4 g5 d_R_fit_5 (fun x6 e => ?_)
  replace h := lt_i e h; clear e
  refine g_istore_n (i := 3) (lv' := [some (va_rf (some o)), some (.int v1), some (.int v2), some (.int x6), none, none, none]) hE d_R_fit_6 rfl (Nat.le_of_ble_eq_true rfl) ⟨rfl, Nat.le_of_ble_eq_true rfl⟩ (lvp_i rfl) ?_
  refine g_aload_n (i := 0) hE d_R_fit_7 rfl rfl ?_
  refine g_getR 14 hE kc_R k1 (Nat.le_of_ble_eq_true rfl) rfl m_391 d_R_fit_8 (fun x7 e => ?_)
  replace h := lt_i e h; clear e
  refine g_aload_n (i := 0) hE d_R_fit_11 rfl rfl ?_
  refine g_getR 32 hE kc_R k1 (Nat.le_of_ble_eq_true rfl) rfl m_409 d_R_fit_12 (fun x8 e => ?_)
  replace h := lt_i e h; clear e
  refine g_iload_n (i := 2) hE d_R_fit_15 rfl rfl ?_
  obtain ⟨a9, rfl, h⟩ := nn_s h
  obtain ⟨k10, h⟩ := kd_s h
  obtain ⟨g11, h⟩ := gi_s h
  refine g_iald hE k10 g11 d_R_fit_16 (fun x12 e => ?_)
  replace h := lt_i e h; clear e
  obtain ⟨a13, rfl, h⟩ := nn_s h
  obtain ⟨k14, h⟩ := kd_s h
  obtain ⟨g15, h⟩ := gi_s h
  refine g_iald hE k14 g15 d_R_fit_17 (fun x16 e => ?_)
  replace h := lt_i e h; clear e
  refine g_istore (i := 4) (lv' := [some (va_rf (some o)), some (.int v1), some (.int v2), some (.int x6), some (.int x16), none, none]) hE d_R_fit_18 (Nat.le_of_ble_eq_true rfl) ⟨rfl, Nat.le_of_ble_eq_true rfl⟩ (lvp_i rfl) ?_
  refine g_aload_n (i := 0) hE d_R_fit_20 rfl rfl ?_
  refine g_ldc2 hE d_R_fit_21 m_420 ?_
  refine g_putL 43 hE kc_R k1 (Nat.le_of_ble_eq_true rfl) rfl m_421 rfl (by decide +kernel) d_R_fit_24 (fun d17 e => ?_)
  replace h := lt_i e h; clear e
  refine g_aload_n (i := 0) hE d_R_fit_27 rfl rfl ?_
  refine g_getR 27 hE kc_R k1 (Nat.le_of_ble_eq_true rfl) rfl m_404 d_R_fit_28 (fun x18 e => ?_)
  replace h := lt_i e h; clear e
  refine g_iload_n (i := 1) hE d_R_fit_31 rfl rfl ?_
  obtain ⟨a19, rfl, h⟩ := nn_s h
  obtain ⟨k20, h⟩ := kd_s h
  obtain ⟨g21, h⟩ := gi_s h
  refine g_zald hE k20 g21 d_R_fit_32 (fun x22 e => ?_)
  replace h := lt_i e h; clear e
  refine g_if_eq hE d_R_fit_33 (fun c55 => ?_) (fun c55 => ?_)
  · replace h := if_t c55 h
    refine g_iload (i := 4) hE d_R_fit_113 rfl ?_
    refine g_if_ne hE d_R_fit_115 (fun c48 => ?_) (fun c48 => ?_)
    · replace h := if_f c48 h
      refine g_iload (i := 4) hE d_R_fit_120 rfl ?_
      obtain ⟨x23, e24, h⟩ := bd_s h
      refine g_callS (av := [.inl x16]) (stk := [.int x23]) [] hE (c_R_isPlain (xl X) (xG X) e24) ky_R_isPlain ⟨Nat.le_of_ble_eq_true rfl, Nat.le_of_ble_eq_true rfl⟩ m_425 m_426 rfl d_R_fit_122 rfl rfl ct_0 (Nat.zero_le _) (Nat.zero_le _) ?_
      refine gw.cs (c2 := 0) (s2 := 0) rfl rfl ?_
      refine g_if_eq hE d_R_fit_125 (fun c47 => ?_) (fun c47 => ?_)
      · replace h := if_t c47 h
        refine g_iload_n (i := 3) hE d_R_fit_163 rfl rfl ?_
        refine g_if_lt hE d_R_fit_164 (fun c33 => ?_) (fun c33 => ?_)
        · replace h := if_t c33 h
          exact gw.less (lv' := [some (va_rf (some o)), none, none, some (.int x6), none, none, none]) (And.intro rfl (And.intro rfl trivial)) (w_R_fit_J184 hE d17 x6 h)
        · replace h := if_f c33 h
          refine g_aload_n (i := 0) hE d_R_fit_167 rfl rfl ?_
          refine g_aload_n (i := 0) hE d_R_fit_168 rfl rfl ?_
          refine g_getR 19 hE kc_R k1 (Nat.le_of_ble_eq_true rfl) rfl m_396 d_R_fit_169 (fun x25 e => ?_)
          replace h := lt_i e h; clear e
          refine g_iload_n (i := 3) hE d_R_fit_172 rfl rfl ?_
          obtain ⟨a26, rfl, h⟩ := nn_s h
          obtain ⟨k27, h⟩ := kd_s h
          obtain ⟨g28, h⟩ := gi_s h
          refine g_iald hE k27 g28 d_R_fit_173 (fun x29 e => ?_)
          replace h := lt_i e h; clear e
          refine g_iload (i := 4) hE d_R_fit_174 rfl ?_
          obtain ⟨x30, e31, h⟩ := bd_s h
          refine g_callV (av := [.inr (.inr (some o)), .inl x29, .inl x16]) (as := [.inl x29, .inl x16]) (stk := [.int x30]) [] hE (c_R_isBelow (xl X) (xG X) e31) ky_R_isBelow ⟨Nat.le_of_ble_eq_true rfl, Nat.le_of_ble_eq_true rfl⟩ rfl kc_R k1 m_447 m_448 m_449 rfl d_R_fit_176 rfl rfl ct_0 (Nat.zero_le _) (Nat.zero_le _) ?_
          refine gw.cs (c2 := 0) (s2 := 0) rfl rfl ?_
          refine g_if_ne hE d_R_fit_179 (fun c32 => ?_) (fun c32 => ?_)
          · replace h := if_f c32 h
            exact gw.less (lv' := [some (va_rf (some o)), none, none, some (.int x6), none, none, none]) (And.intro rfl (And.intro rfl trivial)) (w_R_fit_J184 hE d17 x6 h)
          · replace h := if_t c32 h
            refine g_iconst hE d_R_fit_182 ki_3 ?_
            cases h
            exact g_iret hE d_R_fit_183 rfl rfl
      · replace h := if_f c47 h
        refine g_iload_n (i := 3) hE d_R_fit_128 rfl rfl ?_
        refine g_iconst hE d_R_fit_129 ki_m1 ?_
        refine g_icmp_ne hE d_R_fit_130 (fun c46 => ?_) (fun c46 => ?_)
        · replace h := if_f c46 h
          refine g_aload_n (i := 0) hE d_R_fit_135 rfl rfl ?_
          refine g_getR 19 hE kc_R k1 (Nat.le_of_ble_eq_true rfl) rfl m_396 d_R_fit_136 (fun x34 e => ?_)
          replace h := lt_i e h; clear e
          refine g_iload_n (i := 3) hE d_R_fit_139 rfl rfl ?_
          obtain ⟨a35, rfl, h⟩ := nn_s h
          obtain ⟨k36, h⟩ := kd_s h
          obtain ⟨g37, h⟩ := gi_s h
          refine g_iald hE k36 g37 d_R_fit_140 (fun x38 e => ?_)
          replace h := lt_i e h; clear e
          refine g_bipush hE d_R_fit_141 kb_40 ?_
          refine g_iload (i := 4) hE d_R_fit_143 rfl ?_
          refine g_iadd hE d_R_fit_145 ?_
          refine g_icmp_eq hE d_R_fit_146 (fun c45 => ?_) (fun c45 => ?_)
          · replace h := if_t c45 h
            refine g_aload_n (i := 0) hE d_R_fit_151 rfl rfl ?_
            refine g_aload_n (i := 0) hE d_R_fit_152 rfl rfl ?_
            refine g_getR 20 hE kc_R k1 (Nat.le_of_ble_eq_true rfl) rfl m_397 d_R_fit_153 (fun x39 e => ?_)
            replace h := lt_i e h; clear e
            refine g_iload_n (i := 3) hE d_R_fit_156 rfl rfl ?_
            obtain ⟨a40, rfl, h⟩ := nn_s h
            obtain ⟨k41, h⟩ := kd_s h
            obtain ⟨g42, h⟩ := gi_s h
            refine g_lald hE k41 g42 d_R_fit_157 (fun x43 e => ?_)
            replace h := lt_i e h; clear e
            refine g_putL 43 hE kc_R k1 (Nat.le_of_ble_eq_true rfl) rfl m_421 rfl (by decide +kernel) d_R_fit_158 (fun d44 e => ?_)
            replace h := lt_i e h; clear e
            refine g_iconst hE d_R_fit_161 ki_1 ?_
            cases h
            exact g_iret hE d_R_fit_162 rfl rfl
          · replace h := if_f c45 h
            refine g_iconst hE d_R_fit_149 ki_3 ?_
            cases h
            exact g_iret hE d_R_fit_150 rfl rfl
        · replace h := if_t c46 h
          refine g_iconst hE d_R_fit_133 ki_2 ?_
          cases h
          exact g_iret hE d_R_fit_134 rfl rfl
    · replace h := if_t c48 h
      refine g_iconst hE d_R_fit_118 ki_0 ?_
      cases h
      exact g_iret hE d_R_fit_119 rfl rfl
  · replace h := if_f c55 h
    refine g_aload_n (i := 0) hE d_R_fit_36 rfl rfl ?_
    refine g_iload_n (i := 3) hE d_R_fit_37 rfl rfl ?_
    refine g_i2l hE d_R_fit_38 ?_
    refine g_putL 43 hE kc_R k1 (Nat.le_of_ble_eq_true rfl) rfl m_421 rfl (by decide +kernel) d_R_fit_39 (fun d49 e => ?_)
    replace h := lt_i e h; clear e
    refine g_aload_n (i := 0) hE d_R_fit_42 rfl rfl ?_
    refine g_iload_n (i := 2) hE d_R_fit_43 rfl rfl ?_
    obtain ⟨x50, d52, e51, h⟩ := bdD_s h
    refine g_callV (av := [.inr (.inr (some o)), .inl v2]) (as := [.inl v2]) (stk := []) [] hE (c_R_catchFor (xl X) (xG X) e51) ky_R_catchFor ⟨Nat.le_of_ble_eq_true rfl, Nat.le_of_ble_eq_true rfl⟩ rfl kc_R k1 m_487 m_488 m_489 rfl d_R_fit_44 rfl rfl ct_0 (Nat.zero_le _) (Nat.zero_le _) ?_
    refine gw.cs (c2 := 0) (s2 := 0) rfl rfl ?_
    refine g_aload_n (i := 0) hE d_R_fit_47 rfl rfl ?_
    refine g_getI 37 hE kc_R k1 (Nat.le_of_ble_eq_true rfl) rfl m_414 d_R_fit_48 (fun x53 e => ?_)
    replace h := lt_i e h; clear e
    refine g_if_ne hE d_R_fit_51 (fun c54 => ?_) (fun c54 => ?_)
    · replace h := if_f c54 h
      refine g_iconst hE d_R_fit_58 ki_0 ?_
      exact gw.less (lv' := [some (va_rf (some o)), none, none, some (.int x6), none, none, none]) (And.intro rfl (And.intro rfl trivial)) (w_R_fit_J59 hE d52 x6 0 h)
    · replace h := if_t c54 h
      refine g_iconst hE d_R_fit_54 ki_1 ?_
      refine g_goto hE d_R_fit_55 ?_
      exact gw.less (lv' := [some (va_rf (some o)), none, none, some (.int x6), none, none, none]) (And.intro rfl (And.intro rfl trivial)) (w_R_fit_J59 hE d52 x6 1 h)
