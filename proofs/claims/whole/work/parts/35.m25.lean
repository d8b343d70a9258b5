theorem d_R_merge_0 : dc b_R_merge 0 (.aload_n 0) 1 1 := ⟨by decide +kernel, rfl⟩
theorem d_R_merge_1 : dc b_R_merge 1 (.getfield 115) 3 4 := ⟨by decide +kernel, rfl⟩
theorem d_R_merge_4 : dc b_R_merge 4 (.iload_n 1) 1 5 := ⟨by decide +kernel, rfl⟩
theorem d_R_merge_5 : dc b_R_merge 5 (.iaload) 1 6 := ⟨by decide +kernel, rfl⟩
theorem d_R_merge_6 : dc b_R_merge 6 (.istore_n 3) 1 7 := ⟨by decide +kernel, rfl⟩
theorem d_R_merge_7 : dc b_R_merge 7 (.iconst 0) 1 8 := ⟨by decide +kernel, rfl⟩
theorem d_R_merge_8 : dc b_R_merge 8 (.istore 4) 2 10 := ⟨by decide +kernel, rfl⟩
theorem d_R_merge_10 : dc b_R_merge 10 (.iconst 0) 1 11 := ⟨by decide +kernel, rfl⟩
theorem d_R_merge_11 : dc b_R_merge 11 (.istore 5) 2 13 := ⟨by decide +kernel, rfl⟩
theorem d_R_merge_13 : dc b_R_merge 13 (.iload 5) 2 15 := ⟨by decide +kernel, rfl⟩
theorem d_R_merge_15 : dc b_R_merge 15 (.iload_n 3) 1 16 := ⟨by decide +kernel, rfl⟩
theorem d_R_merge_16 : db b_R_merge 16 (.if_icmp .ge 28) 28 44 19 := ⟨by decide +kernel, by decide, rfl⟩
theorem d_R_merge_19 : dc b_R_merge 19 (.aload_n 0) 1 20 := ⟨by decide +kernel, rfl⟩
theorem d_R_merge_20 : dc b_R_merge 20 (.getfield 118) 3 23 := ⟨by decide +kernel, rfl⟩
theorem d_R_merge_23 : dc b_R_merge 23 (.iload 5) 2 25 := ⟨by decide +kernel, rfl⟩
theorem d_R_merge_25 : dc b_R_merge 25 (.aload_n 0) 1 26 := ⟨by decide +kernel, rfl⟩
theorem d_R_merge_26 : dc b_R_merge 26 (.getfield 112) 3 29 := ⟨by decide +kernel, rfl⟩
theorem d_R_merge_29 : dc b_R_merge 29 (.bipush 16) 2 31 := ⟨by decide +kernel, rfl⟩
theorem d_R_merge_31 : dc b_R_merge 31 (.iload_n 1) 1 32 := ⟨by decide +kernel, rfl⟩
theorem d_R_merge_32 : dc b_R_merge 32 (.imul) 1 33 := ⟨by decide +kernel, rfl⟩
theorem d_R_merge_33 : dc b_R_merge 33 (.iload 5) 2 35 := ⟨by decide +kernel, rfl⟩
theorem d_R_merge_35 : dc b_R_merge 35 (.iadd) 1 36 := ⟨by decide +kernel, rfl⟩
theorem d_R_merge_36 : dc b_R_merge 36 (.iaload) 1 37 := ⟨by decide +kernel, rfl⟩
theorem d_R_merge_37 : dc b_R_merge 37 (.iastore) 1 38 := ⟨by decide +kernel, rfl⟩
theorem d_R_merge_38 : dc b_R_merge 38 (.iinc 5 1) 3 41 := ⟨by decide +kernel, rfl⟩
theorem d_R_merge_41 : db b_R_merge 41 (.goto (-28)) (-28) 13 44 := ⟨by decide +kernel, by decide, rfl⟩
theorem d_R_merge_44 : dc b_R_merge 44 (.iconst 0) 1 45 := ⟨by decide +kernel, rfl⟩
theorem d_R_merge_45 : dc b_R_merge 45 (.istore 5) 2 47 := ⟨by decide +kernel, rfl⟩
theorem d_R_merge_47 : dc b_R_merge 47 (.iload 5) 2 49 := ⟨by decide +kernel, rfl⟩
theorem d_R_merge_49 : dc b_R_merge 49 (.iload_n 3) 1 50 := ⟨by decide +kernel, rfl⟩
theorem d_R_merge_50 : db b_R_merge 50 (.if_icmp .ge 46) 46 96 53 := ⟨by decide +kernel, by decide, rfl⟩
theorem d_R_merge_53 : dc b_R_merge 53 (.aload_n 0) 1 54 := ⟨by decide +kernel, rfl⟩
theorem d_R_merge_54 : dc b_R_merge 54 (.aload_n 0) 1 55 := ⟨by decide +kernel, rfl⟩
theorem d_R_merge_55 : dc b_R_merge 55 (.getfield 118) 3 58 := ⟨by decide +kernel, rfl⟩
theorem d_R_merge_58 : dc b_R_merge 58 (.iload 5) 2 60 := ⟨by decide +kernel, rfl⟩
theorem d_R_merge_60 : dc b_R_merge 60 (.iaload) 1 61 := ⟨by decide +kernel, rfl⟩
theorem d_R_merge_61 : dc b_R_merge 61 (.iload_n 2) 1 62 := ⟨by decide +kernel, rfl⟩
theorem d_R_merge_62 : dc b_R_merge 62 (.invokevirtual 187) 3 65 := ⟨by decide +kernel, rfl⟩
theorem d_R_merge_65 : db b_R_merge 65 (.ifCond .eq 25) 25 90 68 := ⟨by decide +kernel, by decide, rfl⟩
theorem d_R_merge_68 : dc b_R_merge 68 (.aload_n 0) 1 69 := ⟨by decide +kernel, rfl⟩
theorem d_R_merge_69 : dc b_R_merge 69 (.getfield 112) 3 72 := ⟨by decide +kernel, rfl⟩
theorem d_R_merge_72 : dc b_R_merge 72 (.bipush 16) 2 74 := ⟨by decide +kernel, rfl⟩
theorem d_R_merge_74 : dc b_R_merge 74 (.iload_n 1) 1 75 := ⟨by decide +kernel, rfl⟩
theorem d_R_merge_75 : dc b_R_merge 75 (.imul) 1 76 := ⟨by decide +kernel, rfl⟩
theorem d_R_merge_76 : dc b_R_merge 76 (.iload 4) 2 78 := ⟨by decide +kernel, rfl⟩
theorem d_R_merge_78 : dc b_R_merge 78 (.iadd) 1 79 := ⟨by decide +kernel, rfl⟩
theorem d_R_merge_79 : dc b_R_merge 79 (.aload_n 0) 1 80 := ⟨by decide +kernel, rfl⟩
theorem d_R_merge_80 : dc b_R_merge 80 (.getfield 118) 3 83 := ⟨by decide +kernel, rfl⟩
theorem d_R_merge_83 : dc b_R_merge 83 (.iload 5) 2 85 := ⟨by decide +kernel, rfl⟩
theorem d_R_merge_85 : dc b_R_merge 85 (.iaload) 1 86 := ⟨by decide +kernel, rfl⟩
theorem d_R_merge_86 : dc b_R_merge 86 (.iastore) 1 87 := ⟨by decide +kernel, rfl⟩
theorem d_R_merge_87 : dc b_R_merge 87 (.iinc 4 1) 3 90 := ⟨by decide +kernel, rfl⟩
theorem d_R_merge_90 : dc b_R_merge 90 (.iinc 5 1) 3 93 := ⟨by decide +kernel, rfl⟩
theorem d_R_merge_93 : db b_R_merge 93 (.goto (-46)) (-46) 47 96 := ⟨by decide +kernel, by decide, rfl⟩
theorem d_R_merge_96 : dc b_R_merge 96 (.iconst 0) 1 97 := ⟨by decide +kernel, rfl⟩
theorem d_R_merge_97 : dc b_R_merge 97 (.istore 5) 2 99 := ⟨by decide +kernel, rfl⟩
theorem d_R_merge_99 : dc b_R_merge 99 (.iload 5) 2 101 := ⟨by decide +kernel, rfl⟩
theorem d_R_merge_101 : dc b_R_merge 101 (.aload_n 0) 1 102 := ⟨by decide +kernel, rfl⟩
theorem d_R_merge_102 : dc b_R_merge 102 (.getfield 60) 3 105 := ⟨by decide +kernel, rfl⟩
theorem d_R_merge_105 : dc b_R_merge 105 (.iload_n 2) 1 106 := ⟨by decide +kernel, rfl⟩
theorem d_R_merge_106 : dc b_R_merge 106 (.iaload) 1 107 := ⟨by decide +kernel, rfl⟩
theorem d_R_merge_107 : db b_R_merge 107 (.if_icmp .ge 125) 125 232 110 := ⟨by decide +kernel, by decide, rfl⟩
theorem d_R_merge_110 : dc b_R_merge 110 (.aload_n 0) 1 111 := ⟨by decide +kernel, rfl⟩
theorem d_R_merge_111 : dc b_R_merge 111 (.getfield 63) 3 114 := ⟨by decide +kernel, rfl⟩
theorem d_R_merge_114 : dc b_R_merge 114 (.iconst 3) 1 115 := ⟨by decide +kernel, rfl⟩
theorem d_R_merge_115 : dc b_R_merge 115 (.iload_n 2) 1 116 := ⟨by decide +kernel, rfl⟩
theorem d_R_merge_116 : dc b_R_merge 116 (.imul) 1 117 := ⟨by decide +kernel, rfl⟩
theorem d_R_merge_117 : dc b_R_merge 117 (.iload 5) 2 119 := ⟨by decide +kernel, rfl⟩
theorem d_R_merge_119 : dc b_R_merge 119 (.iadd) 1 120 := ⟨by decide +kernel, rfl⟩
theorem d_R_merge_120 : dc b_R_merge 120 (.iaload) 1 121 := ⟨by decide +kernel, rfl⟩
theorem d_R_merge_121 : dc b_R_merge 121 (.istore 6) 2 123 := ⟨by decide +kernel, rfl⟩
theorem d_R_merge_123 : dc b_R_merge 123 (.iconst 0) 1 124 := ⟨by decide +kernel, rfl⟩
theorem d_R_merge_124 : dc b_R_merge 124 (.istore 7) 2 126 := ⟨by decide +kernel, rfl⟩
theorem d_R_merge_126 : dc b_R_merge 126 (.iconst 0) 1 127 := ⟨by decide +kernel, rfl⟩
theorem d_R_merge_127 : dc b_R_merge 127 (.istore 8) 2 129 := ⟨by decide +kernel, rfl⟩
theorem d_R_merge_129 : dc b_R_merge 129 (.iconst 0) 1 130 := ⟨by decide +kernel, rfl⟩
theorem d_R_merge_130 : dc b_R_merge 130 (.istore 9) 2 132 := ⟨by decide +kernel, rfl⟩
theorem d_R_merge_132 : dc b_R_merge 132 (.iload 9) 2 134 := ⟨by decide +kernel, rfl⟩
theorem d_R_merge_134 : dc b_R_merge 134 (.iload_n 3) 1 135 := ⟨by decide +kernel, rfl⟩
theorem d_R_merge_135 : db b_R_merge 135 (.if_icmp .ge 28) 28 163 138 := ⟨by decide +kernel, by decide, rfl⟩
theorem d_R_merge_138 : dc b_R_merge 138 (.aload_n 0) 1 139 := ⟨by decide +kernel, rfl⟩
theorem d_R_merge_139 : dc b_R_merge 139 (.iload 6) 2 141 := ⟨by decide +kernel, rfl⟩
theorem d_R_merge_141 : dc b_R_merge 141 (.aload_n 0) 1 142 := ⟨by decide +kernel, rfl⟩
theorem d_R_merge_142 : dc b_R_merge 142 (.getfield 118) 3 145 := ⟨by decide +kernel, rfl⟩
theorem d_R_merge_145 : dc b_R_merge 145 (.iload 9) 2 147 := ⟨by decide +kernel, rfl⟩
theorem d_R_merge_147 : dc b_R_merge 147 (.iaload) 1 148 := ⟨by decide +kernel, rfl⟩
theorem d_R_merge_148 : dc b_R_merge 148 (.invokevirtual 184) 3 151 := ⟨by decide +kernel, rfl⟩
theorem d_R_merge_151 : db b_R_merge 151 (.ifCond .eq 6) 6 157 154 := ⟨by decide +kernel, by decide, rfl⟩
theorem d_R_merge_154 : dc b_R_merge 154 (.iconst 1) 1 155 := ⟨by decide +kernel, rfl⟩
theorem d_R_merge_155 : dc b_R_merge 155 (.istore 7) 2 157 := ⟨by decide +kernel, rfl⟩
theorem d_R_merge_157 : dc b_R_merge 157 (.iinc 9 1) 3 160 := ⟨by decide +kernel, rfl⟩
theorem d_R_merge_160 : db b_R_merge 160 (.goto (-28)) (-28) 132 163 := ⟨by decide +kernel, by decide, rfl⟩
theorem d_R_merge_163 : dc b_R_merge 163 (.iconst 0) 1 164 := ⟨by decide +kernel, rfl⟩
theorem d_R_merge_164 : dc b_R_merge 164 (.istore 9) 2 166 := ⟨by decide +kernel, rfl⟩
theorem d_R_merge_166 : dc b_R_merge 166 (.iload 9) 2 168 := ⟨by decide +kernel, rfl⟩
theorem d_R_merge_168 : dc b_R_merge 168 (.iload 4) 2 170 := ⟨by decide +kernel, rfl⟩
theorem d_R_merge_170 : db b_R_merge 170 (.if_icmp .ge 29) 29 199 173 := ⟨by decide +kernel, by decide, rfl⟩
theorem d_R_merge_173 : dc b_R_merge 173 (.aload_n 0) 1 174 := ⟨by decide +kernel, rfl⟩
theorem d_R_merge_174 : dc b_R_merge 174 (.getfield 112) 3 177 := ⟨by decide +kernel, rfl⟩
theorem d_R_merge_177 : dc b_R_merge 177 (.bipush 16) 2 179 := ⟨by decide +kernel, rfl⟩
theorem d_R_merge_179 : dc b_R_merge 179 (.iload_n 1) 1 180 := ⟨by decide +kernel, rfl⟩
theorem d_R_merge_180 : dc b_R_merge 180 (.imul) 1 181 := ⟨by decide +kernel, rfl⟩
theorem d_R_merge_181 : dc b_R_merge 181 (.iload 9) 2 183 := ⟨by decide +kernel, rfl⟩
theorem d_R_merge_183 : dc b_R_merge 183 (.iadd) 1 184 := ⟨by decide +kernel, rfl⟩
theorem d_R_merge_184 : dc b_R_merge 184 (.iaload) 1 185 := ⟨by decide +kernel, rfl⟩
theorem d_R_merge_185 : dc b_R_merge 185 (.iload 6) 2 187 := ⟨by decide +kernel, rfl⟩
theorem d_R_merge_187 : db b_R_merge 187 (.if_icmp .ne 6) 6 193 190 := ⟨by decide +kernel, by decide, rfl⟩
theorem d_R_merge_190 : dc b_R_merge 190 (.iconst 1) 1 191 := ⟨by decide +kernel, rfl⟩
theorem d_R_merge_191 : dc b_R_merge 191 (.istore 8) 2 193 := ⟨by decide +kernel, rfl⟩
theorem d_R_merge_193 : dc b_R_merge 193 (.iinc 9 1) 3 196 := ⟨by decide +kernel, rfl⟩
theorem d_R_merge_196 : db b_R_merge 196 (.goto (-30)) (-30) 166 199 := ⟨by decide +kernel, by decide, rfl⟩
theorem d_R_merge_199 : dc b_R_merge 199 (.iload 7) 2 201 := ⟨by decide +kernel, rfl⟩
theorem d_R_merge_201 : db b_R_merge 201 (.ifCond .eq 25) 25 226 204 := ⟨by decide +kernel, by decide, rfl⟩
theorem d_R_merge_204 : dc b_R_merge 204 (.iload 8) 2 206 := ⟨by decide +kernel, rfl⟩
theorem d_R_merge_206 : db b_R_merge 206 (.ifCond .ne 20) 20 226 209 := ⟨by decide +kernel, by decide, rfl⟩
theorem d_R_merge_209 : dc b_R_merge 209 (.aload_n 0) 1 210 := ⟨by decide +kernel, rfl⟩
theorem d_R_merge_210 : dc b_R_merge 210 (.getfield 112) 3 213 := ⟨by decide +kernel, rfl⟩
theorem d_R_merge_213 : dc b_R_merge 213 (.bipush 16) 2 215 := ⟨by decide +kernel, rfl⟩
theorem d_R_merge_215 : dc b_R_merge 215 (.iload_n 1) 1 216 := ⟨by decide +kernel, rfl⟩
theorem d_R_merge_216 : dc b_R_merge 216 (.imul) 1 217 := ⟨by decide +kernel, rfl⟩
theorem d_R_merge_217 : dc b_R_merge 217 (.iload 4) 2 219 := ⟨by decide +kernel, rfl⟩
theorem d_R_merge_219 : dc b_R_merge 219 (.iadd) 1 220 := ⟨by decide +kernel, rfl⟩
theorem d_R_merge_220 : dc b_R_merge 220 (.iload 6) 2 222 := ⟨by decide +kernel, rfl⟩
theorem d_R_merge_222 : dc b_R_merge 222 (.iastore) 1 223 := ⟨by decide +kernel, rfl⟩
theorem d_R_merge_223 : dc b_R_merge 223 (.iinc 4 1) 3 226 := ⟨by decide +kernel, rfl⟩
theorem d_R_merge_226 : dc b_R_merge 226 (.iinc 5 1) 3 229 := ⟨by decide +kernel, rfl⟩
theorem d_R_merge_229 : db b_R_merge 229 (.goto (-130)) (-130) 99 232 := ⟨by decide +kernel, by decide, rfl⟩
theorem d_R_merge_232 : dc b_R_merge 232 (.aload_n 0) 1 233 := ⟨by decide +kernel, rfl⟩
theorem d_R_merge_233 : dc b_R_merge 233 (.getfield 115) 3 236 := ⟨by decide +kernel, rfl⟩
theorem d_R_merge_236 : dc b_R_merge 236 (.iload_n 1) 1 237 := ⟨by decide +kernel, rfl⟩
theorem d_R_merge_237 : dc b_R_merge 237 (.iload 4) 2 239 := ⟨by decide +kernel, rfl⟩
theorem d_R_merge_239 : dc b_R_merge 239 (.iastore) 1 240 := ⟨by decide +kernel, rfl⟩
theorem d_R_merge_240 : dc b_R_merge 240 (.return_) 1 241 := ⟨by decide +kernel, rfl⟩
def f_R_merge_B13 (S : gS) (o : Nat) (kx44 : gD → Int32 → Int32 → Int32 → Int32 → Option (Unit × gD)) (kb : gD → Int32 → Int32 → Int32 → Int32 → Int32 → Option (Unit × gD)) (d : gD) (v1 : Int32) (v2 : Int32) (v3 : Int32) (v4 : Int32) (v5 : Int32) : Option (Unit × gD) :=
  if v3 ≤ v5 then (
    kx44 d v1 v2 v3 v4)
  else (
    kd S o 10 <|
    lt_ (sP S o 35) fun x2 =>
    lt_ (sP S o 33) fun x3 =>
    nn x3 fun a4 =>
    kd S a4 50 <|
    gi ((16 * v1) + v5) (sN S a4) <|
    lt_ (dI d a4 ((16 * v1) + v5 : Int32).toNatClampNeg) fun x7 =>
    nn x2 fun a8 =>
    kd S a8 50 <|
    gi v5 (sN S a8) <|
    lt_ (wI d a8 v5.toNatClampNeg x7) fun d11 =>
    kb d11 v1 v2 v3 v4 (v5 + 1))
set_option maxRecDepth 100000 in
set_option maxHeartbeats 4000000 in
theorem w_R_merge_B13 {X : GX} (hE : gE X b_R_merge 10 "StandInMillModel" none "merge" 4 90) {S : gS} {o : Nat} {r : Unit} {d' : gD} {kb : gD → Int32 → Int32 → Int32 → Int32 → Int32 → Option (Unit × gD)} {kx44 : gD → Int32 → Int32 → Int32 → Int32 → Option (Unit × gD)} (hkb : ∀ (d : gD) (v1 : Int32) (v2 : Int32) (v3 : Int32) (v4 : Int32) (v5 : Int32), kb d v1 v2 v3 v4 v5 = some (r, d') → gw X 0 0 (gQ X (none) S d' 0 0) S d 13 [some (va_rf (some o)), some (.int v1), some (.int v2), some (.int v3), some (.int v4), some (.int v5), none, none, none, none] []) (hkx44 : ∀ (d : gD) (v1 : Int32) (v2 : Int32) (v3 : Int32) (v4 : Int32), kx44 d v1 v2 v3 v4 = some (r, d') → gw X 0 0 (gQ X (none) S d' 0 0) S d 44 [some (va_rf (some o)), some (.int v1), some (.int v2), some (.int v3), some (.int v4), none, none, none, none, none] []) :
    ∀ (d : gD) (v1 : Int32) (v2 : Int32) (v3 : Int32) (v4 : Int32) (v5 : Int32), f_R_merge_B13 S o kx44 kb d v1 v2 v3 v4 v5 = some (r, d') → gw X 0 0 (gQ X (none) S d' 0 0) S d 13 [some (va_rf (some o)), some (.int v1), some (.int v2), some (.int v3), some (.int v4), some (.int v5), none, none, none, none] [] := by
  intro d v1 v2 v3 v4 v5 h
  unfold f_R_merge_B13 at h
  refine g_iload (i := 5) hE d_R_merge_13 rfl ?_
  refine g_iload_n (i := 3) hE d_R_merge_15 rfl rfl ?_
  refine g_icmp_ge hE d_R_merge_16 (fun c12 => ?_) (fun c12 => ?_)
  · replace h := if_t c12 h
    exact gw.less (lv' := [some (va_rf (some o)), some (.int v1), some (.int v2), some (.int v3), some (.int v4), none, none, none, none, none]) (And.intro rfl (And.intro rfl (And.intro rfl (And.intro rfl (And.intro rfl trivial))))) (hkx44 d v1 v2 v3 v4 h)
  · replace h := if_f c12 h
    refine g_aload_n (i := 0) hE d_R_merge_19 rfl rfl ?_
    obtain ⟨k1, h⟩ := kd_s h
    refine g_getR 35 hE kc_R k1 (Nat.le_of_ble_eq_true rfl) rfl m_412 d_R_merge_20 (fun x2 e => ?_)
    replace h := lt_i e h; clear e
    refine g_iload (i := 5) hE d_R_merge_23 rfl ?_
    refine g_aload_n (i := 0) hE d_R_merge_25 rfl rfl ?_
    refine g_getR 33 hE kc_R k1 (Nat.le_of_ble_eq_true rfl) rfl m_410 d_R_merge_26 (fun x3 e => ?_)
    replace h := lt_i e h; clear e
    refine g_bipush hE d_R_merge_29 kb_16 ?_
    refine g_iload_n (i := 1) hE d_R_merge_31 rfl rfl ?_
    refine g_imul hE d_R_merge_32 ?_
    refine g_iload (i := 5) hE d_R_merge_33 rfl ?_
    refine g_iadd hE d_R_merge_35 ?_
    obtain ⟨a4, rfl, h⟩ := nn_s h
    obtain ⟨k5, h⟩ := kd_s h
    obtain ⟨g6, h⟩ := gi_s h
    refine g_iald hE k5 g6 d_R_merge_36 (fun x7 e => ?_)
    replace h := lt_i e h; clear e
    obtain ⟨a8, rfl, h⟩ := nn_s h
    obtain ⟨k9, h⟩ := kd_s h
    obtain ⟨g10, h⟩ := gi_s h
    refine g_iast hE k9 g10 d_R_merge_37 (fun d11 e => ?_)
    replace h := lt_i e h; clear e
    refine g_iinc (i := 5) (lv' := [some (va_rf (some o)), some (.int v1), some (.int v2), some (.int v3), some (.int v4), some (.int (v5 + 1)), none, none, none, none]) hE d_R_merge_38 ki_1 rfl (Nat.le_of_ble_eq_true rfl) ⟨rfl, Nat.le_of_ble_eq_true rfl⟩ (lvp_i rfl) ?_
    refine g_goto hE d_R_merge_41 ?_
    exact gw.less (lv' := [some (va_rf (some o)), some (.int v1), some (.int v2), some (.int v3), some (.int v4), some (.int (v5 + 1)), none, none, none, none]) (And.intro rfl (And.intro rfl (And.intro rfl (And.intro rfl (And.intro rfl (And.intro rfl trivial)))))) (hkb d11 v1 v2 v3 v4 (v5 + 1) h)
theorem w_R_merge_L13 {X : GX} (hE : gE X b_R_merge 10 "StandInMillModel" none "merge" 4 90) {S : gS} {o : Nat} {r : Unit} {d' : gD} {kx44 : gD → Int32 → Int32 → Int32 → Int32 → Option (Unit × gD)} (hkx44 : ∀ (d : gD) (v1 : Int32) (v2 : Int32) (v3 : Int32) (v4 : Int32), kx44 d v1 v2 v3 v4 = some (r, d') → gw X 0 0 (gQ X (none) S d' 0 0) S d 44 [some (va_rf (some o)), some (.int v1), some (.int v2), some (.int v3), some (.int v4), none, none, none, none, none] []) : ∀ (n : Nat) (d : gD) (v1 : Int32) (v2 : Int32) (v3 : Int32) (v4 : Int32) (v5 : Int32), itr (f_R_merge_B13 S o kx44) (fun _ _ _ _ _ _ => none) n d v1 v2 v3 v4 v5 = some (r, d') → gw X 0 0 (gQ X (none) S d' 0 0) S d 13 [some (va_rf (some o)), some (.int v1), some (.int v2), some (.int v3), some (.int v4), some (.int v5), none, none, none, none] [] := by
  intro n
  induction n with
  | zero => intro d v1 v2 v3 v4 v5 h; cases h
  | succ n ih => exact w_R_merge_B13 hE ih hkx44
def f_R_merge_J90 (S : gS) (o : Nat) (kx96 : gD → Int32 → Int32 → Int32 → Int32 → Option (Unit × gD)) (kb : gD → Int32 → Int32 → Int32 → Int32 → Int32 → Option (Unit × gD)) (d : gD) (v1 : Int32) (v2 : Int32) (v3 : Int32) (v4 : Int32) (v5 : Int32) : Option (Unit × gD) :=
  kb d v1 v2 v3 v4 (v5 + 1)
set_option maxRecDepth 100000 in
set_option maxHeartbeats 4000000 in
theorem w_R_merge_J90 {X : GX} (hE : gE X b_R_merge 10 "StandInMillModel" none "merge" 4 90) {S : gS} {o : Nat} {r : Unit} {d' : gD} {kb : gD → Int32 → Int32 → Int32 → Int32 → Int32 → Option (Unit × gD)} {kx96 : gD → Int32 → Int32 → Int32 → Int32 → Option (Unit × gD)} (hkb : ∀ (d : gD) (v1 : Int32) (v2 : Int32) (v3 : Int32) (v4 : Int32) (v5 : Int32), kb d v1 v2 v3 v4 v5 = some (r, d') → gw X 0 0 (gQ X (none) S d' 0 0) S d 47 [some (va_rf (some o)), some (.int v1), some (.int v2), some (.int v3), some (.int v4), some (.int v5), none, none, none, none] []) (hkx96 : ∀ (d : gD) (v1 : Int32) (v2 : Int32) (v3 : Int32) (v4 : Int32), kx96 d v1 v2 v3 v4 = some (r, d') → gw X 0 0 (gQ X (none) S d' 0 0) S d 96 [some (va_rf (some o)), some (.int v1), some (.int v2), some (.int v3), some (.int v4), none, none, none, none, none] []) :
    ∀ (d : gD) (v1 : Int32) (v2 : Int32) (v3 : Int32) (v4 : Int32) (v5 : Int32), f_R_merge_J90 S o kx96 kb d v1 v2 v3 v4 v5 = some (r, d') → gw X 0 0 (gQ X (none) S d' 0 0) S d 90 [some (va_rf (some o)), some (.int v1), some (.int v2), some (.int v3), some (.int v4), some (.int v5), none, none, none, none] [] := by
  intro d v1 v2 v3 v4 v5 h
  unfold f_R_merge_J90 at h
  refine g_iinc (i := 5) (lv' := [some (va_rf (some o)), some (.int v1), some (.int v2), some (.int v3), some (.int v4), some (.int (v5 + 1)), none, none, none, none]) hE d_R_merge_90 ki_1 rfl (Nat.le_of_ble_eq_true rfl) ⟨rfl, Nat.le_of_ble_eq_true rfl⟩ (lvp_i rfl) ?_
  refine g_goto hE d_R_merge_93 ?_
  exact gw.less (lv' := [some (va_rf (some o)), some (.int v1), some (.int v2), some (.int v3), some (.int v4), some (.int (v5 + 1)), none, none, none, none]) (And.intro rfl (And.intro rfl (And.intro rfl (And.intro rfl (And.intro rfl (And.intro rfl trivial)))))) (hkb d v1 v2 v3 v4 (v5 + 1) h)
def f_R_merge_B47 (S : gS) (o : Nat) (kx96 : gD → Int32 → Int32 → Int32 → Int32 → Option (Unit × gD)) (kb : gD → Int32 → Int32 → Int32 → Int32 → Int32 → Option (Unit × gD)) (d : gD) (v1 : Int32) (v2 : Int32) (v3 : Int32) (v4 : Int32) (v5 : Int32) : Option (Unit × gD) :=
  if v3 ≤ v5 then (
    kx96 d v1 v2 v3 v4)
  else (
    kd S o 10 <|
    lt_ (sP S o 35) fun x2 =>
    nn x2 fun a3 =>
    kd S a3 50 <|
    gi v5 (sN S a3) <|
    lt_ (dI d a3 v5.toNatClampNeg) fun x6 =>
    bd (f_R_belowOneOf S d o x6 v2) fun x7 =>
    if x7 = 0 then (
      f_R_merge_J90 S o kx96 kb d v1 v2 v3 v4 v5)
    else (
      lt_ (sP S o 33) fun x9 =>
      lt_ (sP S o 35) fun x10 =>
      nn x10 fun a11 =>
      kd S a11 50 <|
      gi v5 (sN S a11) <|
      lt_ (dI d a11 v5.toNatClampNeg) fun x14 =>
      nn x9 fun a15 =>
      kd S a15 50 <|
      gi ((16 * v1) + v4) (sN S a15) <|
      lt_ (wI d a15 ((16 * v1) + v4 : Int32).toNatClampNeg x14) fun d18 =>
      f_R_merge_J90 S o kx96 kb d18 v1 v2 v3 (v4 + 1) v5))
set_option maxRecDepth 100000 in
set_option maxHeartbeats 4000000 in
theorem w_R_merge_B47 {X : GX} (hE : gE X b_R_merge 10 "StandInMillModel" none "merge" 4 90) {S : gS} {o : Nat} {r : Unit} {d' : gD} {kb : gD → Int32 → Int32 → Int32 → Int32 → Int32 → Option (Unit × gD)} {kx96 : gD → Int32 → Int32 → Int32 → Int32 → Option (Unit × gD)} (hkb : ∀ (d : gD) (v1 : Int32) (v2 : Int32) (v3 : Int32) (v4 : Int32) (v5 : Int32), kb d v1 v2 v3 v4 v5 = some (r, d') → gw X 0 0 (gQ X (none) S d' 0 0) S d 47 [some (va_rf (some o)), some (.int v1), some (.int v2), some (.int v3), some (.int v4), some (.int v5), none, none, none, none] []) (hkx96 : ∀ (d : gD) (v1 : Int32) (v2 : Int32) (v3 : Int32) (v4 : Int32), kx96 d v1 v2 v3 v4 = some (r, d') → gw X 0 0 (gQ X (none) S d' 0 0) S d 96 [some (va_rf (some o)), some (.int v1), some (.int v2), some (.int v3), some (.int v4), none, none, none, none, none] []) :
    ∀ (d : gD) (v1 : Int32) (v2 : Int32) (v3 : Int32) (v4 : Int32) (v5 : Int32), f_R_merge_B47 S o kx96 kb d v1 v2 v3 v4 v5 = some (r, d') → gw X 0 0 (gQ X (none) S d' 0 0) S d 47 [some (va_rf (some o)), some (.int v1), some (.int v2), some (.int v3), some (.int v4), some (.int v5), none, none, none, none] [] := by
  intro d v1 v2 v3 v4 v5 h
  unfold f_R_merge_B47 at h
  refine g_iload (i := 5) hE d_R_merge_47 rfl ?_
  refine g_iload_n (i := 3) hE d_R_merge_49 rfl rfl ?_
  refine g_icmp_ge hE d_R_merge_50 (fun c20 => ?_) (fun c20 => ?_)
  · replace h := if_t c20 h
    exact gw.less (lv' := [some (va_rf (some o)), some (.int v1), some (.int v2), some (.int v3), some (.int v4), none, none, none, none, none]) (And.intro rfl (And.intro rfl (And.intro rfl (And.intro rfl (And.intro rfl trivial))))) (hkx96 d v1 v2 v3 v4 h)
  · replace h := if_f c20 h
    refine g_aload_n (i := 0) hE d_R_merge_53 rfl rfl ?_
    refine g_aload_n (i := 0) hE d_R_merge_54 rfl rfl ?_
    obtain ⟨k1, h⟩ := kd_s h
    refine g_getR 35 hE kc_R k1 (Nat.le_of_ble_eq_true rfl) rfl m_412 d_R_merge_55 (fun x2 e => ?_)
    replace h := lt_i e h; clear e
    refine g_iload (i := 5) hE d_R_merge_58 rfl ?_
    obtain ⟨a3, rfl, h⟩ := nn_s h
    obtain ⟨k4, h⟩ := kd_s h
    obtain ⟨g5, h⟩ := gi_s h
    refine g_iald hE k4 g5 d_R_merge_60 (fun x6 e => ?_)
    replace h := lt_i e h; clear e
    refine g_iload_n (i := 2) hE d_R_merge_61 rfl rfl ?_
    obtain ⟨x7, e8, h⟩ := bd_s h
    refine g_callV (av := [.inr (.inr (some o)), .inl x6, .inl v2]) (as := [.inl x6, .inl v2]) (stk := [.int x7]) [] hE (c_R_belowOneOf (xl X) (xG X) e8) ky_R_belowOneOf ⟨Nat.le_of_ble_eq_true rfl, Nat.le_of_ble_eq_true rfl⟩ rfl kc_R k1 m_450 m_451 m_452 rfl d_R_merge_62 rfl rfl ct_0 (Nat.zero_le _) (Nat.zero_le _) ?_
    refine gw.cs (c2 := 0) (s2 := 0) rfl rfl ?_
    refine g_if_eq hE d_R_merge_65 (fun c19 => ?_) (fun c19 => ?_)
    · replace h := if_t c19 h
      exact gw.less (lv' := [some (va_rf (some o)), some (.int v1), some (.int v2), some (.int v3), some (.int v4), some (.int v5), none, none, none, none]) (And.intro rfl (And.intro rfl (And.intro rfl (And.intro rfl (And.intro rfl (And.intro rfl trivial)))))) (w_R_merge_J90 hE hkb hkx96 d v1 v2 v3 v4 v5 h)
    · replace h := if_f c19 h
      refine g_aload_n (i := 0) hE d_R_merge_68 rfl rfl ?_
      refine g_getR 33 hE kc_R k1 (Nat.le_of_ble_eq_true rfl) rfl m_410 d_R_merge_69 (fun x9 e => ?_)
      replace h := lt_i e h; clear e
      refine g_bipush hE d_R_merge_72 kb_16 ?_
      refine g_iload_n (i := 1) hE d_R_merge_74 rfl rfl ?_
      refine g_imul hE d_R_merge_75 ?_
      refine g_iload (i := 4) hE d_R_merge_76 rfl ?_
      refine g_iadd hE d_R_merge_78 ?_
      refine g_aload_n (i := 0) hE d_R_merge_79 rfl rfl ?_
      refine g_getR 35 hE kc_R k1 (Nat.le_of_ble_eq_true rfl) rfl m_412 d_R_merge_80 (fun x10 e => ?_)
      replace h := lt_i e h; clear e
      refine g_iload (i := 5) hE d_R_merge_83 rfl ?_
      obtain ⟨a11, rfl, h⟩ := nn_s h
      obtain ⟨k12, h⟩ := kd_s h
      obtain ⟨g13, h⟩ := gi_s h
      refine g_iald hE k12 g13 d_R_merge_85 (fun x14 e => ?_)
      replace h := lt_i e h; clear e
      obtain ⟨a15, rfl, h⟩ := nn_s h
      obtain ⟨k16, h⟩ := kd_s h
      obtain ⟨g17, h⟩ := gi_s h
      refine g_iast hE k16 g17 d_R_merge_86 (fun d18 e => ?_)
      replace h := lt_i e h; clear e
      refine g_iinc (i := 4) (lv' := [some (va_rf (some o)), some (.int v1), some (.int v2), some (.int v3), some (.int (v4 + 1)), some (.int v5), none, none, none, none]) hE d_R_merge_87 ki_1 rfl (Nat.le_of_ble_eq_true rfl) ⟨rfl, Nat.le_of_ble_eq_true rfl⟩ (lvp_i rfl) ?_
      exact gw.less (lv' := [some (va_rf (some o)), some (.int v1), some (.int v2), some (.int v3), some (.int (v4 + 1)), some (.int v5), none, none, none, none]) (And.intro rfl (And.intro rfl (And.intro rfl (And.intro rfl (And.intro rfl (And.intro rfl trivial)))))) (w_R_merge_J90 hE hkb hkx96 d18 v1 v2 v3 (v4 + 1) v5 h)
theorem w_R_merge_L47 {X : GX} (hE : gE X b_R_merge 10 "StandInMillModel" none "merge" 4 90) {S : gS} {o : Nat} {r : Unit} {d' : gD} {kx96 : gD → Int32 → Int32 → Int32 → Int32 → Option (Unit × gD)} (hkx96 : ∀ (d : gD) (v1 : Int32) (v2 : Int32) (v3 : Int32) (v4 : Int32), kx96 d v1 v2 v3 v4 = some (r, d') → gw X 0 0 (gQ X (none) S d' 0 0) S d 96 [some (va_rf (some o)), some (.int v1), some (.int v2), some (.int v3), some (.int v4), none, none, none, none, none] []) : ∀ (n : Nat) (d : gD) (v1 : Int32) (v2 : Int32) (v3 : Int32) (v4 : Int32) (v5 : Int32), itr (f_R_merge_B47 S o kx96) (fun _ _ _ _ _ _ => none) n d v1 v2 v3 v4 v5 = some (r, d') → gw X 0 0 (gQ X (none) S d' 0 0) S d 47 [some (va_rf (some o)), some (.int v1), some (.int v2), some (.int v3), some (.int v4), some (.int v5), none, none, none, none] [] := by
  intro n
  induction n with
  | zero => intro d v1 v2 v3 v4 v5 h; cases h
  | succ n ih => exact w_R_merge_B47 hE ih hkx96
def f_R_merge_J157 (S : gS) (o : Nat) (kx163 : gD → Int32 → Int32 → Int32 → Int32 → Int32 → Int32 → Int32 → Int32 → Option (Unit × gD)) (kb : gD → Int32 → Int32 → Int32 → Int32 → Int32 → Int32 → Int32 → Int32 → Int32 → Option (Unit × gD)) (d : gD) (v1 : Int32) (v2 : Int32) (v3 : Int32) (v4 : Int32) (v5 : Int32) (v6 : Int32) (v7 : Int32) (v8 : Int32) (v9 : Int32) : Option (Unit × gD) :=
  kb d v1 v2 v3 v4 v5 v6 v7 v8 (v9 + 1)
set_option maxRecDepth 100000 in
set_option maxHeartbeats 4000000 in
theorem w_R_merge_J157 {X : GX} (hE : gE X b_R_merge 10 "StandInMillModel" none "merge" 4 90) {S : gS} {o : Nat} {r : Unit} {d' : gD} {kb : gD → Int32 → Int32 → Int32 → Int32 → Int32 → Int32 → Int32 → Int32 → Int32 → Option (Unit × gD)} {kx163 : gD → Int32 → Int32 → Int32 → Int32 → Int32 → Int32 → Int32 → Int32 → Option (Unit × gD)} (hkb : ∀ (d : gD) (v1 : Int32) (v2 : Int32) (v3 : Int32) (v4 : Int32) (v5 : Int32) (v6 : Int32) (v7 : Int32) (v8 : Int32) (v9 : Int32), kb d v1 v2 v3 v4 v5 v6 v7 v8 v9 = some (r, d') → gw X 0 0 (gQ X (none) S d' 0 0) S d 132 [some (va_rf (some o)), some (.int v1), some (.int v2), some (.int v3), some (.int v4), some (.int v5), some (.int v6), some (.int v7), some (.int v8), some (.int v9)] []) (hkx163 : ∀ (d : gD) (v1 : Int32) (v2 : Int32) (v3 : Int32) (v4 : Int32) (v5 : Int32) (v6 : Int32) (v7 : Int32) (v8 : Int32), kx163 d v1 v2 v3 v4 v5 v6 v7 v8 = some (r, d') → gw X 0 0 (gQ X (none) S d' 0 0) S d 163 [some (va_rf (some o)), some (.int v1), some (.int v2), some (.int v3), some (.int v4), some (.int v5), some (.int v6), some (.int v7), some (.int v8), none] []) :
    ∀ (d : gD) (v1 : Int32) (v2 : Int32) (v3 : Int32) (v4 : Int32) (v5 : Int32) (v6 : Int32) (v7 : Int32) (v8 : Int32) (v9 : Int32), f_R_merge_J157 S o kx163 kb d v1 v2 v3 v4 v5 v6 v7 v8 v9 = some (r, d') → gw X 0 0 (gQ X (none) S d' 0 0) S d 157 [some (va_rf (some o)), some (.int v1), some (.int v2), some (.int v3), some (.int v4), some (.int v5), some (.int v6), some (.int v7), some (.int v8), some (.int v9)] [] := by
  intro d v1 v2 v3 v4 v5 v6 v7 v8 v9 h
  unfold f_R_merge_J157 at h
  refine g_iinc (i := 9) (lv' := [some (va_rf (some o)), some (.int v1), some (.int v2), some (.int v3), some (.int v4), some (.int v5), some (.int v6), some (.int v7), some (.int v8), some (.int (v9 + 1))]) hE d_R_merge_157 ki_1 rfl (Nat.le_of_ble_eq_true rfl) ⟨rfl, Nat.le_of_ble_eq_true rfl⟩ (lvp_i rfl) ?_
  refine g_goto hE d_R_merge_160 ?_
  exact gw.less (lv' := [some (va_rf (some o)), some (.int v1), some (.int v2), some (.int v3), some (.int v4), some (.int v5), some (.int v6), some (.int v7), some (.int v8), some (.int (v9 + 1))]) (And.intro rfl (And.intro rfl (And.intro rfl (And.intro rfl (And.intro rfl (And.intro rfl (And.intro rfl (And.intro rfl (And.intro rfl (And.intro rfl trivial)))))))))) (hkb d v1 v2 v3 v4 v5 v6 v7 v8 (v9 + 1) h)
def f_R_merge_B132 (S : gS) (o : Nat) (kx163 : gD → Int32 → Int32 → Int32 → Int32 → Int32 → Int32 → Int32 → Int32 → Option (Unit × gD)) (kb : gD → Int32 → Int32 → Int32 → Int32 → Int32 → Int32 → Int32 → Int32 → Int32 → Option (Unit × gD)) (d : gD) (v1 : Int32) (v2 : Int32) (v3 : Int32) (v4 : Int32) (v5 : Int32) (v6 : Int32) (v7 : Int32) (v8 : Int32) (v9 : Int32) : Option (Unit × gD) :=
  if v3 ≤ v9 then (
    kx163 d v1 v2 v3 v4 v5 v6 v7 v8)
  else (
    kd S o 10 <|
    lt_ (sP S o 35) fun x2 =>
    nn x2 fun a3 =>
    kd S a3 50 <|
    gi v9 (sN S a3) <|
    lt_ (dI d a3 v9.toNatClampNeg) fun x6 =>
    bd (f_R_isBelow S d o v6 x6) fun x7 =>
    if x7 = 0 then (
      f_R_merge_J157 S o kx163 kb d v1 v2 v3 v4 v5 v6 v7 v8 v9)
    else (
      f_R_merge_J157 S o kx163 kb d v1 v2 v3 v4 v5 v6 1 v8 v9))
set_option maxRecDepth 100000 in
set_option maxHeartbeats 4000000 in
theorem w_R_merge_B132 {X : GX} (hE : gE X b_R_merge 10 "StandInMillModel" none "merge" 4 90) {S : gS} {o : Nat} {r : Unit} {d' : gD} {kb : gD → Int32 → Int32 → Int32 → Int32 → Int32 → Int32 → Int32 → Int32 → Int32 → Option (Unit × gD)} {kx163 : gD → Int32 → Int32 → Int32 → Int32 → Int32 → Int32 → Int32 → Int32 → Option (Unit × gD)} (hkb : ∀ (d : gD) (v1 : Int32) (v2 : Int32) (v3 : Int32) (v4 : Int32) (v5 : Int32) (v6 : Int32) (v7 : Int32) (v8 : Int32) (v9 : Int32), kb d v1 v2 v3 v4 v5 v6 v7 v8 v9 = some (r, d') → gw X 0 0 (gQ X (none) S d' 0 0) S d 132 [some (va_rf (some o)), some (.int v1), some (.int v2), some (.int v3), some (.int v4), some (.int v5), some (.int v6), some (.int v7), some (.int v8), some (.int v9)] []) (hkx163 : ∀ (d : gD) (v1 : Int32) (v2 : Int32) (v3 : Int32) (v4 : Int32) (v5 : Int32) (v6 : Int32) (v7 : Int32) (v8 : Int32), kx163 d v1 v2 v3 v4 v5 v6 v7 v8 = some (r, d') → gw X 0 0 (gQ X (none) S d' 0 0) S d 163 [some (va_rf (some o)), some (.int v1), some (.int v2), some (.int v3), some (.int v4), some (.int v5), some (.int v6), some (.int v7), some (.int v8), none] []) :
    ∀ (d : gD) (v1 : Int32) (v2 : Int32) (v3 : Int32) (v4 : Int32) (v5 : Int32) (v6 : Int32) (v7 : Int32) (v8 : Int32) (v9 : Int32), f_R_merge_B132 S o kx163 kb d v1 v2 v3 v4 v5 v6 v7 v8 v9 = some (r, d') → gw X 0 0 (gQ X (none) S d' 0 0) S d 132 [some (va_rf (some o)), some (.int v1), some (.int v2), some (.int v3), some (.int v4), some (.int v5), some (.int v6), some (.int v7), some (.int v8), some (.int v9)] [] := by
  intro d v1 v2 v3 v4 v5 v6 v7 v8 v9 h
  unfold f_R_merge_B132 at h
  refine g_iload (i := 9) hE d_R_merge_132 rfl ?_
  refine g_iload_n (i := 3) hE d_R_merge_134 rfl rfl ?_
  refine g_icmp_ge hE d_R_merge_135 (fun c10 => ?_) (fun c10 => ?_)
  · replace h := if_t c10 h
    exact gw.less (lv' := [some (va_rf (some o)), some (.int v1), some (.int v2), some (.int v3), some (.int v4), some (.int v5), some (.int v6), some (.int v7), some (.int v8), none]) (And.intro rfl (And.intro rfl (And.intro rfl (And.intro rfl (And.intro rfl (And.intro rfl (And.intro rfl (And.intro rfl (And.intro rfl trivial))))))))) (hkx163 d v1 v2 v3 v4 v5 v6 v7 v8 h)
  · replace h := if_f c10 h
    refine g_aload_n (i := 0) hE d_R_merge_138 rfl rfl ?_
    refine g_iload (i := 6) hE d_R_merge_139 rfl ?_
    refine g_aload_n (i := 0) hE d_R_merge_141 rfl rfl ?_
    obtain ⟨k1, h⟩ := kd_s h
    refine g_getR 35 hE kc_R k1 (Nat.le_of_ble_eq_true rfl) rfl m_412 d_R_merge_142 (fun x2 e => ?_)
    replace h := lt_i e h; clear e
    refine g_iload (i := 9) hE d_R_merge_145 rfl ?_
    obtain ⟨a3, rfl, h⟩ := nn_s h
    obtain ⟨k4, h⟩ := kd_s h
    obtain ⟨g5, h⟩ := gi_s h
    refine g_iald hE k4 g5 d_R_merge_147 (fun x6 e => ?_)
    replace h := lt_i e h; clear e
    obtain ⟨x7, e8, h⟩ := bd_s h
    refine g_callV (av := [.inr (.inr (some o)), .inl v6, .inl x6]) (as := [.inl v6, .inl x6]) (stk := [.int x7]) [] hE (c_R_isBelow (xl X) (xG X) e8) ky_R_isBelow ⟨Nat.le_of_ble_eq_true rfl, Nat.le_of_ble_eq_true rfl⟩ rfl kc_R k1 m_447 m_448 m_449 rfl d_R_merge_148 rfl rfl ct_0 (Nat.zero_le _) (Nat.zero_le _) ?_
    refine gw.cs (c2 := 0) (s2 := 0) rfl rfl ?_
    refine g_if_eq hE d_R_merge_151 (fun c9 => ?_) (fun c9 => ?_)
    · replace h := if_t c9 h
      exact gw.less (lv' := [some (va_rf (some o)), some (.int v1), some (.int v2), some (.int v3), some (.int v4), some (.int v5), some (.int v6), some (.int v7), some (.int v8), some (.int v9)]) (And.intro rfl (And.intro rfl (And.intro rfl (And.intro rfl (And.intro rfl (And.intro rfl (And.intro rfl (And.intro rfl (And.intro rfl (And.intro rfl trivial)))))))))) (w_R_merge_J157 hE hkb hkx163 d v1 v2 v3 v4 v5 v6 v7 v8 v9 h)
    · replace h := if_f c9 h
      refine g_iconst hE d_R_merge_154 ki_1 ?_
      refine g_istore (i := 7) (lv' := [some (va_rf (some o)), some (.int v1), some (.int v2), some (.int v3), some (.int v4), some (.int v5), some (.int v6), some (.int 1), some (.int v8), some (.int v9)]) hE d_R_merge_155 (Nat.le_of_ble_eq_true rfl) ⟨rfl, Nat.le_of_ble_eq_true rfl⟩ (lvp_i rfl) ?_
      exact gw.less (lv' := [some (va_rf (some o)), some (.int v1), some (.int v2), some (.int v3), some (.int v4), some (.int v5), some (.int v6), some (.int 1), some (.int v8), some (.int v9)]) (And.intro rfl (And.intro rfl (And.intro rfl (And.intro rfl (And.intro rfl (And.intro rfl (And.intro rfl (And.intro rfl (And.intro rfl (And.intro rfl trivial)))))))))) (w_R_merge_J157 hE hkb hkx163 d v1 v2 v3 v4 v5 v6 1 v8 v9 h)
theorem w_R_merge_L132 {X : GX} (hE : gE X b_R_merge 10 "StandInMillModel" none "merge" 4 90) {S : gS} {o : Nat} {r : Unit} {d' : gD} {kx163 : gD → Int32 → Int32 → Int32 → Int32 → Int32 → Int32 → Int32 → Int32 → Option (Unit × gD)} (hkx163 : ∀ (d : gD) (v1 : Int32) (v2 : Int32) (v3 : Int32) (v4 : Int32) (v5 : Int32) (v6 : Int32) (v7 : Int32) (v8 : Int32), kx163 d v1 v2 v3 v4 v5 v6 v7 v8 = some (r, d') → gw X 0 0 (gQ X (none) S d' 0 0) S d 163 [some (va_rf (some o)), some (.int v1), some (.int v2), some (.int v3), some (.int v4), some (.int v5), some (.int v6), some (.int v7), some (.int v8), none] []) : ∀ (n : Nat) (d : gD) (v1 : Int32) (v2 : Int32) (v3 : Int32) (v4 : Int32) (v5 : Int32) (v6 : Int32) (v7 : Int32) (v8 : Int32) (v9 : Int32), itr (f_R_merge_B132 S o kx163) (fun _ _ _ _ _ _ _ _ _ _ => none) n d v1 v2 v3 v4 v5 v6 v7 v8 v9 = some (r, d') → gw X 0 0 (gQ X (none) S d' 0 0) S d 132 [some (va_rf (some o)), some (.int v1), some (.int v2), some (.int v3), some (.int v4), some (.int v5), some (.int v6), some (.int v7), some (.int v8), some (.int v9)] [] := by
  intro n
  induction n with
  | zero => intro d v1 v2 v3 v4 v5 v6 v7 v8 v9 h; cases h
  | succ n ih => exact w_R_merge_B132 hE ih hkx163
def f_R_merge_J193 (S : gS) (o : Nat) (kx199 : gD → Int32 → Int32 → Int32 → Int32 → Int32 → Int32 → Int32 → Int32 → Option (Unit × gD)) (kb : gD → Int32 → Int32 → Int32 → Int32 → Int32 → Int32 → Int32 → Int32 → Int32 → Option (Unit × gD)) (d : gD) (v1 : Int32) (v2 : Int32) (v3 : Int32) (v4 : Int32) (v5 : Int32) (v6 : Int32) (v7 : Int32) (v8 : Int32) (v9 : Int32) : Option (Unit × gD) :=
  kb d v1 v2 v3 v4 v5 v6 v7 v8 (v9 + 1)
set_option maxRecDepth 100000 in
set_option maxHeartbeats 4000000 in
theorem w_R_merge_J193 {X : GX} (hE : gE X b_R_merge 10 "StandInMillModel" none "merge" 4 90) {S : gS} {o : Nat} {r : Unit} {d' : gD} {kb : gD → Int32 → Int32 → Int32 → Int32 → Int32 → Int32 → Int32 → Int32 → Int32 → Option (Unit × gD)} {kx199 : gD → Int32 → Int32 → Int32 → Int32 → Int32 → Int32 → Int32 → Int32 → Option (Unit × gD)} (hkb : ∀ (d : gD) (v1 : Int32) (v2 : Int32) (v3 : Int32) (v4 : Int32) (v5 : Int32) (v6 : Int32) (v7 : Int32) (v8 : Int32) (v9 : Int32), kb d v1 v2 v3 v4 v5 v6 v7 v8 v9 = some (r, d') → gw X 0 0 (gQ X (none) S d' 0 0) S d 166 [some (va_rf (some o)), some (.int v1), some (.int v2), some (.int v3), some (.int v4), some (.int v5), some (.int v6), some (.int v7), some (.int v8), some (.int v9)] []) (hkx199 : ∀ (d : gD) (v1 : Int32) (v2 : Int32) (v3 : Int32) (v4 : Int32) (v5 : Int32) (v6 : Int32) (v7 : Int32) (v8 : Int32), kx199 d v1 v2 v3 v4 v5 v6 v7 v8 = some (r, d') → gw X 0 0 (gQ X (none) S d' 0 0) S d 199 [some (va_rf (some o)), some (.int v1), some (.int v2), some (.int v3), some (.int v4), some (.int v5), some (.int v6), some (.int v7), some (.int v8), none] []) :
    ∀ (d : gD) (v1 : Int32) (v2 : Int32) (v3 : Int32) (v4 : Int32) (v5 : Int32) (v6 : Int32) (v7 : Int32) (v8 : Int32) (v9 : Int32), f_R_merge_J193 S o kx199 kb d v1 v2 v3 v4 v5 v6 v7 v8 v9 = some (r, d') → gw X 0 0 (gQ X (none) S d' 0 0) S d 193 [some (va_rf (some o)), some (.int v1), some (.int v2), some (.int v3), some (.int v4), some (.int v5), some (.int v6), some (.int v7), some (.int v8), some (.int v9)] [] := by
  intro d v1 v2 v3 v4 v5 v6 v7 v8 v9 h
  unfold f_R_merge_J193 at h
  refine g_iinc (i := 9) (lv' := [some (va_rf (some o)), some (.int v1), some (.int v2), some (.int v3), some (.int v4), some (.int v5), some (.int v6), some (.int v7), some (.int v8), some (.int (v9 + 1))]) hE d_R_merge_193 ki_1 rfl (Nat.le_of_ble_eq_true rfl) ⟨rfl, Nat.le_of_ble_eq_true rfl⟩ (lvp_i rfl) ?_
  refine g_goto hE d_R_merge_196 ?_
  exact gw.less (lv' := [some (va_rf (some o)), some (.int v1), some (.int v2), some (.int v3), some (.int v4), some (.int v5), some (.int v6), some (.int v7), some (.int v8), some (.int (v9 + 1))]) (And.intro rfl (And.intro rfl (And.intro rfl (And.intro rfl (And.intro rfl (And.intro rfl (And.intro rfl (And.intro rfl (And.intro rfl (And.intro rfl trivial)))))))))) (hkb d v1 v2 v3 v4 v5 v6 v7 v8 (v9 + 1) h)
def f_R_merge_B166 (S : gS) (o : Nat) (kx199 : gD → Int32 → Int32 → Int32 → Int32 → Int32 → Int32 → Int32 → Int32 → Option (Unit × gD)) (kb : gD → Int32 → Int32 → Int32 → Int32 → Int32 → Int32 → Int32 → Int32 → Int32 → Option (Unit × gD)) (d : gD) (v1 : Int32) (v2 : Int32) (v3 : Int32) (v4 : Int32) (v5 : Int32) (v6 : Int32) (v7 : Int32) (v8 : Int32) (v9 : Int32) : Option (Unit × gD) :=
  if v4 ≤ v9 then (
    kx199 d v1 v2 v3 v4 v5 v6 v7 v8)
  else (
    kd S o 10 <|
    lt_ (sP S o 33) fun x2 =>
    nn x2 fun a3 =>
    kd S a3 50 <|
    gi ((16 * v1) + v9) (sN S a3) <|
    lt_ (dI d a3 ((16 * v1) + v9 : Int32).toNatClampNeg) fun x6 =>
    if x6 = v6 then (
      f_R_merge_J193 S o kx199 kb d v1 v2 v3 v4 v5 v6 v7 1 v9)
    else (
      f_R_merge_J193 S o kx199 kb d v1 v2 v3 v4 v5 v6 v7 v8 v9))
set_option maxRecDepth 100000 in
set_option maxHeartbeats 4000000 in
theorem w_R_merge_B166 {X : GX} (hE : gE X b_R_merge 10 "StandInMillModel" none "merge" 4 90) {S : gS} {o : Nat} {r : Unit} {d' : gD} {kb : gD → Int32 → Int32 → Int32 → Int32 → Int32 → Int32 → Int32 → Int32 → Int32 → Option (Unit × gD)} {kx199 : gD → Int32 → Int32 → Int32 → Int32 → Int32 → Int32 → Int32 → Int32 → Option (Unit × gD)} (hkb : ∀ (d : gD) (v1 : Int32) (v2 : Int32) (v3 : Int32) (v4 : Int32) (v5 : Int32) (v6 : Int32) (v7 : Int32) (v8 : Int32) (v9 : Int32), kb d v1 v2 v3 v4 v5 v6 v7 v8 v9 = some (r, d') → gw X 0 0 (gQ X (none) S d' 0 0) S d 166 [some (va_rf (some o)), some (.int v1), some (.int v2), some (.int v3), some (.int v4), some (.int v5), some (.int v6), some (.int v7), some (.int v8), some (.int v9)] []) (hkx199 : ∀ (d : gD) (v1 : Int32) (v2 : Int32) (v3 : Int32) (v4 : Int32) (v5 : Int32) (v6 : Int32) (v7 : Int32) (v8 : Int32), kx199 d v1 v2 v3 v4 v5 v6 v7 v8 = some (r, d') → gw X 0 0 (gQ X (none) S d' 0 0) S d 199 [some (va_rf (some o)), some (.int v1), some (.int v2), some (.int v3), some (.int v4), some (.int v5), some (.int v6), some (.int v7), some (.int v8), none] []) :
    ∀ (d : gD) (v1 : Int32) (v2 : Int32) (v3 : Int32) (v4 : Int32) (v5 : Int32) (v6 : Int32) (v7 : Int32) (v8 : Int32) (v9 : Int32), f_R_merge_B166 S o kx199 kb d v1 v2 v3 v4 v5 v6 v7 v8 v9 = some (r, d') → gw X 0 0 (gQ X (none) S d' 0 0) S d 166 [some (va_rf (some o)), some (.int v1), some (.int v2), some (.int v3), some (.int v4), some (.int v5), some (.int v6), some (.int v7), some (.int v8), some (.int v9)] [] := by
  intro d v1 v2 v3 v4 v5 v6 v7 v8 v9 h
  unfold f_R_merge_B166 at h
  refine g_iload (i := 9) hE d_R_merge_166 rfl ?_
  refine g_iload (i := 4) hE d_R_merge_168 rfl ?_
  refine g_icmp_ge hE d_R_merge_170 (fun c8 => ?_) (fun c8 => ?_)
  · replace h := if_t c8 h
    exact gw.less (lv' := [some (va_rf (some o)), some (.int v1), some (.int v2), some (.int v3), some (.int v4), some (.int v5), some (.int v6), some (.int v7), some (.int v8), none]) (And.intro rfl (And.intro rfl (And.intro rfl (And.intro rfl (And.intro rfl (And.intro rfl (And.intro rfl (And.intro rfl (And.intro rfl trivial))))))))) (hkx199 d v1 v2 v3 v4 v5 v6 v7 v8 h)
  · replace h := if_f c8 h
    refine g_aload_n (i := 0) hE d_R_merge_173 rfl rfl ?_
    obtain ⟨k1, h⟩ := kd_s h
    refine g_getR 33 hE kc_R k1 (Nat.le_of_ble_eq_true rfl) rfl m_410 d_R_merge_174 (fun x2 e => ?_)
    replace h := lt_i e h; clear e
    refine g_bipush hE d_R_merge_177 kb_16 ?_
    refine g_iload_n (i := 1) hE d_R_merge_179 rfl rfl ?_
    refine g_imul hE d_R_merge_180 ?_
    refine g_iload (i := 9) hE d_R_merge_181 rfl ?_
    refine g_iadd hE d_R_merge_183 ?_
    obtain ⟨a3, rfl, h⟩ := nn_s h
    obtain ⟨k4, h⟩ := kd_s h
    obtain ⟨g5, h⟩ := gi_s h
    refine g_iald hE k4 g5 d_R_merge_184 (fun x6 e => ?_)
    replace h := lt_i e h; clear e
    refine g_iload (i := 6) hE d_R_merge_185 rfl ?_
    refine g_icmp_ne hE d_R_merge_187 (fun c7 => ?_) (fun c7 => ?_)
    · replace h := if_f c7 h
      exact gw.less (lv' := [some (va_rf (some o)), some (.int v1), some (.int v2), some (.int v3), some (.int v4), some (.int v5), some (.int v6), some (.int v7), some (.int v8), some (.int v9)]) (And.intro rfl (And.intro rfl (And.intro rfl (And.intro rfl (And.intro rfl (And.intro rfl (And.intro rfl (And.intro rfl (And.intro rfl (And.intro rfl trivial)))))))))) (w_R_merge_J193 hE hkb hkx199 d v1 v2 v3 v4 v5 v6 v7 v8 v9 h)
    · replace h := if_t c7 h
      refine g_iconst hE d_R_merge_190 ki_1 ?_
      refine g_istore (i := 8) (lv' := [some (va_rf (some o)), some (.int v1), some (.int v2), some (.int v3), some (.int v4), some (.int v5), some (.int v6), some (.int v7), some (.int 1), some (.int v9)]) hE d_R_merge_191 (Nat.le_of_ble_eq_true rfl) ⟨rfl, Nat.le_of_ble_eq_true rfl⟩ (lvp_i rfl) ?_
      exact gw.less (lv' := [some (va_rf (some o)), some (.int v1), some (.int v2), some (.int v3), some (.int v4), some (.int v5), some (.int v6), some (.int v7), some (.int 1), some (.int v9)]) (And.intro rfl (And.intro rfl (And.intro rfl (And.intro rfl (And.intro rfl (And.intro rfl (And.intro rfl (And.intro rfl (And.intro rfl (And.intro rfl trivial)))))))))) (w_R_merge_J193 hE hkb hkx199 d v1 v2 v3 v4 v5 v6 v7 1 v9 h)
theorem w_R_merge_L166 {X : GX} (hE : gE X b_R_merge 10 "StandInMillModel" none "merge" 4 90) {S : gS} {o : Nat} {r : Unit} {d' : gD} {kx199 : gD → Int32 → Int32 → Int32 → Int32 → Int32 → Int32 → Int32 → Int32 → Option (Unit × gD)} (hkx199 : ∀ (d : gD) (v1 : Int32) (v2 : Int32) (v3 : Int32) (v4 : Int32) (v5 : Int32) (v6 : Int32) (v7 : Int32) (v8 : Int32), kx199 d v1 v2 v3 v4 v5 v6 v7 v8 = some (r, d') → gw X 0 0 (gQ X (none) S d' 0 0) S d 199 [some (va_rf (some o)), some (.int v1), some (.int v2), some (.int v3), some (.int v4), some (.int v5), some (.int v6), some (.int v7), some (.int v8), none] []) : ∀ (n : Nat) (d : gD) (v1 : Int32) (v2 : Int32) (v3 : Int32) (v4 : Int32) (v5 : Int32) (v6 : Int32) (v7 : Int32) (v8 : Int32) (v9 : Int32), itr (f_R_merge_B166 S o kx199) (fun _ _ _ _ _ _ _ _ _ _ => none) n d v1 v2 v3 v4 v5 v6 v7 v8 v9 = some (r, d') → gw X 0 0 (gQ X (none) S d' 0 0) S d 166 [some (va_rf (some o)), some (.int v1), some (.int v2), some (.int v3), some (.int v4), some (.int v5), some (.int v6), some (.int v7), some (.int v8), some (.int v9)] [] := by
  intro n
  induction n with
  | zero => intro d v1 v2 v3 v4 v5 v6 v7 v8 v9 h; cases h
  | succ n ih => exact w_R_merge_B166 hE ih hkx199
def f_R_merge_J226 (S : gS) (o : Nat) (kx232 : gD → Int32 → Int32 → Option (Unit × gD)) (kb : gD → Int32 → Int32 → Int32 → Int32 → Int32 → Option (Unit × gD)) (d : gD) (v1 : Int32) (v2 : Int32) (v3 : Int32) (v4 : Int32) (v5 : Int32) : Option (Unit × gD) :=
  kb d v1 v2 v3 v4 (v5 + 1)
set_option maxRecDepth 100000 in
set_option maxHeartbeats 4000000 in
theorem w_R_merge_J226 {X : GX} (hE : gE X b_R_merge 10 "StandInMillModel" none "merge" 4 90) {S : gS} {o : Nat} {r : Unit} {d' : gD} {kb : gD → Int32 → Int32 → Int32 → Int32 → Int32 → Option (Unit × gD)} {kx232 : gD → Int32 → Int32 → Option (Unit × gD)} (hkb : ∀ (d : gD) (v1 : Int32) (v2 : Int32) (v3 : Int32) (v4 : Int32) (v5 : Int32), kb d v1 v2 v3 v4 v5 = some (r, d') → gw X 0 0 (gQ X (none) S d' 0 0) S d 99 [some (va_rf (some o)), some (.int v1), some (.int v2), some (.int v3), some (.int v4), some (.int v5), none, none, none, none] []) (hkx232 : ∀ (d : gD) (v1 : Int32) (v4 : Int32), kx232 d v1 v4 = some (r, d') → gw X 0 0 (gQ X (none) S d' 0 0) S d 232 [some (va_rf (some o)), some (.int v1), none, none, some (.int v4), none, none, none, none, none] []) :
    ∀ (d : gD) (v1 : Int32) (v2 : Int32) (v3 : Int32) (v4 : Int32) (v5 : Int32), f_R_merge_J226 S o kx232 kb d v1 v2 v3 v4 v5 = some (r, d') → gw X 0 0 (gQ X (none) S d' 0 0) S d 226 [some (va_rf (some o)), some (.int v1), some (.int v2), some (.int v3), some (.int v4), some (.int v5), none, none, none, none] [] := by
  intro d v1 v2 v3 v4 v5 h
  unfold f_R_merge_J226 at h
  refine g_iinc (i := 5) (lv' := [some (va_rf (some o)), some (.int v1), some (.int v2), some (.int v3), some (.int v4), some (.int (v5 + 1)), none, none, none, none]) hE d_R_merge_226 ki_1 rfl (Nat.le_of_ble_eq_true rfl) ⟨rfl, Nat.le_of_ble_eq_true rfl⟩ (lvp_i rfl) ?_
  refine g_goto hE d_R_merge_229 ?_
  exact gw.less (lv' := [some (va_rf (some o)), some (.int v1), some (.int v2), some (.int v3), some (.int v4), some (.int (v5 + 1)), none, none, none, none]) (And.intro rfl (And.intro rfl (And.intro rfl (And.intro rfl (And.intro rfl (And.intro rfl trivial)))))) (hkb d v1 v2 v3 v4 (v5 + 1) h)
def f_R_merge_J199 (S : gS) (o : Nat) (kx232 : gD → Int32 → Int32 → Option (Unit × gD)) (kb : gD → Int32 → Int32 → Int32 → Int32 → Int32 → Option (Unit × gD)) (d : gD) (v1 : Int32) (v2 : Int32) (v3 : Int32) (v4 : Int32) (v5 : Int32) (v6 : Int32) (v7 : Int32) (v8 : Int32) : Option (Unit × gD) :=
  if v7 = 0 then (
    f_R_merge_J226 S o kx232 kb d v1 v2 v3 v4 v5)
  else (
    if v8 = 0 then (
      kd S o 10 <|
      lt_ (sP S o 33) fun x2 =>
      nn x2 fun a3 =>
      kd S a3 50 <|
      gi ((16 * v1) + v4) (sN S a3) <|
      lt_ (wI d a3 ((16 * v1) + v4 : Int32).toNatClampNeg v6) fun d6 =>
      f_R_merge_J226 S o kx232 kb d6 v1 v2 v3 (v4 + 1) v5)
    else (
      f_R_merge_J226 S o kx232 kb d v1 v2 v3 v4 v5))
set_option maxRecDepth 100000 in
set_option maxHeartbeats 4000000 in
theorem w_R_merge_J199 {X : GX} (hE : gE X b_R_merge 10 "StandInMillModel" none "merge" 4 90) {S : gS} {o : Nat} {r : Unit} {d' : gD} {kb : gD → Int32 → Int32 → Int32 → Int32 → Int32 → Option (Unit × gD)} {kx232 : gD → Int32 → Int32 → Option (Unit × gD)} (hkb : ∀ (d : gD) (v1 : Int32) (v2 : Int32) (v3 : Int32) (v4 : Int32) (v5 : Int32), kb d v1 v2 v3 v4 v5 = some (r, d') → gw X 0 0 (gQ X (none) S d' 0 0) S d 99 [some (va_rf (some o)), some (.int v1), some (.int v2), some (.int v3), some (.int v4), some (.int v5), none, none, none, none] []) (hkx232 : ∀ (d : gD) (v1 : Int32) (v4 : Int32), kx232 d v1 v4 = some (r, d') → gw X 0 0 (gQ X (none) S d' 0 0) S d 232 [some (va_rf (some o)), some (.int v1), none, none, some (.int v4), none, none, none, none, none] []) :
    ∀ (d : gD) (v1 : Int32) (v2 : Int32) (v3 : Int32) (v4 : Int32) (v5 : Int32) (v6 : Int32) (v7 : Int32) (v8 : Int32), f_R_merge_J199 S o kx232 kb d v1 v2 v3 v4 v5 v6 v7 v8 = some (r, d') → gw X 0 0 (gQ X (none) S d' 0 0) S d 199 [some (va_rf (some o)), some (.int v1), some (.int v2), some (.int v3), some (.int v4), some (.int v5), some (.int v6), some (.int v7), some (.int v8), none] [] := by
  intro d v1 v2 v3 v4 v5 v6 v7 v8 h
  unfold f_R_merge_J199 at h
  refine g_iload (i := 7) hE d_R_merge_199 rfl ?_
  refine g_if_eq hE d_R_merge_201 (fun c8 => ?_) (fun c8 => ?_)
  · replace h := if_t c8 h
    exact gw.less (lv' := [some (va_rf (some o)), some (.int v1), some (.int v2), some (.int v3), some (.int v4), some (.int v5), none, none, none, none]) (And.intro rfl (And.intro rfl (And.intro rfl (And.intro rfl (And.intro rfl (And.intro rfl trivial)))))) (w_R_merge_J226 hE hkb hkx232 d v1 v2 v3 v4 v5 h)
  · replace h := if_f c8 h
    refine g_iload (i := 8) hE d_R_merge_204 rfl ?_
    refine g_if_ne hE d_R_merge_206 (fun c7 => ?_) (fun c7 => ?_)
    · replace h := if_f c7 h
      exact gw.less (lv' := [some (va_rf (some o)), some (.int v1), some (.int v2), some (.int v3), some (.int v4), some (.int v5), none, none, none, none]) (And.intro rfl (And.intro rfl (And.intro rfl (And.intro rfl (And.intro rfl (And.intro rfl trivial)))))) (w_R_merge_J226 hE hkb hkx232 d v1 v2 v3 v4 v5 h)
    · replace h := if_t c7 h
      refine g_aload_n (i := 0) hE d_R_merge_209 rfl rfl ?_
      obtain ⟨k1, h⟩ := kd_s h
      refine g_getR 33 hE kc_R k1 (Nat.le_of_ble_eq_true rfl) rfl m_410 d_R_merge_210 (fun x2 e => ?_)
      replace h := lt_i e h; clear e
      refine g_bipush hE d_R_merge_213 kb_16 ?_
      refine g_iload_n (i := 1) hE d_R_merge_215 rfl rfl ?_
      refine g_imul hE d_R_merge_216 ?_
      refine g_iload (i := 4) hE d_R_merge_217 rfl ?_
      refine g_iadd hE d_R_merge_219 ?_
      refine g_iload (i := 6) hE d_R_merge_220 rfl ?_
      obtain ⟨a3, rfl, h⟩ := nn_s h
      obtain ⟨k4, h⟩ := kd_s h
      obtain ⟨g5, h⟩ := gi_s h
      refine g_iast hE k4 g5 d_R_merge_222 (fun d6 e => ?_)
      replace h := lt_i e h; clear e
      refine g_iinc (i := 4) (lv' := [some (va_rf (some o)), some (.int v1), some (.int v2), some (.int v3), some (.int (v4 + 1)), some (.int v5), some (.int v6), some (.int v7), some (.int v8), none]) hE d_R_merge_223 ki_1 rfl (Nat.le_of_ble_eq_true rfl) ⟨rfl, Nat.le_of_ble_eq_true rfl⟩ (lvp_i rfl) ?_
      exact gw.less (lv' := [some (va_rf (some o)), some (.int v1), some (.int v2), some (.int v3), some (.int (v4 + 1)), some (.int v5), none, none, none, none]) (And.intro rfl (And.intro rfl (And.intro rfl (And.intro rfl (And.intro rfl (And.intro rfl trivial)))))) (w_R_merge_J226 hE hkb hkx232 d6 v1 v2 v3 (v4 + 1) v5 h)
def f_R_merge_J163 (S : gS) (o : Nat) (kx232 : gD → Int32 → Int32 → Option (Unit × gD)) (kb : gD → Int32 → Int32 → Int32 → Int32 → Int32 → Option (Unit × gD)) (d : gD) (v1 : Int32) (v2 : Int32) (v3 : Int32) (v4 : Int32) (v5 : Int32) (v6 : Int32) (v7 : Int32) (v8 : Int32) : Option (Unit × gD) :=
  itr (f_R_merge_B166 S o (f_R_merge_J199 S o kx232 kb)) (fun _ _ _ _ _ _ _ _ _ _ => none) fu d v1 v2 v3 v4 v5 v6 v7 v8 0
set_option maxRecDepth 100000 in
set_option maxHeartbeats 4000000 in
theorem w_R_merge_J163 {X : GX} (hE : gE X b_R_merge 10 "StandInMillModel" none "merge" 4 90) {S : gS} {o : Nat} {r : Unit} {d' : gD} {kb : gD → Int32 → Int32 → Int32 → Int32 → Int32 → Option (Unit × gD)} {kx232 : gD → Int32 → Int32 → Option (Unit × gD)} (hkb : ∀ (d : gD) (v1 : Int32) (v2 : Int32) (v3 : Int32) (v4 : Int32) (v5 : Int32), kb d v1 v2 v3 v4 v5 = some (r, d') → gw X 0 0 (gQ X (none) S d' 0 0) S d 99 [some (va_rf (some o)), some (.int v1), some (.int v2), some (.int v3), some (.int v4), some (.int v5), none, none, none, none] []) (hkx232 : ∀ (d : gD) (v1 : Int32) (v4 : Int32), kx232 d v1 v4 = some (r, d') → gw X 0 0 (gQ X (none) S d' 0 0) S d 232 [some (va_rf (some o)), some (.int v1), none, none, some (.int v4), none, none, none, none, none] []) :
    ∀ (d : gD) (v1 : Int32) (v2 : Int32) (v3 : Int32) (v4 : Int32) (v5 : Int32) (v6 : Int32) (v7 : Int32) (v8 : Int32), f_R_merge_J163 S o kx232 kb d v1 v2 v3 v4 v5 v6 v7 v8 = some (r, d') → gw X 0 0 (gQ X (none) S d' 0 0) S d 163 [some (va_rf (some o)), some (.int v1), some (.int v2), some (.int v3), some (.int v4), some (.int v5), some (.int v6), some (.int v7), some (.int v8), none] [] := by
  intro d v1 v2 v3 v4 v5 v6 v7 v8 h
  unfold f_R_merge_J163 at h
  refine g_iconst hE d_R_merge_163 ki_0 ?_
  refine g_istore (i := 9) (lv' := [some (va_rf (some o)), some (.int v1), some (.int v2), some (.int v3), some (.int v4), some (.int v5), some (.int v6), some (.int v7), some (.int v8), some (.int 0)]) hE d_R_merge_164 (Nat.le_of_ble_eq_true rfl) ⟨rfl, Nat.le_of_ble_eq_true rfl⟩ (lvp_i rfl) ?_
  exact gw.less (lv' := [some (va_rf (some o)), some (.int v1), some (.int v2), some (.int v3), some (.int v4), some (.int v5), some (.int v6), some (.int v7), some (.int v8), some (.int 0)]) (And.intro rfl (And.intro rfl (And.intro rfl (And.intro rfl (And.intro rfl (And.intro rfl (And.intro rfl (And.intro rfl (And.intro rfl (And.intro rfl trivial)))))))))) (w_R_merge_L166 hE (w_R_merge_J199 hE hkb hkx232) fu d v1 v2 v3 v4 v5 v6 v7 v8 0 h)
def f_R_merge_B99 (S : gS) (o : Nat) (kx232 : gD → Int32 → Int32 → Option (Unit × gD)) (kb : gD → Int32 → Int32 → Int32 → Int32 → Int32 → Option (Unit × gD)) (d : gD) (v1 : Int32) (v2 : Int32) (v3 : Int32) (v4 : Int32) (v5 : Int32) : Option (Unit × gD) :=
  kd S o 10 <|
  lt_ (sP S o 16) fun x2 =>
  nn x2 fun a3 =>
  kd S a3 50 <|
  gi v2 (sN S a3) <|
  lt_ (dI d a3 v2.toNatClampNeg) fun x6 =>
  if x6 ≤ v5 then (
    kx232 d v1 v4)
  else (
    lt_ (sP S o 17) fun x7 =>
    nn x7 fun a8 =>
    kd S a8 50 <|
    gi ((3 * v2) + v5) (sN S a8) <|
    lt_ (dI d a8 ((3 * v2) + v5 : Int32).toNatClampNeg) fun x11 =>
    itr (f_R_merge_B132 S o (f_R_merge_J163 S o kx232 kb)) (fun _ _ _ _ _ _ _ _ _ _ => none) fu d v1 v2 v3 v4 v5 x11 0 0 0)
set_option maxRecDepth 100000 in
set_option maxHeartbeats 4000000 in
theorem w_R_merge_B99 {X : GX} (hE : gE X b_R_merge 10 "StandInMillModel" none "merge" 4 90) {S : gS} {o : Nat} {r : Unit} {d' : gD} {kb : gD → Int32 → Int32 → Int32 → Int32 → Int32 → Option (Unit × gD)} {kx232 : gD → Int32 → Int32 → Option (Unit × gD)} (hkb : ∀ (d : gD) (v1 : Int32) (v2 : Int32) (v3 : Int32) (v4 : Int32) (v5 : Int32), kb d v1 v2 v3 v4 v5 = some (r, d') → gw X 0 0 (gQ X (none) S d' 0 0) S d 99 [some (va_rf (some o)), some (.int v1), some (.int v2), some (.int v3), some (.int v4), some (.int v5), none, none, none, none] []) (hkx232 : ∀ (d : gD) (v1 : Int32) (v4 : Int32), kx232 d v1 v4 = some (r, d') → gw X 0 0 (gQ X (none) S d' 0 0) S d 232 [some (va_rf (some o)), some (.int v1), none, none, some (.int v4), none, none, none, none, none] []) :
    ∀ (d : gD) (v1 : Int32) (v2 : Int32) (v3 : Int32) (v4 : Int32) (v5 : Int32), f_R_merge_B99 S o kx232 kb d v1 v2 v3 v4 v5 = some (r, d') → gw X 0 0 (gQ X (none) S d' 0 0) S d 99 [some (va_rf (some o)), some (.int v1), some (.int v2), some (.int v3), some (.int v4), some (.int v5), none, none, none, none] [] := by
  intro d v1 v2 v3 v4 v5 h
  unfold f_R_merge_B99 at h
  refine g_iload (i := 5) hE d_R_merge_99 rfl ?_
  refine g_aload_n (i := 0) hE d_R_merge_101 rfl rfl ?_
  obtain ⟨k1, h⟩ := kd_s h
  refine g_getR 16 hE kc_R k1 (Nat.le_of_ble_eq_true rfl) rfl m_393 d_R_merge_102 (fun x2 e => ?_)
  replace h := lt_i e h; clear e
  refine g_iload_n (i := 2) hE d_R_merge_105 rfl rfl ?_
  obtain ⟨a3, rfl, h⟩ := nn_s h
  obtain ⟨k4, h⟩ := kd_s h
  obtain ⟨g5, h⟩ := gi_s h
  refine g_iald hE k4 g5 d_R_merge_106 (fun x6 e => ?_)
  replace h := lt_i e h; clear e
  refine g_icmp_ge hE d_R_merge_107 (fun c12 => ?_) (fun c12 => ?_)
  · replace h := if_t c12 h
    exact gw.less (lv' := [some (va_rf (some o)), some (.int v1), none, none, some (.int v4), none, none, none, none, none]) (And.intro rfl (And.intro rfl (And.intro rfl trivial))) (hkx232 d v1 v4 h)
  · replace h := if_f c12 h
    refine g_aload_n (i := 0) hE d_R_merge_110 rfl rfl ?_
    refine g_getR 17 hE kc_R k1 (Nat.le_of_ble_eq_true rfl) rfl m_394 d_R_merge_111 (fun x7 e => ?_)
    replace h := lt_i e h; clear e
    refine g_iconst hE d_R_merge_114 ki_3 ?_
    refine g_iload_n (i := 2) hE d_R_merge_115 rfl rfl ?_
    refine g_imul hE d_R_merge_116 ?_
    refine g_iload (i := 5) hE d_R_merge_117 rfl ?_
    refine g_iadd hE d_R_merge_119 ?_
    obtain ⟨a8, rfl, h⟩ := nn_s h
    obtain ⟨k9, h⟩ := kd_s h
    obtain ⟨g10, h⟩ := gi_s h
    refine g_iald hE k9 g10 d_R_merge_120 (fun x11 e => ?_)
    replace h := lt_i e h; clear e
    refine g_istore (i := 6) (lv' := [some (va_rf (some o)), some (.int v1), some (.int v2), some (.int v3), some (.int v4), some (.int v5), some (.int x11), none, none, none]) hE d_R_merge_121 (Nat.le_of_ble_eq_true rfl) ⟨rfl, Nat.le_of_ble_eq_true rfl⟩ (lvp_i rfl) ?_
    refine g_iconst hE d_R_merge_123 ki_0 ?_
    refine g_istore (i := 7) (lv' := [some (va_rf (some o)), some (.int v1), some (.int v2), some (.int v3), some (.int v4), some (.int v5), some (.int x11), some (.int 0), none, none]) hE d_R_merge_124 (Nat.le_of_ble_eq_true rfl) ⟨rfl, Nat.le_of_ble_eq_true rfl⟩ (lvp_i rfl) ?_
    refine g_iconst hE d_R_merge_126 ki_0 ?_
    refine g_istore (i := 8) (lv' := [some (va_rf (some o)), some (.int v1), some (.int v2), some (.int v3), some (.int v4), some (.int v5), some (.int x11), some (.int 0), some (.int 0), none]) hE d_R_merge_127 (Nat.le_of_ble_eq_true rfl) ⟨rfl, Nat.le_of_ble_eq_true rfl⟩ (lvp_i rfl) ?_
    refine g_iconst hE d_R_merge_129 ki_0 ?_
    refine g_istore (i := 9) (lv' := [some (va_rf (some o)), some (.int v1), some (.int v2), some (.int v3), some (.int v4), some (.int v5), some (.int x11), some (.int 0), some (.int 0), some (.int 0)]) hE d_R_merge_130 (Nat.le_of_ble_eq_true rfl) ⟨rfl, Nat.le_of_ble_eq_true rfl⟩ (lvp_i rfl) ?_
    exact gw.less (lv' := [some (va_rf (some o)), some (.int v1), some (.int v2), some (.int v3), some (.int v4), some (.int v5), some (.int x11), some (.int 0), some (.int 0), some (.int 0)]) (And.intro rfl (And.intro rfl (And.intro rfl (And.intro rfl (And.intro rfl (And.intro rfl (And.intro rfl (And.intro rfl (And.intro rfl (And.intro rfl trivial)))))))))) (w_R_merge_L132 hE (w_R_merge_J163 hE hkb hkx232) fu d v1 v2 v3 v4 v5 x11 0 0 0 h)
theorem w_R_merge_L99 {X : GX} (hE : gE X b_R_merge 10 "StandInMillModel" none "merge" 4 90) {S : gS} {o : Nat} {r : Unit} {d' : gD} {kx232 : gD → Int32 → Int32 → Option (Unit × gD)} (hkx232 : ∀ (d : gD) (v1 : Int32) (v4 : Int32), kx232 d v1 v4 = some (r, d') → gw X 0 0 (gQ X (none) S d' 0 0) S d 232 [some (va_rf (some o)), some (.int v1), none, none, some (.int v4), none, none, none, none, none] []) : ∀ (n : Nat) (d : gD) (v1 : Int32) (v2 : Int32) (v3 : Int32) (v4 : Int32) (v5 : Int32), itr (f_R_merge_B99 S o kx232) (fun _ _ _ _ _ _ => none) n d v1 v2 v3 v4 v5 = some (r, d') → gw X 0 0 (gQ X (none) S d' 0 0) S d 99 [some (va_rf (some o)), some (.int v1), some (.int v2), some (.int v3), some (.int v4), some (.int v5), none, none, none, none] [] := by
  intro n
  induction n with
  | zero => intro d v1 v2 v3 v4 v5 h; cases h
  | succ n ih => exact w_R_merge_B99 hE ih hkx232
def f_R_merge_J232 (S : gS) (o : Nat) (d : gD) (v1 : Int32) (v4 : Int32) : Option (Unit × gD) :=
  kd S o 10 <|
  lt_ (sP S o 34) fun x2 =>
  nn x2 fun a3 =>
  kd S a3 50 <|
  gi v1 (sN S a3) <|
  lt_ (wI d a3 v1.toNatClampNeg v4) fun d6 =>
  some ((), d6)
set_option maxRecDepth 100000 in
set_option maxHeartbeats 4000000 in
theorem w_R_merge_J232 {X : GX} (hE : gE X b_R_merge 10 "StandInMillModel" none "merge" 4 90) {S : gS} {o : Nat} {r : Unit} {d' : gD} :
    ∀ (d : gD) (v1 : Int32) (v4 : Int32), f_R_merge_J232 S o d v1 v4 = some (r, d') → gw X 0 0 (gQ X (none) S d' 0 0) S d 232 [some (va_rf (some o)), some (.int v1), none, none, some (.int v4), none, none, none, none, none] [] := by
  intro d v1 v4 h
  unfold f_R_merge_J232 at h
  refine g_aload_n (i := 0) hE d_R_merge_232 rfl rfl ?_
  obtain ⟨k1, h⟩ := kd_s h
  refine g_getR 34 hE kc_R k1 (Nat.le_of_ble_eq_true rfl) rfl m_411 d_R_merge_233 (fun x2 e => ?_)
  replace h := lt_i e h; clear e
  refine g_iload_n (i := 1) hE d_R_merge_236 rfl rfl ?_
  refine g_iload (i := 4) hE d_R_merge_237 rfl ?_
  obtain ⟨a3, rfl, h⟩ := nn_s h
  obtain ⟨k4, h⟩ := kd_s h
  obtain ⟨g5, h⟩ := gi_s h
  refine g_iast hE k4 g5 d_R_merge_239 (fun d6 e => ?_)
  replace h := lt_i e h; clear e
  cases h
  exact g_vret hE d_R_merge_240 rfl rfl
def f_R_merge_J96 (S : gS) (o : Nat) (d : gD) (v1 : Int32) (v2 : Int32) (v3 : Int32) (v4 : Int32) : Option (Unit × gD) :=
  itr (f_R_merge_B99 S o (f_R_merge_J232 S o)) (fun _ _ _ _ _ _ => none) fu d v1 v2 v3 v4 0
set_option maxRecDepth 100000 in
set_option maxHeartbeats 4000000 in
theorem w_R_merge_J96 {X : GX} (hE : gE X b_R_merge 10 "StandInMillModel" none "merge" 4 90) {S : gS} {o : Nat} {r : Unit} {d' : gD} :
    ∀ (d : gD) (v1 : Int32) (v2 : Int32) (v3 : Int32) (v4 : Int32), f_R_merge_J96 S o d v1 v2 v3 v4 = some (r, d') → gw X 0 0 (gQ X (none) S d' 0 0) S d 96 [some (va_rf (some o)), some (.int v1), some (.int v2), some (.int v3), some (.int v4), none, none, none, none, none] [] := by
  intro d v1 v2 v3 v4 h
  unfold f_R_merge_J96 at h
  refine g_iconst hE d_R_merge_96 ki_0 ?_
  refine g_istore (i := 5) (lv' := [some (va_rf (some o)), some (.int v1), some (.int v2), some (.int v3), some (.int v4), some (.int 0), none, none, none, none]) hE d_R_merge_97 (Nat.le_of_ble_eq_true rfl) ⟨rfl, Nat.le_of_ble_eq_true rfl⟩ (lvp_i rfl) ?_
  exact gw.less (lv' := [some (va_rf (some o)), some (.int v1), some (.int v2), some (.int v3), some (.int v4), some (.int 0), none, none, none, none]) (And.intro rfl (And.intro rfl (And.intro rfl (And.intro rfl (And.intro rfl (And.intro rfl trivial)))))) (w_R_merge_L99 hE (w_R_merge_J232 hE) fu d v1 v2 v3 v4 0 h)
def f_R_merge_J44 (S : gS) (o : Nat) (d : gD) (v1 : Int32) (v2 : Int32) (v3 : Int32) (v4 : Int32) : Option (Unit × gD) :=
  itr (f_R_merge_B47 S o (f_R_merge_J96 S o)) (fun _ _ _ _ _ _ => none) fu d v1 v2 v3 v4 0
set_option maxRecDepth 100000 in
set_option maxHeartbeats 4000000 in
theorem w_R_merge_J44 {X : GX} (hE : gE X b_R_merge 10 "StandInMillModel" none "merge" 4 90) {S : gS} {o : Nat} {r : Unit} {d' : gD} :
    ∀ (d : gD) (v1 : Int32) (v2 : Int32) (v3 : Int32) (v4 : Int32), f_R_merge_J44 S o d v1 v2 v3 v4 = some (r, d') → gw X 0 0 (gQ X (none) S d' 0 0) S d 44 [some (va_rf (some o)), some (.int v1), some (.int v2), some (.int v3), some (.int v4), none, none, none, none, none] [] := by
  intro d v1 v2 v3 v4 h
  unfold f_R_merge_J44 at h
  refine g_iconst hE d_R_merge_44 ki_0 ?_
  refine g_istore (i := 5) (lv' := [some (va_rf (some o)), some (.int v1), some (.int v2), some (.int v3), some (.int v4), some (.int 0), none, none, none, none]) hE d_R_merge_45 (Nat.le_of_ble_eq_true rfl) ⟨rfl, Nat.le_of_ble_eq_true rfl⟩ (lvp_i rfl) ?_
  exact gw.less (lv' := [some (va_rf (some o)), some (.int v1), some (.int v2), some (.int v3), some (.int v4), some (.int 0), none, none, none, none]) (And.intro rfl (And.intro rfl (And.intro rfl (And.intro rfl (And.intro rfl (And.intro rfl trivial)))))) (w_R_merge_L47 hE (w_R_merge_J96 hE) fu d v1 v2 v3 v4 0 h)
set_option maxRecDepth 100000 in
def f_R_merge (S : gS) (d : gD) (o : Nat) (v1 : Int32) (v2 : Int32) : Option (Unit × gD) :=
  kd S o 10 <|
  lt_ (sP S o 34) fun x2 =>
  nn x2 fun a3 =>
  kd S a3 50 <|
  gi v1 (sN S a3) <|
  lt_ (dI d a3 v1.toNatClampNeg) fun x6 =>
  itr (f_R_merge_B13 S o (f_R_merge_J44 S o)) (fun _ _ _ _ _ _ => none) fu d v1 v2 x6 0 0
set_option maxRecDepth 100000 in
set_option maxHeartbeats 4000000 in
theorem c_R_merge (l : Launch) (G : gG) {S : gS} {d : gD} {o : Nat} {v1 : Int32} {v2 : Int32} {r : Unit} {d' : gD} (h : f_R_merge S d o v1 v2 = some (r, d')) : GM l G y_R_merge b_R_merge 10 none 4 90 0 0 [.inr (.inr (some o)), .inl v1, .inl v2] S d (none) S d' := by
  refine GM.of (by decide) (Nat.le_of_ble_eq_true rfl) ?_
  intro X hl0 hG0 hR0 hE0
  have hE : gE X b_R_merge 10 "StandInMillModel" none "merge" 4 90 := hE0
  unfold f_R_merge at h
  refine gw.less (lv' := [some (va_rf (some o)), some (.int v1), some (.int v2), none, none, none, none, none, none, none]) (And.intro rfl (And.intro rfl (And.intro rfl trivial))) ?_
  refine g_aload_n (i := 0) hE d_R_merge_0 rfl rfl ?_
  obtain ⟨k1, h⟩ := kd_s h
  refine g_getR 34 hE kc_R k1 (Nat.le_of_ble_eq_true rfl) rfl m_411 d_R_merge_1 (fun x2 e => ?_)
  replace h := lt_i e h; clear e
  refine g_iload_n (i := 1) hE d_R_merge_4 rfl rfl ?_
  obtain ⟨a3, rfl, h⟩ := nn_s h
  obtain ⟨k4, h⟩ := kd_s h
  obtain ⟨g5, h⟩ := gi_s h
  refine g_iald hE k4 g5 d_R_merge_5 (fun x6 e => ?_)
  replace h := lt_i e h; clear e
  refine g_istore_n (i := 3) (lv' := [some (va_rf (some o)), some (.int v1), some (.int v2), some (.int x6), none, none, none, none, none, none]) hE d_R_merge_6 rfl (Nat.le_of_ble_eq_true rfl) ⟨rfl, Nat.le_of_ble_eq_true rfl⟩ (lvp_i rfl) ?_
  refine g_iconst hE d_R_merge_7 ki_0 ?_
  refine g_istore (i := 4) (lv' := [some (va_rf (some o)), some (.int v1), some (.int v2), some (.int x6), some (.int 0), none, none, none, none, none]) hE d_R_merge_8 (Nat.le_of_ble_eq_true rfl) ⟨rfl, Nat.le_of_ble_eq_true rfl⟩ (lvp_i rfl) ?_
  refine g_iconst hE d_R_merge_10 ki_0 ?_
  refine g_istore (i := 5) (lv' := [some (va_rf (some o)), some (.int v1), some (.int v2), some (.int x6), some (.int 0), some (.int 0), none, none, none, none]) hE d_R_merge_11 (Nat.le_of_ble_eq_true rfl) ⟨rfl, Nat.le_of_ble_eq_true rfl⟩ (lvp_i rfl) ?_
  exact gw.less (lv' := [some (va_rf (some o)), some (.int v1), some (.int v2), some (.int x6), some (.int 0), some (.int 0), none, none, none, none]) (And.intro rfl (And.intro rfl (And.intro rfl (And.intro rfl (And.intro rfl (And.intro rfl trivial)))))) (w_R_merge_L13 hE (w_R_merge_J44 hE) fu d v1 v2 x6 0 0 h)
