theorem d_R_sayMethod_0 : dc b_R_sayMethod 0 (.aload_n 0) 1 1 := ⟨by decide +kernel, rfl⟩
theorem d_R_sayMethod_1 : dc b_R_sayMethod 1 (.getfield 109) 3 4 := ⟨by decide +kernel, rfl⟩
theorem d_R_sayMethod_4 : dc b_R_sayMethod 4 (.iload_n 1) 1 5 := ⟨by decide +kernel, rfl⟩
theorem d_R_sayMethod_5 : dc b_R_sayMethod 5 (.iaload) 1 6 := ⟨by decide +kernel, rfl⟩
theorem d_R_sayMethod_6 : dc b_R_sayMethod 6 (.istore_n 2) 1 7 := ⟨by decide +kernel, rfl⟩
theorem d_R_sayMethod_7 : dc b_R_sayMethod 7 (.aload_n 0) 1 8 := ⟨by decide +kernel, rfl⟩
theorem d_R_sayMethod_8 : dc b_R_sayMethod 8 (.iload_n 2) 1 9 := ⟨by decide +kernel, rfl⟩
theorem d_R_sayMethod_9 : dc b_R_sayMethod 9 (.invokevirtual 223) 3 12 := ⟨by decide +kernel, rfl⟩
theorem d_R_sayMethod_12 : dc b_R_sayMethod 12 (.istore_n 3) 1 13 := ⟨by decide +kernel, rfl⟩
theorem d_R_sayMethod_13 : dc b_R_sayMethod 13 (.aload_n 0) 1 14 := ⟨by decide +kernel, rfl⟩
theorem d_R_sayMethod_14 : dc b_R_sayMethod 14 (.aload_n 0) 1 15 := ⟨by decide +kernel, rfl⟩
theorem d_R_sayMethod_15 : dc b_R_sayMethod 15 (.iconst 3) 1 16 := ⟨by decide +kernel, rfl⟩
theorem d_R_sayMethod_16 : dc b_R_sayMethod 16 (.aload_n 0) 1 17 := ⟨by decide +kernel, rfl⟩
theorem d_R_sayMethod_17 : dc b_R_sayMethod 17 (.getfield 51) 3 20 := ⟨by decide +kernel, rfl⟩
theorem d_R_sayMethod_20 : dc b_R_sayMethod 20 (.iload_n 2) 1 21 := ⟨by decide +kernel, rfl⟩
theorem d_R_sayMethod_21 : dc b_R_sayMethod 21 (.iaload) 1 22 := ⟨by decide +kernel, rfl⟩
theorem d_R_sayMethod_22 : dc b_R_sayMethod 22 (.iconst 0) 1 23 := ⟨by decide +kernel, rfl⟩
theorem d_R_sayMethod_23 : dc b_R_sayMethod 23 (.invokevirtual 220) 3 26 := ⟨by decide +kernel, rfl⟩
theorem d_R_sayMethod_26 : dc b_R_sayMethod 26 (.invokevirtual 210) 3 29 := ⟨by decide +kernel, rfl⟩
theorem d_R_sayMethod_29 : dc b_R_sayMethod 29 (.aload_n 0) 1 30 := ⟨by decide +kernel, rfl⟩
theorem d_R_sayMethod_30 : dc b_R_sayMethod 30 (.iload_n 3) 1 31 := ⟨by decide +kernel, rfl⟩
theorem d_R_sayMethod_31 : dc b_R_sayMethod 31 (.invokevirtual 210) 3 34 := ⟨by decide +kernel, rfl⟩
theorem d_R_sayMethod_34 : dc b_R_sayMethod 34 (.iconst 0) 1 35 := ⟨by decide +kernel, rfl⟩
theorem d_R_sayMethod_35 : dc b_R_sayMethod 35 (.istore 4) 2 37 := ⟨by decide +kernel, rfl⟩
theorem d_R_sayMethod_37 : dc b_R_sayMethod 37 (.iload 4) 2 39 := ⟨by decide +kernel, rfl⟩
theorem d_R_sayMethod_39 : dc b_R_sayMethod 39 (.iload_n 3) 1 40 := ⟨by decide +kernel, rfl⟩
theorem d_R_sayMethod_40 : db b_R_sayMethod 40 (.if_icmp .ge 30) 30 70 43 := ⟨by decide +kernel, by decide, rfl⟩
theorem d_R_sayMethod_43 : dc b_R_sayMethod 43 (.aload_n 0) 1 44 := ⟨by decide +kernel, rfl⟩
theorem d_R_sayMethod_44 : dc b_R_sayMethod 44 (.aload_n 0) 1 45 := ⟨by decide +kernel, rfl⟩
theorem d_R_sayMethod_45 : dc b_R_sayMethod 45 (.iconst 1) 1 46 := ⟨by decide +kernel, rfl⟩
theorem d_R_sayMethod_46 : dc b_R_sayMethod 46 (.aload_n 0) 1 47 := ⟨by decide +kernel, rfl⟩
theorem d_R_sayMethod_47 : dc b_R_sayMethod 47 (.getfield 57) 3 50 := ⟨by decide +kernel, rfl⟩
theorem d_R_sayMethod_50 : dc b_R_sayMethod 50 (.iconst 3) 1 51 := ⟨by decide +kernel, rfl⟩
theorem d_R_sayMethod_51 : dc b_R_sayMethod 51 (.iload_n 2) 1 52 := ⟨by decide +kernel, rfl⟩
theorem d_R_sayMethod_52 : dc b_R_sayMethod 52 (.imul) 1 53 := ⟨by decide +kernel, rfl⟩
theorem d_R_sayMethod_53 : dc b_R_sayMethod 53 (.iload 4) 2 55 := ⟨by decide +kernel, rfl⟩
theorem d_R_sayMethod_55 : dc b_R_sayMethod 55 (.iadd) 1 56 := ⟨by decide +kernel, rfl⟩
theorem d_R_sayMethod_56 : dc b_R_sayMethod 56 (.iaload) 1 57 := ⟨by decide +kernel, rfl⟩
theorem d_R_sayMethod_57 : dc b_R_sayMethod 57 (.iconst 0) 1 58 := ⟨by decide +kernel, rfl⟩
theorem d_R_sayMethod_58 : dc b_R_sayMethod 58 (.invokevirtual 220) 3 61 := ⟨by decide +kernel, rfl⟩
theorem d_R_sayMethod_61 : dc b_R_sayMethod 61 (.invokevirtual 210) 3 64 := ⟨by decide +kernel, rfl⟩
theorem d_R_sayMethod_64 : dc b_R_sayMethod 64 (.iinc 4 1) 3 67 := ⟨by decide +kernel, rfl⟩
theorem d_R_sayMethod_67 : db b_R_sayMethod 67 (.goto (-30)) (-30) 37 70 := ⟨by decide +kernel, by decide, rfl⟩
theorem d_R_sayMethod_70 : dc b_R_sayMethod 70 (.aload_n 0) 1 71 := ⟨by decide +kernel, rfl⟩
theorem d_R_sayMethod_71 : dc b_R_sayMethod 71 (.aload_n 0) 1 72 := ⟨by decide +kernel, rfl⟩
theorem d_R_sayMethod_72 : dc b_R_sayMethod 72 (.iconst 1) 1 73 := ⟨by decide +kernel, rfl⟩
theorem d_R_sayMethod_73 : dc b_R_sayMethod 73 (.aload_n 0) 1 74 := ⟨by decide +kernel, rfl⟩
theorem d_R_sayMethod_74 : dc b_R_sayMethod 74 (.getfield 54) 3 77 := ⟨by decide +kernel, rfl⟩
theorem d_R_sayMethod_77 : dc b_R_sayMethod 77 (.iload_n 2) 1 78 := ⟨by decide +kernel, rfl⟩
theorem d_R_sayMethod_78 : dc b_R_sayMethod 78 (.iaload) 1 79 := ⟨by decide +kernel, rfl⟩
theorem d_R_sayMethod_79 : dc b_R_sayMethod 79 (.iconst 0) 1 80 := ⟨by decide +kernel, rfl⟩
theorem d_R_sayMethod_80 : dc b_R_sayMethod 80 (.invokevirtual 220) 3 83 := ⟨by decide +kernel, rfl⟩
theorem d_R_sayMethod_83 : dc b_R_sayMethod 83 (.invokevirtual 210) 3 86 := ⟨by decide +kernel, rfl⟩
theorem d_R_sayMethod_86 : dc b_R_sayMethod 86 (.aload_n 0) 1 87 := ⟨by decide +kernel, rfl⟩
theorem d_R_sayMethod_87 : dc b_R_sayMethod 87 (.aload_n 0) 1 88 := ⟨by decide +kernel, rfl⟩
theorem d_R_sayMethod_88 : dc b_R_sayMethod 88 (.getfield 115) 3 91 := ⟨by decide +kernel, rfl⟩
theorem d_R_sayMethod_91 : dc b_R_sayMethod 91 (.iload_n 1) 1 92 := ⟨by decide +kernel, rfl⟩
theorem d_R_sayMethod_92 : dc b_R_sayMethod 92 (.iaload) 1 93 := ⟨by decide +kernel, rfl⟩
theorem d_R_sayMethod_93 : dc b_R_sayMethod 93 (.invokevirtual 210) 3 96 := ⟨by decide +kernel, rfl⟩
theorem d_R_sayMethod_96 : dc b_R_sayMethod 96 (.iconst 0) 1 97 := ⟨by decide +kernel, rfl⟩
theorem d_R_sayMethod_97 : dc b_R_sayMethod 97 (.istore 4) 2 99 := ⟨by decide +kernel, rfl⟩
theorem d_R_sayMethod_99 : dc b_R_sayMethod 99 (.iload 4) 2 101 := ⟨by decide +kernel, rfl⟩
theorem d_R_sayMethod_101 : dc b_R_sayMethod 101 (.aload_n 0) 1 102 := ⟨by decide +kernel, rfl⟩
theorem d_R_sayMethod_102 : dc b_R_sayMethod 102 (.getfield 115) 3 105 := ⟨by decide +kernel, rfl⟩
theorem d_R_sayMethod_105 : dc b_R_sayMethod 105 (.iload_n 1) 1 106 := ⟨by decide +kernel, rfl⟩
theorem d_R_sayMethod_106 : dc b_R_sayMethod 106 (.iaload) 1 107 := ⟨by decide +kernel, rfl⟩
theorem d_R_sayMethod_107 : db b_R_sayMethod 107 (.if_icmp .ge 31) 31 138 110 := ⟨by decide +kernel, by decide, rfl⟩
theorem d_R_sayMethod_110 : dc b_R_sayMethod 110 (.aload_n 0) 1 111 := ⟨by decide +kernel, rfl⟩
theorem d_R_sayMethod_111 : dc b_R_sayMethod 111 (.aload_n 0) 1 112 := ⟨by decide +kernel, rfl⟩
theorem d_R_sayMethod_112 : dc b_R_sayMethod 112 (.iconst 1) 1 113 := ⟨by decide +kernel, rfl⟩
theorem d_R_sayMethod_113 : dc b_R_sayMethod 113 (.aload_n 0) 1 114 := ⟨by decide +kernel, rfl⟩
theorem d_R_sayMethod_114 : dc b_R_sayMethod 114 (.getfield 112) 3 117 := ⟨by decide +kernel, rfl⟩
theorem d_R_sayMethod_117 : dc b_R_sayMethod 117 (.bipush 16) 2 119 := ⟨by decide +kernel, rfl⟩
theorem d_R_sayMethod_119 : dc b_R_sayMethod 119 (.iload_n 1) 1 120 := ⟨by decide +kernel, rfl⟩
theorem d_R_sayMethod_120 : dc b_R_sayMethod 120 (.imul) 1 121 := ⟨by decide +kernel, rfl⟩
theorem d_R_sayMethod_121 : dc b_R_sayMethod 121 (.iload 4) 2 123 := ⟨by decide +kernel, rfl⟩
theorem d_R_sayMethod_123 : dc b_R_sayMethod 123 (.iadd) 1 124 := ⟨by decide +kernel, rfl⟩
theorem d_R_sayMethod_124 : dc b_R_sayMethod 124 (.iaload) 1 125 := ⟨by decide +kernel, rfl⟩
theorem d_R_sayMethod_125 : dc b_R_sayMethod 125 (.iconst 0) 1 126 := ⟨by decide +kernel, rfl⟩
theorem d_R_sayMethod_126 : dc b_R_sayMethod 126 (.invokevirtual 220) 3 129 := ⟨by decide +kernel, rfl⟩
theorem d_R_sayMethod_129 : dc b_R_sayMethod 129 (.invokevirtual 210) 3 132 := ⟨by decide +kernel, rfl⟩
theorem d_R_sayMethod_132 : dc b_R_sayMethod 132 (.iinc 4 1) 3 135 := ⟨by decide +kernel, rfl⟩
theorem d_R_sayMethod_135 : db b_R_sayMethod 135 (.goto (-36)) (-36) 99 138 := ⟨by decide +kernel, by decide, rfl⟩
theorem d_R_sayMethod_138 : dc b_R_sayMethod 138 (.aload_n 0) 1 139 := ⟨by decide +kernel, rfl⟩
theorem d_R_sayMethod_139 : dc b_R_sayMethod 139 (.getfield 133) 3 142 := ⟨by decide +kernel, rfl⟩
theorem d_R_sayMethod_142 : dc b_R_sayMethod 142 (.istore 4) 2 144 := ⟨by decide +kernel, rfl⟩
theorem d_R_sayMethod_144 : dc b_R_sayMethod 144 (.aload_n 0) 1 145 := ⟨by decide +kernel, rfl⟩
theorem d_R_sayMethod_145 : dc b_R_sayMethod 145 (.iconst 0) 1 146 := ⟨by decide +kernel, rfl⟩
theorem d_R_sayMethod_146 : dc b_R_sayMethod 146 (.invokevirtual 210) 3 149 := ⟨by decide +kernel, rfl⟩
theorem d_R_sayMethod_149 : dc b_R_sayMethod 149 (.aload_n 0) 1 150 := ⟨by decide +kernel, rfl⟩
theorem d_R_sayMethod_150 : dc b_R_sayMethod 150 (.iload_n 2) 1 151 := ⟨by decide +kernel, rfl⟩
theorem d_R_sayMethod_151 : dc b_R_sayMethod 151 (.invokevirtual 226) 3 154 := ⟨by decide +kernel, rfl⟩
theorem d_R_sayMethod_154 : dc b_R_sayMethod 154 (.aload_n 0) 1 155 := ⟨by decide +kernel, rfl⟩
theorem d_R_sayMethod_155 : dc b_R_sayMethod 155 (.iload_n 1) 1 156 := ⟨by decide +kernel, rfl⟩
theorem d_R_sayMethod_156 : dc b_R_sayMethod 156 (.invokevirtual 229) 3 159 := ⟨by decide +kernel, rfl⟩
theorem d_R_sayMethod_159 : dc b_R_sayMethod 159 (.aload_n 0) 1 160 := ⟨by decide +kernel, rfl⟩
theorem d_R_sayMethod_160 : dc b_R_sayMethod 160 (.getfield 124) 3 163 := ⟨by decide +kernel, rfl⟩
theorem d_R_sayMethod_163 : db b_R_sayMethod 163 (.ifCond .le 15) 15 178 166 := ⟨by decide +kernel, by decide, rfl⟩
theorem d_R_sayMethod_166 : dc b_R_sayMethod 166 (.aload_n 0) 1 167 := ⟨by decide +kernel, rfl⟩
theorem d_R_sayMethod_167 : dc b_R_sayMethod 167 (.bipush 17) 2 169 := ⟨by decide +kernel, rfl⟩
theorem d_R_sayMethod_169 : dc b_R_sayMethod 169 (.invokevirtual 210) 3 172 := ⟨by decide +kernel, rfl⟩
theorem d_R_sayMethod_172 : dc b_R_sayMethod 172 (.aload_n 0) 1 173 := ⟨by decide +kernel, rfl⟩
theorem d_R_sayMethod_173 : dc b_R_sayMethod 173 (.bipush 18) 2 175 := ⟨by decide +kernel, rfl⟩
theorem d_R_sayMethod_175 : dc b_R_sayMethod 175 (.invokevirtual 210) 3 178 := ⟨by decide +kernel, rfl⟩
theorem d_R_sayMethod_178 : dc b_R_sayMethod 178 (.aload_n 0) 1 179 := ⟨by decide +kernel, rfl⟩
theorem d_R_sayMethod_179 : dc b_R_sayMethod 179 (.getfield 130) 3 182 := ⟨by decide +kernel, rfl⟩
theorem d_R_sayMethod_182 : dc b_R_sayMethod 182 (.iload 4) 2 184 := ⟨by decide +kernel, rfl⟩
theorem d_R_sayMethod_184 : dc b_R_sayMethod 184 (.aload_n 0) 1 185 := ⟨by decide +kernel, rfl⟩
theorem d_R_sayMethod_185 : dc b_R_sayMethod 185 (.getfield 133) 3 188 := ⟨by decide +kernel, rfl⟩
theorem d_R_sayMethod_188 : dc b_R_sayMethod 188 (.iload 4) 2 190 := ⟨by decide +kernel, rfl⟩
theorem d_R_sayMethod_190 : dc b_R_sayMethod 190 (.isub) 1 191 := ⟨by decide +kernel, rfl⟩
theorem d_R_sayMethod_191 : dc b_R_sayMethod 191 (.iconst 1) 1 192 := ⟨by decide +kernel, rfl⟩
theorem d_R_sayMethod_192 : dc b_R_sayMethod 192 (.isub) 1 193 := ⟨by decide +kernel, rfl⟩
theorem d_R_sayMethod_193 : dc b_R_sayMethod 193 (.iastore) 1 194 := ⟨by decide +kernel, rfl⟩
theorem d_R_sayMethod_194 : dc b_R_sayMethod 194 (.aload_n 0) 1 195 := ⟨by decide +kernel, rfl⟩
theorem d_R_sayMethod_195 : dc b_R_sayMethod 195 (.aload_n 0) 1 196 := ⟨by decide +kernel, rfl⟩
theorem d_R_sayMethod_196 : dc b_R_sayMethod 196 (.getfield 124) 3 199 := ⟨by decide +kernel, rfl⟩
theorem d_R_sayMethod_199 : dc b_R_sayMethod 199 (.invokevirtual 210) 3 202 := ⟨by decide +kernel, rfl⟩
theorem d_R_sayMethod_202 : dc b_R_sayMethod 202 (.iconst 0) 1 203 := ⟨by decide +kernel, rfl⟩
theorem d_R_sayMethod_203 : dc b_R_sayMethod 203 (.istore 5) 2 205 := ⟨by decide +kernel, rfl⟩
theorem d_R_sayMethod_205 : dc b_R_sayMethod 205 (.iload 5) 2 207 := ⟨by decide +kernel, rfl⟩
theorem d_R_sayMethod_207 : dc b_R_sayMethod 207 (.aload_n 0) 1 208 := ⟨by decide +kernel, rfl⟩
theorem d_R_sayMethod_208 : dc b_R_sayMethod 208 (.getfield 124) 3 211 := ⟨by decide +kernel, rfl⟩
theorem d_R_sayMethod_211 : db b_R_sayMethod 211 (.if_icmp .ge 26) 26 237 214 := ⟨by decide +kernel, by decide, rfl⟩
theorem d_R_sayMethod_214 : dc b_R_sayMethod 214 (.aload_n 0) 1 215 := ⟨by decide +kernel, rfl⟩
theorem d_R_sayMethod_215 : dc b_R_sayMethod 215 (.aload_n 0) 1 216 := ⟨by decide +kernel, rfl⟩
theorem d_R_sayMethod_216 : dc b_R_sayMethod 216 (.iconst 1) 1 217 := ⟨by decide +kernel, rfl⟩
theorem d_R_sayMethod_217 : dc b_R_sayMethod 217 (.aload_n 0) 1 218 := ⟨by decide +kernel, rfl⟩
theorem d_R_sayMethod_218 : dc b_R_sayMethod 218 (.getfield 127) 3 221 := ⟨by decide +kernel, rfl⟩
theorem d_R_sayMethod_221 : dc b_R_sayMethod 221 (.iload 5) 2 223 := ⟨by decide +kernel, rfl⟩
theorem d_R_sayMethod_223 : dc b_R_sayMethod 223 (.iaload) 1 224 := ⟨by decide +kernel, rfl⟩
theorem d_R_sayMethod_224 : dc b_R_sayMethod 224 (.iconst 0) 1 225 := ⟨by decide +kernel, rfl⟩
theorem d_R_sayMethod_225 : dc b_R_sayMethod 225 (.invokevirtual 220) 3 228 := ⟨by decide +kernel, rfl⟩
theorem d_R_sayMethod_228 : dc b_R_sayMethod 228 (.invokevirtual 210) 3 231 := ⟨by decide +kernel, rfl⟩
theorem d_R_sayMethod_231 : dc b_R_sayMethod 231 (.iinc 5 1) 3 234 := ⟨by decide +kernel, rfl⟩
theorem d_R_sayMethod_234 : db b_R_sayMethod 234 (.goto (-29)) (-29) 205 237 := ⟨by decide +kernel, by decide, rfl⟩
theorem d_R_sayMethod_237 : dc b_R_sayMethod 237 (.return_) 1 238 := ⟨by decide +kernel, rfl⟩
def f_R_sayMethod_B37 (S : gS) (o : Nat) (kx70 : gD → Int32 → Int32 → Option (Unit × gD)) (kb : gD → Int32 → Int32 → Int32 → Int32 → Option (Unit × gD)) (d : gD) (v1 : Int32) (v2 : Int32) (v3 : Int32) (v4 : Int32) : Option (Unit × gD) :=
  if v3 ≤ v4 then (
    kx70 d v1 v2)
  else (
    kd S o 10 <|
    lt_ (sP S o 15) fun x2 =>
    nn x2 fun a3 =>
    kd S a3 50 <|
    gi ((3 * v2) + v4) (sN S a3) <|
    lt_ (dI d a3 ((3 * v2) + v4 : Int32).toNatClampNeg) fun x6 =>
    bdD (f_R_entry S d o 1 x6 0) fun x7 d9 =>
    bdD (f_R_say S d9 o x7) fun _ d12 =>
    kb d12 v1 v2 v3 (v4 + 1))
set_option maxRecDepth 100000 in
set_option maxHeartbeats 4000000 in
theorem w_R_sayMethod_B37 {X : GX} (hE : gE X b_R_sayMethod 6 "StandInMillModel" none "sayMethod" 4 93) {S : gS} {o : Nat} {r : Unit} {d' : gD} {kb : gD → Int32 → Int32 → Int32 → Int32 → Option (Unit × gD)} {kx70 : gD → Int32 → Int32 → Option (Unit × gD)} (hkb : ∀ (d : gD) (v1 : Int32) (v2 : Int32) (v3 : Int32) (v4 : Int32), kb d v1 v2 v3 v4 = some (r, d') → gw X 0 0 (gQ X (none) S d' 0 0) S d 37 [some (va_rf (some o)), some (.int v1), some (.int v2), some (.int v3), some (.int v4), none] []) (hkx70 : ∀ (d : gD) (v1 : Int32) (v2 : Int32), kx70 d v1 v2 = some (r, d') → gw X 0 0 (gQ X (none) S d' 0 0) S d 70 [some (va_rf (some o)), some (.int v1), some (.int v2), none, none, none] []) :
    ∀ (d : gD) (v1 : Int32) (v2 : Int32) (v3 : Int32) (v4 : Int32), f_R_sayMethod_B37 S o kx70 kb d v1 v2 v3 v4 = some (r, d') → gw X 0 0 (gQ X (none) S d' 0 0) S d 37 [some (va_rf (some o)), some (.int v1), some (.int v2), some (.int v3), some (.int v4), none] [] := by
  intro d v1 v2 v3 v4 h
  unfold f_R_sayMethod_B37 at h
  refine g_iload (i := 4) hE d_R_sayMethod_37 rfl ?_
  refine g_iload_n (i := 3) hE d_R_sayMethod_39 rfl rfl ?_
  refine g_icmp_ge hE d_R_sayMethod_40 (fun c13 => ?_) (fun c13 => ?_)
  · replace h := if_t c13 h
    exact gw.less (lv' := [some (va_rf (some o)), some (.int v1), some (.int v2), none, none, none]) (And.intro rfl (And.intro rfl (And.intro rfl trivial))) (hkx70 d v1 v2 h)
  · replace h := if_f c13 h
    refine g_aload_n (i := 0) hE d_R_sayMethod_43 rfl rfl ?_
    refine g_aload_n (i := 0) hE d_R_sayMethod_44 rfl rfl ?_
    refine g_iconst hE d_R_sayMethod_45 ki_1 ?_
    refine g_aload_n (i := 0) hE d_R_sayMethod_46 rfl rfl ?_
    obtain ⟨k1, h⟩ := kd_s h
    refine g_getR 15 hE kc_R k1 (Nat.le_of_ble_eq_true rfl) rfl m_392 d_R_sayMethod_47 (fun x2 e => ?_)
    replace h := lt_i e h; clear e
    refine g_iconst hE d_R_sayMethod_50 ki_3 ?_
    refine g_iload_n (i := 2) hE d_R_sayMethod_51 rfl rfl ?_
    refine g_imul hE d_R_sayMethod_52 ?_
    refine g_iload (i := 4) hE d_R_sayMethod_53 rfl ?_
    refine g_iadd hE d_R_sayMethod_55 ?_
    obtain ⟨a3, rfl, h⟩ := nn_s h
    obtain ⟨k4, h⟩ := kd_s h
    obtain ⟨g5, h⟩ := gi_s h
    refine g_iald hE k4 g5 d_R_sayMethod_56 (fun x6 e => ?_)
    replace h := lt_i e h; clear e
    refine g_iconst hE d_R_sayMethod_57 ki_0 ?_
    obtain ⟨x7, d9, e8, h⟩ := bdD_s h
    refine g_callV (av := [.inr (.inr (some o)), .inl 1, .inl x6, .inl 0]) (as := [.inl 1, .inl x6, .inl 0]) (stk := [.int x7, va_rf (some o)]) [va_rf (some o)] hE (c_R_entry (xl X) (xG X) e8) ky_R_entry ⟨Nat.le_of_ble_eq_true rfl, Nat.le_of_ble_eq_true rfl⟩ rfl kc_R k1 m_478 m_479 m_480 rfl d_R_sayMethod_58 rfl rfl (Nat.le_trans (ct_r ct_n) (Nat.le_of_ble_eq_true rfl)) (Nat.zero_le _) (Nat.zero_le _) ?_
    refine gw.cs (c2 := 0) (s2 := 0) rfl rfl ?_
    obtain ⟨x10, d12, e11, h⟩ := bdD_s h
    refine g_callV (av := [.inr (.inr (some o)), .inl x7]) (as := [.inl x7]) (stk := []) [] hE (c_R_say (xl X) (xG X) e11) ky_R_say ⟨Nat.le_of_ble_eq_true rfl, Nat.le_of_ble_eq_true rfl⟩ rfl kc_R k1 m_471 m_472 m_473 rfl d_R_sayMethod_61 rfl rfl ct_0 (Nat.zero_le _) (Nat.zero_le _) ?_
    refine gw.cs (c2 := 0) (s2 := 0) rfl rfl ?_
    refine g_iinc (i := 4) (lv' := [some (va_rf (some o)), some (.int v1), some (.int v2), some (.int v3), some (.int (v4 + 1)), none]) hE d_R_sayMethod_64 ki_1 rfl (Nat.le_of_ble_eq_true rfl) ⟨rfl, Nat.le_of_ble_eq_true rfl⟩ (lvp_i rfl) ?_
    refine g_goto hE d_R_sayMethod_67 ?_
    exact gw.less (lv' := [some (va_rf (some o)), some (.int v1), some (.int v2), some (.int v3), some (.int (v4 + 1)), none]) (And.intro rfl (And.intro rfl (And.intro rfl (And.intro rfl (And.intro rfl trivial))))) (hkb d12 v1 v2 v3 (v4 + 1) h)
theorem w_R_sayMethod_L37 {X : GX} (hE : gE X b_R_sayMethod 6 "StandInMillModel" none "sayMethod" 4 93) {S : gS} {o : Nat} {r : Unit} {d' : gD} {kx70 : gD → Int32 → Int32 → Option (Unit × gD)} (hkx70 : ∀ (d : gD) (v1 : Int32) (v2 : Int32), kx70 d v1 v2 = some (r, d') → gw X 0 0 (gQ X (none) S d' 0 0) S d 70 [some (va_rf (some o)), some (.int v1), some (.int v2), none, none, none] []) : ∀ (n : Nat) (d : gD) (v1 : Int32) (v2 : Int32) (v3 : Int32) (v4 : Int32), itr (f_R_sayMethod_B37 S o kx70) (fun _ _ _ _ _ => none) n d v1 v2 v3 v4 = some (r, d') → gw X 0 0 (gQ X (none) S d' 0 0) S d 37 [some (va_rf (some o)), some (.int v1), some (.int v2), some (.int v3), some (.int v4), none] [] := by
  intro n
  induction n with
  | zero => intro d v1 v2 v3 v4 h; cases h
  | succ n ih => exact w_R_sayMethod_B37 hE ih hkx70
def f_R_sayMethod_B99 (S : gS) (o : Nat) (kx138 : gD → Int32 → Int32 → Option (Unit × gD)) (kb : gD → Int32 → Int32 → Int32 → Option (Unit × gD)) (d : gD) (v1 : Int32) (v2 : Int32) (v4 : Int32) : Option (Unit × gD) :=
  kd S o 10 <|
  lt_ (sP S o 34) fun x2 =>
  nn x2 fun a3 =>
  kd S a3 50 <|
  gi v1 (sN S a3) <|
  lt_ (dI d a3 v1.toNatClampNeg) fun x6 =>
  if x6 ≤ v4 then (
    kx138 d v1 v2)
  else (
    lt_ (sP S o 33) fun x7 =>
    nn x7 fun a8 =>
    kd S a8 50 <|
    gi ((16 * v1) + v4) (sN S a8) <|
    lt_ (dI d a8 ((16 * v1) + v4 : Int32).toNatClampNeg) fun x11 =>
    bdD (f_R_entry S d o 1 x11 0) fun x12 d14 =>
    bdD (f_R_say S d14 o x12) fun _ d17 =>
    kb d17 v1 v2 (v4 + 1))
set_option maxRecDepth 100000 in
set_option maxHeartbeats 4000000 in
theorem w_R_sayMethod_B99 {X : GX} (hE : gE X b_R_sayMethod 6 "StandInMillModel" none "sayMethod" 4 93) {S : gS} {o : Nat} {r : Unit} {d' : gD} {kb : gD → Int32 → Int32 → Int32 → Option (Unit × gD)} {kx138 : gD → Int32 → Int32 → Option (Unit × gD)} (hkb : ∀ (d : gD) (v1 : Int32) (v2 : Int32) (v4 : Int32), kb d v1 v2 v4 = some (r, d') → gw X 0 0 (gQ X (none) S d' 0 0) S d 99 [some (va_rf (some o)), some (.int v1), some (.int v2), none, some (.int v4), none] []) (hkx138 : ∀ (d : gD) (v1 : Int32) (v2 : Int32), kx138 d v1 v2 = some (r, d') → gw X 0 0 (gQ X (none) S d' 0 0) S d 138 [some (va_rf (some o)), some (.int v1), some (.int v2), none, none, none] []) :
    ∀ (d : gD) (v1 : Int32) (v2 : Int32) (v4 : Int32), f_R_sayMethod_B99 S o kx138 kb d v1 v2 v4 = some (r, d') → gw X 0 0 (gQ X (none) S d' 0 0) S d 99 [some (va_rf (some o)), some (.int v1), some (.int v2), none, some (.int v4), none] [] := by
  intro d v1 v2 v4 h
  unfold f_R_sayMethod_B99 at h
  refine g_iload (i := 4) hE d_R_sayMethod_99 rfl ?_
  refine g_aload_n (i := 0) hE d_R_sayMethod_101 rfl rfl ?_
  obtain ⟨k1, h⟩ := kd_s h
  refine g_getR 34 hE kc_R k1 (Nat.le_of_ble_eq_true rfl) rfl m_411 d_R_sayMethod_102 (fun x2 e => ?_)
  replace h := lt_i e h; clear e
  refine g_iload_n (i := 1) hE d_R_sayMethod_105 rfl rfl ?_
  obtain ⟨a3, rfl, h⟩ := nn_s h
  obtain ⟨k4, h⟩ := kd_s h
  obtain ⟨g5, h⟩ := gi_s h
  refine g_iald hE k4 g5 d_R_sayMethod_106 (fun x6 e => ?_)
  replace h := lt_i e h; clear e
  refine g_icmp_ge hE d_R_sayMethod_107 (fun c18 => ?_) (fun c18 => ?_)
  · replace h := if_t c18 h
    exact gw.less (lv' := [some (va_rf (some o)), some (.int v1), some (.int v2), none, none, none]) (And.intro rfl (And.intro rfl (And.intro rfl trivial))) (hkx138 d v1 v2 h)
  · replace h := if_f c18 h
    refine g_aload_n (i := 0) hE d_R_sayMethod_110 rfl rfl ?_
    refine g_aload_n (i := 0) hE d_R_sayMethod_111 rfl rfl ?_
    refine g_iconst hE d_R_sayMethod_112 ki_1 ?_
    refine g_aload_n (i := 0) hE d_R_sayMethod_113 rfl rfl ?_
    refine g_getR 33 hE kc_R k1 (Nat.le_of_ble_eq_true rfl) rfl m_410 d_R_sayMethod_114 (fun x7 e => ?_)
    replace h := lt_i e h; clear e
    refine g_bipush hE d_R_sayMethod_117 kb_16 ?_
    refine g_iload_n (i := 1) hE d_R_sayMethod_119 rfl rfl ?_
    refine g_imul hE d_R_sayMethod_120 ?_
    refine g_iload (i := 4) hE d_R_sayMethod_121 rfl ?_
    refine g_iadd hE d_R_sayMethod_123 ?_
    obtain ⟨a8, rfl, h⟩ := nn_s h
    obtain ⟨k9, h⟩ := kd_s h
    obtain ⟨g10, h⟩ := gi_s h
    refine g_iald hE k9 g10 d_R_sayMethod_124 (fun x11 e => ?_)
    replace h := lt_i e h; clear e
    refine g_iconst hE d_R_sayMethod_125 ki_0 ?_
    obtain ⟨x12, d14, e13, h⟩ := bdD_s h
    refine g_callV (av := [.inr (.inr (some o)), .inl 1, .inl x11, .inl 0]) (as := [.inl 1, .inl x11, .inl 0]) (stk := [.int x12, va_rf (some o)]) [va_rf (some o)] hE (c_R_entry (xl X) (xG X) e13) ky_R_entry ⟨Nat.le_of_ble_eq_true rfl, Nat.le_of_ble_eq_true rfl⟩ rfl kc_R k1 m_478 m_479 m_480 rfl d_R_sayMethod_126 rfl rfl (Nat.le_trans (ct_r ct_n) (Nat.le_of_ble_eq_true rfl)) (Nat.zero_le _) (Nat.zero_le _) ?_
    refine gw.cs (c2 := 0) (s2 := 0) rfl rfl ?_
    obtain ⟨x15, d17, e16, h⟩ := bdD_s h
    refine g_callV (av := [.inr (.inr (some o)), .inl x12]) (as := [.inl x12]) (stk := []) [] hE (c_R_say (xl X) (xG X) e16) ky_R_say ⟨Nat.le_of_ble_eq_true rfl, Nat.le_of_ble_eq_true rfl⟩ rfl kc_R k1 m_471 m_472 m_473 rfl d_R_sayMethod_129 rfl rfl ct_0 (Nat.zero_le _) (Nat.zero_le _) ?_
    refine gw.cs (c2 := 0) (s2 := 0) rfl rfl ?_
    refine g_iinc (i := 4) (lv' := [some (va_rf (some o)), some (.int v1), some (.int v2), none, some (.int (v4 + 1)), none]) hE d_R_sayMethod_132 ki_1 rfl (Nat.le_of_ble_eq_true rfl) ⟨rfl, Nat.le_of_ble_eq_true rfl⟩ (lvp_n rfl) ?_
    refine g_goto hE d_R_sayMethod_135 ?_
    exact gw.less (lv' := [some (va_rf (some o)), some (.int v1), some (.int v2), none, some (.int (v4 + 1)), none]) (And.intro rfl (And.intro rfl (And.intro rfl (And.intro rfl trivial)))) (hkb d17 v1 v2 (v4 + 1) h)
theorem w_R_sayMethod_L99 {X : GX} (hE : gE X b_R_sayMethod 6 "StandInMillModel" none "sayMethod" 4 93) {S : gS} {o : Nat} {r : Unit} {d' : gD} {kx138 : gD → Int32 → Int32 → Option (Unit × gD)} (hkx138 : ∀ (d : gD) (v1 : Int32) (v2 : Int32), kx138 d v1 v2 = some (r, d') → gw X 0 0 (gQ X (none) S d' 0 0) S d 138 [some (va_rf (some o)), some (.int v1), some (.int v2), none, none, none] []) : ∀ (n : Nat) (d : gD) (v1 : Int32) (v2 : Int32) (v4 : Int32), itr (f_R_sayMethod_B99 S o kx138) (fun _ _ _ _ => none) n d v1 v2 v4 = some (r, d') → gw X 0 0 (gQ X (none) S d' 0 0) S d 99 [some (va_rf (some o)), some (.int v1), some (.int v2), none, some (.int v4), none] [] := by
  intro n
  induction n with
  | zero => intro d v1 v2 v4 h; cases h
  | succ n ih => exact w_R_sayMethod_B99 hE ih hkx138
def f_R_sayMethod_B205 (S : gS) (o : Nat) (kb : gD → Int32 → Option (Unit × gD)) (d : gD) (v5 : Int32) : Option (Unit × gD) :=
  kd S o 10 <|
  lt_ (dI d o 37) fun x2 =>
  if x2 ≤ v5 then (
    some ((), d))
  else (
    lt_ (sP S o 38) fun x3 =>
    nn x3 fun a4 =>
    kd S a4 50 <|
    gi v5 (sN S a4) <|
    lt_ (dI d a4 v5.toNatClampNeg) fun x7 =>
    bdD (f_R_entry S d o 1 x7 0) fun x8 d10 =>
    bdD (f_R_say S d10 o x8) fun _ d13 =>
    kb d13 (v5 + 1))
set_option maxRecDepth 100000 in
set_option maxHeartbeats 4000000 in
theorem w_R_sayMethod_B205 {X : GX} (hE : gE X b_R_sayMethod 6 "StandInMillModel" none "sayMethod" 4 93) {S : gS} {o : Nat} {r : Unit} {d' : gD} {kb : gD → Int32 → Option (Unit × gD)} (hkb : ∀ (d : gD) (v5 : Int32), kb d v5 = some (r, d') → gw X 0 0 (gQ X (none) S d' 0 0) S d 205 [some (va_rf (some o)), none, none, none, none, some (.int v5)] []) :
    ∀ (d : gD) (v5 : Int32), f_R_sayMethod_B205 S o kb d v5 = some (r, d') → gw X 0 0 (gQ X (none) S d' 0 0) S d 205 [some (va_rf (some o)), none, none, none, none, some (.int v5)] [] := by
  intro d v5 h
  unfold f_R_sayMethod_B205 at h
  refine g_iload (i := 5) hE d_R_sayMethod_205 rfl ?_
  refine g_aload_n (i := 0) hE d_R_sayMethod_207 rfl rfl ?_
  obtain ⟨k1, h⟩ := kd_s h
  refine g_getI 37 hE kc_R k1 (Nat.le_of_ble_eq_true rfl) rfl m_414 d_R_sayMethod_208 (fun x2 e => ?_)
  replace h := lt_i e h; clear e
  refine g_icmp_ge hE d_R_sayMethod_211 (fun c14 => ?_) (fun c14 => ?_)
  · replace h := if_t c14 h
    cases h
    exact g_vret hE d_R_sayMethod_237 rfl rfl
  · replace h := if_f c14 h
    refine g_aload_n (i := 0) hE d_R_sayMethod_214 rfl rfl ?_
    refine g_aload_n (i := 0) hE d_R_sayMethod_215 rfl rfl ?_
    refine g_iconst hE d_R_sayMethod_216 ki_1 ?_
    refine g_aload_n (i := 0) hE d_R_sayMethod_217 rfl rfl ?_
    refine g_getR 38 hE kc_R k1 (Nat.le_of_ble_eq_true rfl) rfl m_415 d_R_sayMethod_218 (fun x3 e => ?_)
    replace h := lt_i e h; clear e
    refine g_iload (i := 5) hE d_R_sayMethod_221 rfl ?_
    obtain ⟨a4, rfl, h⟩ := nn_s h
    obtain ⟨k5, h⟩ := kd_s h
    obtain ⟨g6, h⟩ := gi_s h
    refine g_iald hE k5 g6 d_R_sayMethod_223 (fun x7 e => ?_)
    replace h := lt_i e h; clear e
    refine g_iconst hE d_R_sayMethod_224 ki_0 ?_
    obtain ⟨x8, d10, e9, h⟩ := bdD_s h
    refine g_callV (av := [.inr (.inr (some o)), .inl 1, .inl x7, .inl 0]) (as := [.inl 1, .inl x7, .inl 0]) (stk := [.int x8, va_rf (some o)]) [va_rf (some o)] hE (c_R_entry (xl X) (xG X) e9) ky_R_entry ⟨Nat.le_of_ble_eq_true rfl, Nat.le_of_ble_eq_true rfl⟩ rfl kc_R k1 m_478 m_479 m_480 rfl d_R_sayMethod_225 rfl rfl (Nat.le_trans (ct_r ct_n) (Nat.le_of_ble_eq_true rfl)) (Nat.zero_le _) (Nat.zero_le _) ?_
    refine gw.cs (c2 := 0) (s2 := 0) rfl rfl ?_
    obtain ⟨x11, d13, e12, h⟩ := bdD_s h
    refine g_callV (av := [.inr (.inr (some o)), .inl x8]) (as := [.inl x8]) (stk := []) [] hE (c_R_say (xl X) (xG X) e12) ky_R_say ⟨Nat.le_of_ble_eq_true rfl, Nat.le_of_ble_eq_true rfl⟩ rfl kc_R k1 m_471 m_472 m_473 rfl d_R_sayMethod_228 rfl rfl ct_0 (Nat.zero_le _) (Nat.zero_le _) ?_
    refine gw.cs (c2 := 0) (s2 := 0) rfl rfl ?_
    refine g_iinc (i := 5) (lv' := [some (va_rf (some o)), none, none, none, none, some (.int (v5 + 1))]) hE d_R_sayMethod_231 ki_1 rfl (Nat.le_of_ble_eq_true rfl) ⟨rfl, Nat.le_of_ble_eq_true rfl⟩ (lvp_n rfl) ?_
    refine g_goto hE d_R_sayMethod_234 ?_
    exact gw.less (lv' := [some (va_rf (some o)), none, none, none, none, some (.int (v5 + 1))]) (And.intro rfl (And.intro rfl trivial)) (hkb d13 (v5 + 1) h)
theorem w_R_sayMethod_L205 {X : GX} (hE : gE X b_R_sayMethod 6 "StandInMillModel" none "sayMethod" 4 93) {S : gS} {o : Nat} {r : Unit} {d' : gD} : ∀ (n : Nat) (d : gD) (v5 : Int32), itr (f_R_sayMethod_B205 S o) (fun _ _ => none) n d v5 = some (r, d') → gw X 0 0 (gQ X (none) S d' 0 0) S d 205 [some (va_rf (some o)), none, none, none, none, some (.int v5)] [] := by
  intro n
  induction n with
  | zero => intro d v5 h; cases h
  | succ n ih => exact w_R_sayMethod_B205 hE ih
def f_R_sayMethod_J178 (S : gS) (o : Nat) (d : gD) (v4 : Int32) : Option (Unit × gD) :=
  kd S o 10 <|
  lt_ (sP S o 39) fun x2 =>
  lt_ (dI d o 40) fun x3 =>
  nn x2 fun a4 =>
  kd S a4 50 <|
  gi v4 (sN S a4) <|
  lt_ (wI d a4 v4.toNatClampNeg ((x3 - v4) - 1)) fun d7 =>
  lt_ (dI d7 o 37) fun x8 =>
  bdD (f_R_say S d7 o x8) fun _ d11 =>
  itr (f_R_sayMethod_B205 S o) (fun _ _ => none) fu d11 0
set_option maxRecDepth 100000 in
set_option maxHeartbeats 4000000 in
theorem w_R_sayMethod_J178 {X : GX} (hE : gE X b_R_sayMethod 6 "StandInMillModel" none "sayMethod" 4 93) {S : gS} {o : Nat} {r : Unit} {d' : gD} :
    ∀ (d : gD) (v4 : Int32), f_R_sayMethod_J178 S o d v4 = some (r, d') → gw X 0 0 (gQ X (none) S d' 0 0) S d 178 [some (va_rf (some o)), none, none, none, some (.int v4), none] [] := by
  intro d v4 h
  unfold f_R_sayMethod_J178 at h
  refine g_aload_n (i := 0) hE d_R_sayMethod_178 rfl rfl ?_
  obtain ⟨k1, h⟩ := kd_s h
  refine g_getR 39 hE kc_R k1 (Nat.le_of_ble_eq_true rfl) rfl m_416 d_R_sayMethod_179 (fun x2 e => ?_)
  replace h := lt_i e h; clear e
  refine g_iload (i := 4) hE d_R_sayMethod_182 rfl ?_
  refine g_aload_n (i := 0) hE d_R_sayMethod_184 rfl rfl ?_
  refine g_getI 40 hE kc_R k1 (Nat.le_of_ble_eq_true rfl) rfl m_417 d_R_sayMethod_185 (fun x3 e => ?_)
  replace h := lt_i e h; clear e
  refine g_iload (i := 4) hE d_R_sayMethod_188 rfl ?_
  refine g_isub hE d_R_sayMethod_190 ?_
  refine g_iconst hE d_R_sayMethod_191 ki_1 ?_
  refine g_isub hE d_R_sayMethod_192 ?_
  obtain ⟨a4, rfl, h⟩ := nn_s h
  obtain ⟨k5, h⟩ := kd_s h
  obtain ⟨g6, h⟩ := gi_s h
  refine g_iast hE k5 g6 d_R_sayMethod_193 (fun d7 e => ?_)
  replace h := lt_i e h; clear e
  refine g_aload_n (i := 0) hE d_R_sayMethod_194 rfl rfl ?_
  refine g_aload_n (i := 0) hE d_R_sayMethod_195 rfl rfl ?_
  refine g_getI 37 hE kc_R k1 (Nat.le_of_ble_eq_true rfl) rfl m_414 d_R_sayMethod_196 (fun x8 e => ?_)
  replace h := lt_i e h; clear e
  obtain ⟨x9, d11, e10, h⟩ := bdD_s h
  refine g_callV (av := [.inr (.inr (some o)), .inl x8]) (as := [.inl x8]) (stk := []) [] hE (c_R_say (xl X) (xG X) e10) ky_R_say ⟨Nat.le_of_ble_eq_true rfl, Nat.le_of_ble_eq_true rfl⟩ rfl kc_R k1 m_471 m_472 m_473 rfl d_R_sayMethod_199 rfl rfl ct_0 (Nat.zero_le _) (Nat.zero_le _) ?_
  refine gw.cs (c2 := 0) (s2 := 0) rfl rfl ?_
  refine g_iconst hE d_R_sayMethod_202 ki_0 ?_
  refine g_istore (i := 5) (lv' := [some (va_rf (some o)), none, none, none, some (.int v4), some (.int 0)]) hE d_R_sayMethod_203 (Nat.le_of_ble_eq_true rfl) ⟨rfl, Nat.le_of_ble_eq_true rfl⟩ (lvp_i rfl) ?_
  exact gw.less (lv' := [some (va_rf (some o)), none, none, none, none, some (.int 0)]) (And.intro rfl (And.intro rfl trivial)) (w_R_sayMethod_L205 hE fu d11 0 h)
def f_R_sayMethod_J138 (S : gS) (o : Nat) (d : gD) (v1 : Int32) (v2 : Int32) : Option (Unit × gD) :=
  kd S o 10 <|
  lt_ (dI d o 40) fun x2 =>
  bdD (f_R_say S d o 0) fun _ d5 =>
  bdD (f_R_sayCode S d5 o v2) fun _ d8 =>
  bdD (f_R_catchFor S d8 o v1) fun _ d11 =>
  lt_ (dI d11 o 37) fun x12 =>
  if x12 ≤ 0 then (
    f_R_sayMethod_J178 S o d11 x2)
  else (
    bdD (f_R_say S d11 o 17) fun _ d15 =>
    bdD (f_R_say S d15 o 18) fun _ d18 =>
    f_R_sayMethod_J178 S o d18 x2)
set_option maxRecDepth 100000 in
set_option maxHeartbeats 4000000 in
theorem w_R_sayMethod_J138 {X : GX} (hE : gE X b_R_sayMethod 6 "StandInMillModel" none "sayMethod" 4 93) {S : gS} {o : Nat} {r : Unit} {d' : gD} :
    ∀ (d : gD) (v1 : Int32) (v2 : Int32), f_R_sayMethod_J138 S o d v1 v2 = some (r, d') → gw X 0 0 (gQ X (none) S d' 0 0) S d 138 [some (va_rf (some o)), some (.int v1), some (.int v2), none, none, none] [] := by
  intro d v1 v2 h
  unfold f_R_sayMethod_J138 at h
  refine g_aload_n (i := 0) hE d_R_sayMethod_138 rfl rfl ?_
  obtain ⟨k1, h⟩ := kd_s h
  refine g_getI 40 hE kc_R k1 (Nat.le_of_ble_eq_true rfl) rfl m_417 d_R_sayMethod_139 (fun x2 e => ?_)
  replace h := lt_i e h; clear e
  refine g_istore (i := 4) (lv' := [some (va_rf (some o)), some (.int v1), some (.int v2), none, some (.int x2), none]) hE d_R_sayMethod_142 (Nat.le_of_ble_eq_true rfl) ⟨rfl, Nat.le_of_ble_eq_true rfl⟩ (lvp_n rfl) ?_
  refine g_aload_n (i := 0) hE d_R_sayMethod_144 rfl rfl ?_
  refine g_iconst hE d_R_sayMethod_145 ki_0 ?_
  obtain ⟨x3, d5, e4, h⟩ := bdD_s h
  refine g_callV (av := [.inr (.inr (some o)), .inl 0]) (as := [.inl 0]) (stk := []) [] hE (c_R_say (xl X) (xG X) e4) ky_R_say ⟨Nat.le_of_ble_eq_true rfl, Nat.le_of_ble_eq_true rfl⟩ rfl kc_R k1 m_471 m_472 m_473 rfl d_R_sayMethod_146 rfl rfl ct_0 (Nat.zero_le _) (Nat.zero_le _) ?_
  refine gw.cs (c2 := 0) (s2 := 0) rfl rfl ?_
  refine g_aload_n (i := 0) hE d_R_sayMethod_149 rfl rfl ?_
  refine g_iload_n (i := 2) hE d_R_sayMethod_150 rfl rfl ?_
  obtain ⟨x6, d8, e7, h⟩ := bdD_s h
  refine g_callV (av := [.inr (.inr (some o)), .inl v2]) (as := [.inl v2]) (stk := []) [] hE (c_R_sayCode (xl X) (xG X) e7) ky_R_sayCode ⟨Nat.le_of_ble_eq_true rfl, Nat.le_of_ble_eq_true rfl⟩ rfl kc_R k1 m_484 m_485 m_486 rfl d_R_sayMethod_151 rfl rfl ct_0 (Nat.zero_le _) (Nat.zero_le _) ?_
  refine gw.cs (c2 := 0) (s2 := 0) rfl rfl ?_
  refine g_aload_n (i := 0) hE d_R_sayMethod_154 rfl rfl ?_
  refine g_iload_n (i := 1) hE d_R_sayMethod_155 rfl rfl ?_
  obtain ⟨x9, d11, e10, h⟩ := bdD_s h
  refine g_callV (av := [.inr (.inr (some o)), .inl v1]) (as := [.inl v1]) (stk := []) [] hE (c_R_catchFor (xl X) (xG X) e10) ky_R_catchFor ⟨Nat.le_of_ble_eq_true rfl, Nat.le_of_ble_eq_true rfl⟩ rfl kc_R k1 m_487 m_488 m_489 rfl d_R_sayMethod_156 rfl rfl ct_0 (Nat.zero_le _) (Nat.zero_le _) ?_
  refine gw.cs (c2 := 0) (s2 := 0) rfl rfl ?_
  refine g_aload_n (i := 0) hE d_R_sayMethod_159 rfl rfl ?_
  refine g_getI 37 hE kc_R k1 (Nat.le_of_ble_eq_true rfl) rfl m_414 d_R_sayMethod_160 (fun x12 e => ?_)
  replace h := lt_i e h; clear e
  refine g_if_le hE d_R_sayMethod_163 (fun c19 => ?_) (fun c19 => ?_)
  · replace h := if_t c19 h
    exact gw.less (lv' := [some (va_rf (some o)), none, none, none, some (.int x2), none]) (And.intro rfl (And.intro rfl trivial)) (w_R_sayMethod_J178 hE d11 x2 h)
  · replace h := if_f c19 h
    refine g_aload_n (i := 0) hE d_R_sayMethod_166 rfl rfl ?_
    refine g_bipush hE d_R_sayMethod_167 kb_17 ?_
    obtain ⟨x13, d15, e14, h⟩ := bdD_s h
    refine g_callV (av := [.inr (.inr (some o)), .inl 17]) (as := [.inl 17]) (stk := []) [] hE (c_R_say (xl X) (xG X) e14) ky_R_say ⟨Nat.le_of_ble_eq_true rfl, Nat.le_of_ble_eq_true rfl⟩ rfl kc_R k1 m_471 m_472 m_473 rfl d_R_sayMethod_169 rfl rfl ct_0 (Nat.zero_le _) (Nat.zero_le _) ?_
    refine gw.cs (c2 := 0) (s2 := 0) rfl rfl ?_
    refine g_aload_n (i := 0) hE d_R_sayMethod_172 rfl rfl ?_
    refine g_bipush hE d_R_sayMethod_173 kb_18 ?_
    obtain ⟨x16, d18, e17, h⟩ := bdD_s h
    refine g_callV (av := [.inr (.inr (some o)), .inl 18]) (as := [.inl 18]) (stk := []) [] hE (c_R_say (xl X) (xG X) e17) ky_R_say ⟨Nat.le_of_ble_eq_true rfl, Nat.le_of_ble_eq_true rfl⟩ rfl kc_R k1 m_471 m_472 m_473 rfl d_R_sayMethod_175 rfl rfl ct_0 (Nat.zero_le _) (Nat.zero_le _) ?_
    refine gw.cs (c2 := 0) (s2 := 0) rfl rfl ?_
    exact gw.less (lv' := [some (va_rf (some o)), none, none, none, some (.int x2), none]) (And.intro rfl (And.intro rfl trivial)) (w_R_sayMethod_J178 hE d18 x2 h)
def f_R_sayMethod_J70 (S : gS) (o : Nat) (d : gD) (v1 : Int32) (v2 : Int32) : Option (Unit × gD) :=
  kd S o 10 <|
  lt_ (sP S o 14) fun x2 =>
  nn x2 fun a3 =>
  kd S a3 50 <|
  gi v2 (sN S a3) <|
  lt_ (dI d a3 v2.toNatClampNeg) fun x6 =>
  bdD (f_R_entry S d o 1 x6 0) fun x7 d9 =>
  bdD (f_R_say S d9 o x7) fun _ d12 =>
  lt_ (sP S o 34) fun x13 =>
  nn x13 fun a14 =>
  kd S a14 50 <|
  gi v1 (sN S a14) <|
  lt_ (dI d12 a14 v1.toNatClampNeg) fun x17 =>
  bdD (f_R_say S d12 o x17) fun _ d20 =>
  itr (f_R_sayMethod_B99 S o (f_R_sayMethod_J138 S o)) (fun _ _ _ _ => none) fu d20 v1 v2 0
set_option maxRecDepth 100000 in
set_option maxHeartbeats 4000000 in
theorem w_R_sayMethod_J70 {X : GX} (hE : gE X b_R_sayMethod 6 "StandInMillModel" none "sayMethod" 4 93) {S : gS} {o : Nat} {r : Unit} {d' : gD} :
    ∀ (d : gD) (v1 : Int32) (v2 : Int32), f_R_sayMethod_J70 S o d v1 v2 = some (r, d') → gw X 0 0 (gQ X (none) S d' 0 0) S d 70 [some (va_rf (some o)), some (.int v1), some (.int v2), none, none, none] [] := by
  intro d v1 v2 h
  unfold f_R_sayMethod_J70 at h
  refine g_aload_n (i := 0) hE d_R_sayMethod_70 rfl rfl ?_
  refine g_aload_n (i := 0) hE d_R_sayMethod_71 rfl rfl ?_
  refine g_iconst hE d_R_sayMethod_72 ki_1 ?_
  refine g_aload_n (i := 0) hE d_R_sayMethod_73 rfl rfl ?_
  obtain ⟨k1, h⟩ := kd_s h
  refine g_getR 14 hE kc_R k1 (Nat.le_of_ble_eq_true rfl) rfl m_391 d_R_sayMethod_74 (fun x2 e => ?_)
  replace h := lt_i e h; clear e
  refine g_iload_n (i := 2) hE d_R_sayMethod_77 rfl rfl ?_
  obtain ⟨a3, rfl, h⟩ := nn_s h
  obtain ⟨k4, h⟩ := kd_s h
  obtain ⟨g5, h⟩ := gi_s h
  refine g_iald hE k4 g5 d_R_sayMethod_78 (fun x6 e => ?_)
  replace h := lt_i e h; clear e
  refine g_iconst hE d_R_sayMethod_79 ki_0 ?_
  obtain ⟨x7, d9, e8, h⟩ := bdD_s h
  refine g_callV (av := [.inr (.inr (some o)), .inl 1, .inl x6, .inl 0]) (as := [.inl 1, .inl x6, .inl 0]) (stk := [.int x7, va_rf (some o)]) [va_rf (some o)] hE (c_R_entry (xl X) (xG X) e8) ky_R_entry ⟨Nat.le_of_ble_eq_true rfl, Nat.le_of_ble_eq_true rfl⟩ rfl kc_R k1 m_478 m_479 m_480 rfl d_R_sayMethod_80 rfl rfl (Nat.le_trans (ct_r ct_n) (Nat.le_of_ble_eq_true rfl)) (Nat.zero_le _) (Nat.zero_le _) ?_
  refine gw.cs (c2 := 0) (s2 := 0) rfl rfl ?_
  obtain ⟨x10, d12, e11, h⟩ := bdD_s h
  refine g_callV (av := [.inr (.inr (some o)), .inl x7]) (as := [.inl x7]) (stk := []) [] hE (c_R_say (xl X) (xG X) e11) ky_R_say ⟨Nat.le_of_ble_eq_true rfl, Nat.le_of_ble_eq_true rfl⟩ rfl kc_R k1 m_471 m_472 m_473 rfl d_R_sayMethod_83 rfl rfl ct_0 (Nat.zero_le _) (Nat.zero_le _) ?_
  refine gw.cs (c2 := 0) (s2 := 0) rfl rfl ?_
  refine g_aload_n (i := 0) hE d_R_sayMethod_86 rfl rfl ?_
  refine g_aload_n (i := 0) hE d_R_sayMethod_87 rfl rfl ?_
  refine g_getR 34 hE kc_R k1 (Nat.le_of_ble_eq_true rfl) rfl m_411 d_R_sayMethod_88 (fun x13 e => ?_)
  replace h := lt_i e h; clear e
  refine g_iload_n (i := 1) hE d_R_sayMethod_91 rfl rfl ?_
  obtain ⟨a14, rfl, h⟩ := nn_s h
  obtain ⟨k15, h⟩ := kd_s h
  obtain ⟨g16, h⟩ := gi_s h
  refine g_iald hE k15 g16 d_R_sayMethod_92 (fun x17 e => ?_)
  replace h := lt_i e h; clear e
  obtain ⟨x18, d20, e19, h⟩ := bdD_s h
  refine g_callV (av := [.inr (.inr (some o)), .inl x17]) (as := [.inl x17]) (stk := []) [] hE (c_R_say (xl X) (xG X) e19) ky_R_say ⟨Nat.le_of_ble_eq_true rfl, Nat.le_of_ble_eq_true rfl⟩ rfl kc_R k1 m_471 m_472 m_473 rfl d_R_sayMethod_93 rfl rfl ct_0 (Nat.zero_le _) (Nat.zero_le _) ?_
  refine gw.cs (c2 := 0) (s2 := 0) rfl rfl ?_
  refine g_iconst hE d_R_sayMethod_96 ki_0 ?_
  refine g_istore (i := 4) (lv' := [some (va_rf (some o)), some (.int v1), some (.int v2), none, some (.int 0), none]) hE d_R_sayMethod_97 (Nat.le_of_ble_eq_true rfl) ⟨rfl, Nat.le_of_ble_eq_true rfl⟩ (lvp_n rfl) ?_
  exact gw.less (lv' := [some (va_rf (some o)), some (.int v1), some (.int v2), none, some (.int 0), none]) (And.intro rfl (And.intro rfl (And.intro rfl (And.intro rfl trivial)))) (w_R_sayMethod_L99 hE (w_R_sayMethod_J138 hE) fu d20 v1 v2 0 h)
set_option maxRecDepth 100000 in
def f_R_sayMethod (S : gS) (d : gD) (o : Nat) (v1 : Int32) : Option (Unit × gD) :=
  kd S o 10 <|
  lt_ (sP S o 32) fun x2 =>
  nn x2 fun a3 =>
  kd S a3 50 <|
  gi v1 (sN S a3) <|
  lt_ (dI d a3 v1.toNatClampNeg) fun x6 =>
  bd (f_R_takesCount S d o x6) fun x7 =>
  lt_ (sP S o 13) fun x9 =>
  nn x9 fun a10 =>
  kd S a10 50 <|
  gi x6 (sN S a10) <|
  lt_ (dI d a10 x6.toNatClampNeg) fun x13 =>
  bdD (f_R_entry S d o 3 x13 0) fun x14 d16 =>
  bdD (f_R_say S d16 o x14) fun _ d19 =>
  bdD (f_R_say S d19 o x7) fun _ d22 =>
  itr (f_R_sayMethod_B37 S o (f_R_sayMethod_J70 S o)) (fun _ _ _ _ _ => none) fu d22 v1 x6 x7 0
set_option maxRecDepth 100000 in
set_option maxHeartbeats 4000000 in
theorem c_R_sayMethod (l : Launch) (G : gG) {S : gS} {d : gD} {o : Nat} {v1 : Int32} {r : Unit} {d' : gD} (h : f_R_sayMethod S d o v1 = some (r, d')) : GM l G y_R_sayMethod b_R_sayMethod 6 none 4 93 0 0 [.inr (.inr (some o)), .inl v1] S d (none) S d' := by
  refine GM.of (by decide) (Nat.le_of_ble_eq_true rfl) ?_
  intro X hl0 hG0 hR0 hE0
  have hE : gE X b_R_sayMethod 6 "StandInMillModel" none "sayMethod" 4 93 := hE0
  unfold f_R_sayMethod at h
  refine gw.less (lv' := [some (va_rf (some o)), some (.int v1), none, none, none, none]) (And.intro rfl (And.intro rfl trivial)) ?_
  refine g_aload_n (i := 0) hE d_R_sayMethod_0 rfl rfl ?_
  obtain ⟨k1, h⟩ := kd_s h
  refine g_getR 32 hE kc_R k1 (Nat.le_of_ble_eq_true rfl) rfl m_409 d_R_sayMethod_1 (fun x2 e => ?_)
  replace h := lt_i e h; clear e
  refine g_iload_n (i := 1) hE d_R_sayMethod_4 rfl rfl ?_
  obtain ⟨a3, rfl, h⟩ := nn_s h
  obtain ⟨k4, h⟩ := kd_s h
  obtain ⟨g5, h⟩ := gi_s h
  refine g_iald hE k4 g5 d_R_sayMethod_5 (fun x6 e => ?_)
  replace h := lt_i e h; clear e
  refine g_istore_n (i := 2) (lv' := [some (va_rf (some o)), some (.int v1), some (.int x6), none, none, none]) hE d_R_sayMethod_6 rfl (Nat.le_of_ble_eq_true rfl) ⟨rfl, Nat.le_of_ble_eq_true rfl⟩ (lvp_i rfl) ?_
  refine g_aload_n (i := 0) hE d_R_sayMethod_7 rfl rfl ?_
  refine g_iload_n (i := 2) hE d_R_sayMethod_8 rfl rfl ?_
  obtain ⟨x7, e8, h⟩ := bd_s h
  refine g_callV (av := [.inr (.inr (some o)), .inl x6]) (as := [.inl x6]) (stk := [.int x7]) [] hE (c_R_takesCount (xl X) (xG X) e8) ky_R_takesCount ⟨Nat.le_of_ble_eq_true rfl, Nat.le_of_ble_eq_true rfl⟩ rfl kc_R k1 m_481 m_482 m_483 rfl d_R_sayMethod_9 rfl rfl ct_0 (Nat.zero_le _) (Nat.zero_le _) ?_
  refine gw.cs (c2 := 0) (s2 := 0) rfl rfl ?_
  refine g_istore_n (i := 3) (lv' := [some (va_rf (some o)), some (.int v1), some (.int x6), some (.int x7), none, none]) hE d_R_sayMethod_12 rfl (Nat.le_of_ble_eq_true rfl) ⟨rfl, Nat.le_of_ble_eq_true rfl⟩ (lvp_i rfl) ?_
  refine g_aload_n (i := 0) hE d_R_sayMethod_13 rfl rfl ?_
  refine g_aload_n (i := 0) hE d_R_sayMethod_14 rfl rfl ?_
  refine g_iconst hE d_R_sayMethod_15 ki_3 ?_
  refine g_aload_n (i := 0) hE d_R_sayMethod_16 rfl rfl ?_
  refine g_getR 13 hE kc_R k1 (Nat.le_of_ble_eq_true rfl) rfl m_390 d_R_sayMethod_17 (fun x9 e => ?_)
  replace h := lt_i e h; clear e
  refine g_iload_n (i := 2) hE d_R_sayMethod_20 rfl rfl ?_
  obtain ⟨a10, rfl, h⟩ := nn_s h
  obtain ⟨k11, h⟩ := kd_s h
  obtain ⟨g12, h⟩ := gi_s h
  refine g_iald hE k11 g12 d_R_sayMethod_21 (fun x13 e => ?_)
  replace h := lt_i e h; clear e
  refine g_iconst hE d_R_sayMethod_22 ki_0 ?_
  obtain ⟨x14, d16, e15, h⟩ := bdD_s h
  refine g_callV (av := [.inr (.inr (some o)), .inl 3, .inl x13, .inl 0]) (as := [.inl 3, .inl x13, .inl 0]) (stk := [.int x14, va_rf (some o)]) [va_rf (some o)] hE (c_R_entry (xl X) (xG X) e15) ky_R_entry ⟨Nat.le_of_ble_eq_true rfl, Nat.le_of_ble_eq_true rfl⟩ rfl kc_R k1 m_478 m_479 m_480 rfl d_R_sayMethod_23 rfl rfl (Nat.le_trans (ct_r ct_n) (Nat.le_of_ble_eq_true rfl)) (Nat.zero_le _) (Nat.zero_le _) ?_
  refine gw.cs (c2 := 0) (s2 := 0) rfl rfl ?_
  obtain ⟨x17, d19, e18, h⟩ := bdD_s h
  refine g_callV (av := [.inr (.inr (some o)), .inl x14]) (as := [.inl x14]) (stk := []) [] hE (c_R_say (xl X) (xG X) e18) ky_R_say ⟨Nat.le_of_ble_eq_true rfl, Nat.le_of_ble_eq_true rfl⟩ rfl kc_R k1 m_471 m_472 m_473 rfl d_R_sayMethod_26 rfl rfl ct_0 (Nat.zero_le _) (Nat.zero_le _) ?_
  refine gw.cs (c2 := 0) (s2 := 0) rfl rfl ?_
  refine g_aload_n (i := 0) hE d_R_sayMethod_29 rfl rfl ?_
  refine g_iload_n (i := 3) hE d_R_sayMethod_30 rfl rfl ?_
  obtain ⟨x20, d22, e21, h⟩ := bdD_s h
  refine g_callV (av := [.inr (.inr (some o)), .inl x7]) (as := [.inl x7]) (stk := []) [] hE (c_R_say (xl X) (xG X) e21) ky_R_say ⟨Nat.le_of_ble_eq_true rfl, Nat.le_of_ble_eq_true rfl⟩ rfl kc_R k1 m_471 m_472 m_473 rfl d_R_sayMethod_31 rfl rfl ct_0 (Nat.zero_le _) (Nat.zero_le _) ?_
  refine gw.cs (c2 := 0) (s2 := 0) rfl rfl ?_
  refine g_iconst hE d_R_sayMethod_34 ki_0 ?_
  refine g_istore (i := 4) (lv' := [some (va_rf (some o)), some (.int v1), some (.int x6), some (.int x7), some (.int 0), none]) hE d_R_sayMethod_35 (Nat.le_of_ble_eq_true rfl) ⟨rfl, Nat.le_of_ble_eq_true rfl⟩ (lvp_i rfl) ?_
  exact gw.less (lv' := [some (va_rf (some o)), some (.int v1), some (.int x6), some (.int x7), some (.int 0), none]) (And.intro rfl (And.intro rfl (And.intro rfl (And.intro rfl (And.intro rfl trivial))))) (w_R_sayMethod_L37 hE (w_R_sayMethod_J70 hE) fu d22 v1 x6 x7 0 h)
