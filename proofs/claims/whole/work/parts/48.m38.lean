theorem d_R_stand_0 : dc b_R_stand 0 (.aload_n 0) 1 1 := ⟨by decide +kernel, rfl⟩
theorem d_R_stand_1 : dc b_R_stand 1 (.iconst 0) 1 2 := ⟨by decide +kernel, rfl⟩
theorem d_R_stand_2 : dc b_R_stand 2 (.putfield 97) 3 5 := ⟨by decide +kernel, rfl⟩
theorem d_R_stand_5 : dc b_R_stand 5 (.aload_n 0) 1 6 := ⟨by decide +kernel, rfl⟩
theorem d_R_stand_6 : dc b_R_stand 6 (.iload_n 2) 1 7 := ⟨by decide +kernel, rfl⟩
theorem d_R_stand_7 : dc b_R_stand 7 (.invokevirtual 239) 3 10 := ⟨by decide +kernel, rfl⟩
theorem d_R_stand_10 : dc b_R_stand 10 (.istore_n 3) 1 11 := ⟨by decide +kernel, rfl⟩
theorem d_R_stand_11 : dc b_R_stand 11 (.aload_n 0) 1 12 := ⟨by decide +kernel, rfl⟩
theorem d_R_stand_12 : dc b_R_stand 12 (.iload_n 1) 1 13 := ⟨by decide +kernel, rfl⟩
theorem d_R_stand_13 : db b_R_stand 13 (.ifCond .lt 15) 15 28 16 := ⟨by decide +kernel, by decide, rfl⟩
theorem d_R_stand_16 : dc b_R_stand 16 (.iload_n 1) 1 17 := ⟨by decide +kernel, rfl⟩
theorem d_R_stand_17 : dc b_R_stand 17 (.aload_n 0) 1 18 := ⟨by decide +kernel, rfl⟩
theorem d_R_stand_18 : dc b_R_stand 18 (.getfield 13) 3 21 := ⟨by decide +kernel, rfl⟩
theorem d_R_stand_21 : db b_R_stand 21 (.if_icmp .ge 7) 7 28 24 := ⟨by decide +kernel, by decide, rfl⟩
theorem d_R_stand_24 : dc b_R_stand 24 (.iload_n 3) 1 25 := ⟨by decide +kernel, rfl⟩
theorem d_R_stand_25 : db b_R_stand 25 (.ifCond .ne 7) 7 32 28 := ⟨by decide +kernel, by decide, rfl⟩
theorem d_R_stand_28 : dc b_R_stand 28 (.iconst 1) 1 29 := ⟨by decide +kernel, rfl⟩
theorem d_R_stand_29 : db b_R_stand 29 (.goto 4) 4 33 32 := ⟨by decide +kernel, by decide, rfl⟩
theorem d_R_stand_32 : dc b_R_stand 32 (.iconst 0) 1 33 := ⟨by decide +kernel, rfl⟩
theorem d_R_stand_33 : dc b_R_stand 33 (.putfield 7) 3 36 := ⟨by decide +kernel, rfl⟩
theorem d_R_stand_36 : dc b_R_stand 36 (.aload_n 0) 1 37 := ⟨by decide +kernel, rfl⟩
theorem d_R_stand_37 : dc b_R_stand 37 (.getfield 7) 3 40 := ⟨by decide +kernel, rfl⟩
theorem d_R_stand_40 : db b_R_stand 40 (.ifCond .eq 5) 5 45 43 := ⟨by decide +kernel, by decide, rfl⟩
theorem d_R_stand_43 : dc b_R_stand 43 (.iconst 0) 1 44 := ⟨by decide +kernel, rfl⟩
theorem d_R_stand_44 : dc b_R_stand 44 (.ireturn) 1 45 := ⟨by decide +kernel, rfl⟩
theorem d_R_stand_45 : dc b_R_stand 45 (.iconst 0) 1 46 := ⟨by decide +kernel, rfl⟩
theorem d_R_stand_46 : dc b_R_stand 46 (.istore 4) 2 48 := ⟨by decide +kernel, rfl⟩
theorem d_R_stand_48 : dc b_R_stand 48 (.iload 4) 2 50 := ⟨by decide +kernel, rfl⟩
theorem d_R_stand_50 : dc b_R_stand 50 (.aload_n 0) 1 51 := ⟨by decide +kernel, rfl⟩
theorem d_R_stand_51 : dc b_R_stand 51 (.getfield 76) 3 54 := ⟨by decide +kernel, rfl⟩
theorem d_R_stand_54 : db b_R_stand 54 (.if_icmp .ge 34) 34 88 57 := ⟨by decide +kernel, by decide, rfl⟩
theorem d_R_stand_57 : dc b_R_stand 57 (.aload_n 0) 1 58 := ⟨by decide +kernel, rfl⟩
theorem d_R_stand_58 : dc b_R_stand 58 (.getfield 79) 3 61 := ⟨by decide +kernel, rfl⟩
theorem d_R_stand_61 : dc b_R_stand 61 (.iload 4) 2 63 := ⟨by decide +kernel, rfl⟩
theorem d_R_stand_63 : dc b_R_stand 63 (.iaload) 1 64 := ⟨by decide +kernel, rfl⟩
theorem d_R_stand_64 : dc b_R_stand 64 (.iload_n 1) 1 65 := ⟨by decide +kernel, rfl⟩
theorem d_R_stand_65 : db b_R_stand 65 (.if_icmp .ne 17) 17 82 68 := ⟨by decide +kernel, by decide, rfl⟩
theorem d_R_stand_68 : dc b_R_stand 68 (.aload_n 0) 1 69 := ⟨by decide +kernel, rfl⟩
theorem d_R_stand_69 : dc b_R_stand 69 (.getfield 82) 3 72 := ⟨by decide +kernel, rfl⟩
theorem d_R_stand_72 : dc b_R_stand 72 (.iload 4) 2 74 := ⟨by decide +kernel, rfl⟩
theorem d_R_stand_74 : dc b_R_stand 74 (.iaload) 1 75 := ⟨by decide +kernel, rfl⟩
theorem d_R_stand_75 : dc b_R_stand 75 (.iload_n 3) 1 76 := ⟨by decide +kernel, rfl⟩
theorem d_R_stand_76 : db b_R_stand 76 (.if_icmp .ne 6) 6 82 79 := ⟨by decide +kernel, by decide, rfl⟩
theorem d_R_stand_79 : dc b_R_stand 79 (.iload 4) 2 81 := ⟨by decide +kernel, rfl⟩
theorem d_R_stand_81 : dc b_R_stand 81 (.ireturn) 1 82 := ⟨by decide +kernel, rfl⟩
theorem d_R_stand_82 : dc b_R_stand 82 (.iinc 4 1) 3 85 := ⟨by decide +kernel, rfl⟩
theorem d_R_stand_85 : db b_R_stand 85 (.goto (-37)) (-37) 48 88 := ⟨by decide +kernel, by decide, rfl⟩
theorem d_R_stand_88 : dc b_R_stand 88 (.aload_n 0) 1 89 := ⟨by decide +kernel, rfl⟩
theorem d_R_stand_89 : dc b_R_stand 89 (.aload_n 0) 1 90 := ⟨by decide +kernel, rfl⟩
theorem d_R_stand_90 : dc b_R_stand 90 (.iload_n 1) 1 91 := ⟨by decide +kernel, rfl⟩
theorem d_R_stand_91 : dc b_R_stand 91 (.iload_n 3) 1 92 := ⟨by decide +kernel, rfl⟩
theorem d_R_stand_92 : dc b_R_stand 92 (.invokevirtual 242) 3 95 := ⟨by decide +kernel, rfl⟩
theorem d_R_stand_95 : dc b_R_stand 95 (.putfield 97) 3 98 := ⟨by decide +kernel, rfl⟩
theorem d_R_stand_98 : dc b_R_stand 98 (.aload_n 0) 1 99 := ⟨by decide +kernel, rfl⟩
theorem d_R_stand_99 : dc b_R_stand 99 (.getfield 97) 3 102 := ⟨by decide +kernel, rfl⟩
theorem d_R_stand_102 : db b_R_stand 102 (.ifCond .eq 10) 10 112 105 := ⟨by decide +kernel, by decide, rfl⟩
theorem d_R_stand_105 : dc b_R_stand 105 (.aload_n 0) 1 106 := ⟨by decide +kernel, rfl⟩
theorem d_R_stand_106 : dc b_R_stand 106 (.iconst 2) 1 107 := ⟨by decide +kernel, rfl⟩
theorem d_R_stand_107 : dc b_R_stand 107 (.putfield 7) 3 110 := ⟨by decide +kernel, rfl⟩
theorem d_R_stand_110 : dc b_R_stand 110 (.iconst 0) 1 111 := ⟨by decide +kernel, rfl⟩
theorem d_R_stand_111 : dc b_R_stand 111 (.ireturn) 1 112 := ⟨by decide +kernel, rfl⟩
theorem d_R_stand_112 : dc b_R_stand 112 (.iconst 4) 1 113 := ⟨by decide +kernel, rfl⟩
theorem d_R_stand_113 : dc b_R_stand 113 (.istore 4) 2 115 := ⟨by decide +kernel, rfl⟩
theorem d_R_stand_115 : dc b_R_stand 115 (.iconst 0) 1 116 := ⟨by decide +kernel, rfl⟩
theorem d_R_stand_116 : dc b_R_stand 116 (.istore 5) 2 118 := ⟨by decide +kernel, rfl⟩
theorem d_R_stand_118 : dc b_R_stand 118 (.iload 5) 2 120 := ⟨by decide +kernel, rfl⟩
theorem d_R_stand_120 : dc b_R_stand 120 (.bipush 32) 2 122 := ⟨by decide +kernel, rfl⟩
theorem d_R_stand_122 : db b_R_stand 122 (.if_icmp .ge 52) 52 174 125 := ⟨by decide +kernel, by decide, rfl⟩
theorem d_R_stand_125 : dc b_R_stand 125 (.iload_n 3) 1 126 := ⟨by decide +kernel, rfl⟩
theorem d_R_stand_126 : dc b_R_stand 126 (.iload 5) 2 128 := ⟨by decide +kernel, rfl⟩
theorem d_R_stand_128 : dc b_R_stand 128 (.ishr) 1 129 := ⟨by decide +kernel, rfl⟩
theorem d_R_stand_129 : dc b_R_stand 129 (.sipush 255) 3 132 := ⟨by decide +kernel, rfl⟩
theorem d_R_stand_132 : dc b_R_stand 132 (.iand) 1 133 := ⟨by decide +kernel, rfl⟩
theorem d_R_stand_133 : db b_R_stand 133 (.ifCond .eq 41) 41 174 136 := ⟨by decide +kernel, by decide, rfl⟩
theorem d_R_stand_136 : dc b_R_stand 136 (.iload_n 3) 1 137 := ⟨by decide +kernel, rfl⟩
theorem d_R_stand_137 : dc b_R_stand 137 (.iload 5) 2 139 := ⟨by decide +kernel, rfl⟩
theorem d_R_stand_139 : dc b_R_stand 139 (.ishr) 1 140 := ⟨by decide +kernel, rfl⟩
theorem d_R_stand_140 : dc b_R_stand 140 (.sipush 255) 3 143 := ⟨by decide +kernel, rfl⟩
theorem d_R_stand_143 : dc b_R_stand 143 (.iand) 1 144 := ⟨by decide +kernel, rfl⟩
theorem d_R_stand_144 : dc b_R_stand 144 (.bipush 24) 2 146 := ⟨by decide +kernel, rfl⟩
theorem d_R_stand_146 : dc b_R_stand 146 (.isub) 1 147 := ⟨by decide +kernel, rfl⟩
theorem d_R_stand_147 : dc b_R_stand 147 (.istore 6) 2 149 := ⟨by decide +kernel, rfl⟩
theorem d_R_stand_149 : dc b_R_stand 149 (.aload_n 0) 1 150 := ⟨by decide +kernel, rfl⟩
theorem d_R_stand_150 : dc b_R_stand 150 (.getfield 38) 3 153 := ⟨by decide +kernel, rfl⟩
theorem d_R_stand_153 : dc b_R_stand 153 (.iload 6) 2 155 := ⟨by decide +kernel, rfl⟩
theorem d_R_stand_155 : dc b_R_stand 155 (.baload) 1 156 := ⟨by decide +kernel, rfl⟩
theorem d_R_stand_156 : db b_R_stand 156 (.ifCond .ne 12) 12 168 159 := ⟨by decide +kernel, by decide, rfl⟩
theorem d_R_stand_159 : dc b_R_stand 159 (.aload_n 0) 1 160 := ⟨by decide +kernel, rfl⟩
theorem d_R_stand_160 : dc b_R_stand 160 (.getfield 35) 3 163 := ⟨by decide +kernel, rfl⟩
theorem d_R_stand_163 : dc b_R_stand 163 (.iload 6) 2 165 := ⟨by decide +kernel, rfl⟩
theorem d_R_stand_165 : dc b_R_stand 165 (.iaload) 1 166 := ⟨by decide +kernel, rfl⟩
theorem d_R_stand_166 : dc b_R_stand 166 (.istore 4) 2 168 := ⟨by decide +kernel, rfl⟩
theorem d_R_stand_168 : dc b_R_stand 168 (.iinc 5 8) 3 171 := ⟨by decide +kernel, rfl⟩
theorem d_R_stand_171 : db b_R_stand 171 (.goto (-53)) (-53) 118 174 := ⟨by decide +kernel, by decide, rfl⟩
theorem d_R_stand_174 : dc b_R_stand 174 (.iconst 0) 1 175 := ⟨by decide +kernel, rfl⟩
theorem d_R_stand_175 : dc b_R_stand 175 (.istore 5) 2 177 := ⟨by decide +kernel, rfl⟩
theorem d_R_stand_177 : dc b_R_stand 177 (.iconst 0) 1 178 := ⟨by decide +kernel, rfl⟩
theorem d_R_stand_178 : dc b_R_stand 178 (.istore 6) 2 180 := ⟨by decide +kernel, rfl⟩
theorem d_R_stand_180 : dc b_R_stand 180 (.iload 6) 2 182 := ⟨by decide +kernel, rfl⟩
theorem d_R_stand_182 : dc b_R_stand 182 (.aload_n 0) 1 183 := ⟨by decide +kernel, rfl⟩
theorem d_R_stand_183 : dc b_R_stand 183 (.getfield 76) 3 186 := ⟨by decide +kernel, rfl⟩
theorem d_R_stand_186 : db b_R_stand 186 (.if_icmp .ge 24) 24 210 189 := ⟨by decide +kernel, by decide, rfl⟩
theorem d_R_stand_189 : dc b_R_stand 189 (.aload_n 0) 1 190 := ⟨by decide +kernel, rfl⟩
theorem d_R_stand_190 : dc b_R_stand 190 (.getfield 85) 3 193 := ⟨by decide +kernel, rfl⟩
theorem d_R_stand_193 : dc b_R_stand 193 (.iload 6) 2 195 := ⟨by decide +kernel, rfl⟩
theorem d_R_stand_195 : dc b_R_stand 195 (.iaload) 1 196 := ⟨by decide +kernel, rfl⟩
theorem d_R_stand_196 : dc b_R_stand 196 (.iload 4) 2 198 := ⟨by decide +kernel, rfl⟩
theorem d_R_stand_198 : db b_R_stand 198 (.if_icmp .ne 6) 6 204 201 := ⟨by decide +kernel, by decide, rfl⟩
theorem d_R_stand_201 : dc b_R_stand 201 (.iinc 5 1) 3 204 := ⟨by decide +kernel, rfl⟩
theorem d_R_stand_204 : dc b_R_stand 204 (.iinc 6 1) 3 207 := ⟨by decide +kernel, rfl⟩
theorem d_R_stand_207 : db b_R_stand 207 (.goto (-27)) (-27) 180 210 := ⟨by decide +kernel, by decide, rfl⟩
theorem d_R_stand_210 : dc b_R_stand 210 (.aload_n 0) 1 211 := ⟨by decide +kernel, rfl⟩
theorem d_R_stand_211 : dc b_R_stand 211 (.getfield 79) 3 214 := ⟨by decide +kernel, rfl⟩
theorem d_R_stand_214 : dc b_R_stand 214 (.aload_n 0) 1 215 := ⟨by decide +kernel, rfl⟩
theorem d_R_stand_215 : dc b_R_stand 215 (.getfield 76) 3 218 := ⟨by decide +kernel, rfl⟩
theorem d_R_stand_218 : dc b_R_stand 218 (.iload_n 1) 1 219 := ⟨by decide +kernel, rfl⟩
theorem d_R_stand_219 : dc b_R_stand 219 (.iastore) 1 220 := ⟨by decide +kernel, rfl⟩
theorem d_R_stand_220 : dc b_R_stand 220 (.aload_n 0) 1 221 := ⟨by decide +kernel, rfl⟩
theorem d_R_stand_221 : dc b_R_stand 221 (.getfield 82) 3 224 := ⟨by decide +kernel, rfl⟩
theorem d_R_stand_224 : dc b_R_stand 224 (.aload_n 0) 1 225 := ⟨by decide +kernel, rfl⟩
theorem d_R_stand_225 : dc b_R_stand 225 (.getfield 76) 3 228 := ⟨by decide +kernel, rfl⟩
theorem d_R_stand_228 : dc b_R_stand 228 (.iload_n 3) 1 229 := ⟨by decide +kernel, rfl⟩
theorem d_R_stand_229 : dc b_R_stand 229 (.iastore) 1 230 := ⟨by decide +kernel, rfl⟩
theorem d_R_stand_230 : dc b_R_stand 230 (.aload_n 0) 1 231 := ⟨by decide +kernel, rfl⟩
theorem d_R_stand_231 : dc b_R_stand 231 (.getfield 85) 3 234 := ⟨by decide +kernel, rfl⟩
theorem d_R_stand_234 : dc b_R_stand 234 (.aload_n 0) 1 235 := ⟨by decide +kernel, rfl⟩
theorem d_R_stand_235 : dc b_R_stand 235 (.getfield 76) 3 238 := ⟨by decide +kernel, rfl⟩
theorem d_R_stand_238 : dc b_R_stand 238 (.iload 4) 2 240 := ⟨by decide +kernel, rfl⟩
theorem d_R_stand_240 : dc b_R_stand 240 (.iastore) 1 241 := ⟨by decide +kernel, rfl⟩
theorem d_R_stand_241 : dc b_R_stand 241 (.aload_n 0) 1 242 := ⟨by decide +kernel, rfl⟩
theorem d_R_stand_242 : dc b_R_stand 242 (.getfield 88) 3 245 := ⟨by decide +kernel, rfl⟩
theorem d_R_stand_245 : dc b_R_stand 245 (.aload_n 0) 1 246 := ⟨by decide +kernel, rfl⟩
theorem d_R_stand_246 : dc b_R_stand 246 (.getfield 76) 3 249 := ⟨by decide +kernel, rfl⟩
theorem d_R_stand_249 : dc b_R_stand 249 (.iload 5) 2 251 := ⟨by decide +kernel, rfl⟩
theorem d_R_stand_251 : dc b_R_stand 251 (.iastore) 1 252 := ⟨by decide +kernel, rfl⟩
theorem d_R_stand_252 : dc b_R_stand 252 (.aload_n 0) 1 253 := ⟨by decide +kernel, rfl⟩
theorem d_R_stand_253 : dc b_R_stand 253 (.dup) 1 254 := ⟨by decide +kernel, rfl⟩
theorem d_R_stand_254 : dc b_R_stand 254 (.getfield 76) 3 257 := ⟨by decide +kernel, rfl⟩
theorem d_R_stand_257 : dc b_R_stand 257 (.iconst 1) 1 258 := ⟨by decide +kernel, rfl⟩
theorem d_R_stand_258 : dc b_R_stand 258 (.iadd) 1 259 := ⟨by decide +kernel, rfl⟩
theorem d_R_stand_259 : dc b_R_stand 259 (.putfield 76) 3 262 := ⟨by decide +kernel, rfl⟩
theorem d_R_stand_262 : dc b_R_stand 262 (.aload_n 0) 1 263 := ⟨by decide +kernel, rfl⟩
theorem d_R_stand_263 : dc b_R_stand 263 (.getfield 76) 3 266 := ⟨by decide +kernel, rfl⟩
theorem d_R_stand_266 : dc b_R_stand 266 (.iconst 1) 1 267 := ⟨by decide +kernel, rfl⟩
theorem d_R_stand_267 : dc b_R_stand 267 (.isub) 1 268 := ⟨by decide +kernel, rfl⟩
theorem d_R_stand_268 : dc b_R_stand 268 (.ireturn) 1 269 := ⟨by decide +kernel, rfl⟩
def f_R_stand_J82 (S : gS) (o : Nat) (kx88 : gD → Int32 → Int32 → Option (Int32 × gD)) (kb : gD → Int32 → Int32 → Int32 → Option (Int32 × gD)) (d : gD) (v1 : Int32) (v3 : Int32) (v4 : Int32) : Option (Int32 × gD) :=
  kb d v1 v3 (v4 + 1)
set_option maxRecDepth 100000 in
set_option maxHeartbeats 4000000 in
theorem w_R_stand_J82 {X : GX} (hE : gE X b_R_stand 7 "StandInMillModel" (some (.int)) "stand" 7 173) {S : gS} {o : Nat} {r : Int32} {d' : gD} {kb : gD → Int32 → Int32 → Int32 → Option (Int32 × gD)} {kx88 : gD → Int32 → Int32 → Option (Int32 × gD)} (hkb : ∀ (d : gD) (v1 : Int32) (v3 : Int32) (v4 : Int32), kb d v1 v3 v4 = some (r, d') → gw X 0 0 (gQ X (some (.int r)) S d' 0 0) S d 48 [some (va_rf (some o)), some (.int v1), none, some (.int v3), some (.int v4), none, none] []) (hkx88 : ∀ (d : gD) (v1 : Int32) (v3 : Int32), kx88 d v1 v3 = some (r, d') → gw X 0 0 (gQ X (some (.int r)) S d' 0 0) S d 88 [some (va_rf (some o)), some (.int v1), none, some (.int v3), none, none, none] []) :
    ∀ (d : gD) (v1 : Int32) (v3 : Int32) (v4 : Int32), f_R_stand_J82 S o kx88 kb d v1 v3 v4 = some (r, d') → gw X 0 0 (gQ X (some (.int r)) S d' 0 0) S d 82 [some (va_rf (some o)), some (.int v1), none, some (.int v3), some (.int v4), none, none] [] := by
  intro d v1 v3 v4 h
  unfold f_R_stand_J82 at h
  refine g_iinc (i := 4) (lv' := [some (va_rf (some o)), some (.int v1), none, some (.int v3), some (.int (v4 + 1)), none, none]) hE d_R_stand_82 ki_1 rfl (Nat.le_of_ble_eq_true rfl) ⟨rfl, Nat.le_of_ble_eq_true rfl⟩ (lvp_i rfl) ?_
  refine g_goto hE d_R_stand_85 ?_
  exact gw.less (lv' := [some (va_rf (some o)), some (.int v1), none, some (.int v3), some (.int (v4 + 1)), none, none]) (And.intro rfl (And.intro rfl (And.intro rfl (And.intro rfl trivial)))) (hkb d v1 v3 (v4 + 1) h)
def f_R_stand_B48 (S : gS) (o : Nat) (kx88 : gD → Int32 → Int32 → Option (Int32 × gD)) (kb : gD → Int32 → Int32 → Int32 → Option (Int32 × gD)) (d : gD) (v1 : Int32) (v3 : Int32) (v4 : Int32) : Option (Int32 × gD) :=
  kd S o 10 <|
  lt_ (dI d o 21) fun x2 =>
  if x2 ≤ v4 then (
    kx88 d v1 v3)
  else (
    lt_ (sP S o 22) fun x3 =>
    nn x3 fun a4 =>
    kd S a4 50 <|
    gi v4 (sN S a4) <|
    lt_ (dI d a4 v4.toNatClampNeg) fun x7 =>
    if x7 = v1 then (
      lt_ (sP S o 23) fun x8 =>
      nn x8 fun a9 =>
      kd S a9 50 <|
      gi v4 (sN S a9) <|
      lt_ (dI d a9 v4.toNatClampNeg) fun x12 =>
      if x12 = v3 then (
        some (v4, d))
      else (
        f_R_stand_J82 S o kx88 kb d v1 v3 v4))
    else (
      f_R_stand_J82 S o kx88 kb d v1 v3 v4))
set_option maxRecDepth 100000 in
set_option maxHeartbeats 4000000 in
theorem w_R_stand_B48 {X : GX} (hE : gE X b_R_stand 7 "StandInMillModel" (some (.int)) "stand" 7 173) {S : gS} {o : Nat} {r : Int32} {d' : gD} {kb : gD → Int32 → Int32 → Int32 → Option (Int32 × gD)} {kx88 : gD → Int32 → Int32 → Option (Int32 × gD)} (hkb : ∀ (d : gD) (v1 : Int32) (v3 : Int32) (v4 : Int32), kb d v1 v3 v4 = some (r, d') → gw X 0 0 (gQ X (some (.int r)) S d' 0 0) S d 48 [some (va_rf (some o)), some (.int v1), none, some (.int v3), some (.int v4), none, none] []) (hkx88 : ∀ (d : gD) (v1 : Int32) (v3 : Int32), kx88 d v1 v3 = some (r, d') → gw X 0 0 (gQ X (some (.int r)) S d' 0 0) S d 88 [some (va_rf (some o)), some (.int v1), none, some (.int v3), none, none, none] []) :
    ∀ (d : gD) (v1 : Int32) (v3 : Int32) (v4 : Int32), f_R_stand_B48 S o kx88 kb d v1 v3 v4 = some (r, d') → gw X 0 0 (gQ X (some (.int r)) S d' 0 0) S d 48 [some (va_rf (some o)), some (.int v1), none, some (.int v3), some (.int v4), none, none] [] := by
  intro d v1 v3 v4 h
  unfold f_R_stand_B48 at h
  refine g_iload (i := 4) hE d_R_stand_48 rfl ?_
  refine g_aload_n (i := 0) hE d_R_stand_50 rfl rfl ?_
  obtain ⟨k1, h⟩ := kd_s h
  refine g_getI 21 hE kc_R k1 (Nat.le_of_ble_eq_true rfl) rfl m_398 d_R_stand_51 (fun x2 e => ?_)
  replace h := lt_i e h; clear e
  refine g_icmp_ge hE d_R_stand_54 (fun c15 => ?_) (fun c15 => ?_)
  · replace h := if_t c15 h
    exact gw.less (lv' := [some (va_rf (some o)), some (.int v1), none, some (.int v3), none, none, none]) (And.intro rfl (And.intro rfl (And.intro rfl trivial))) (hkx88 d v1 v3 h)
  · replace h := if_f c15 h
    refine g_aload_n (i := 0) hE d_R_stand_57 rfl rfl ?_
    refine g_getR 22 hE kc_R k1 (Nat.le_of_ble_eq_true rfl) rfl m_399 d_R_stand_58 (fun x3 e => ?_)
    replace h := lt_i e h; clear e
    refine g_iload (i := 4) hE d_R_stand_61 rfl ?_
    obtain ⟨a4, rfl, h⟩ := nn_s h
    obtain ⟨k5, h⟩ := kd_s h
    obtain ⟨g6, h⟩ := gi_s h
    refine g_iald hE k5 g6 d_R_stand_63 (fun x7 e => ?_)
    replace h := lt_i e h; clear e
    refine g_iload_n (i := 1) hE d_R_stand_64 rfl rfl ?_
    refine g_icmp_ne hE d_R_stand_65 (fun c14 => ?_) (fun c14 => ?_)
    · replace h := if_f c14 h
      exact gw.less (lv' := [some (va_rf (some o)), some (.int v1), none, some (.int v3), some (.int v4), none, none]) (And.intro rfl (And.intro rfl (And.intro rfl (And.intro rfl trivial)))) (w_R_stand_J82 hE hkb hkx88 d v1 v3 v4 h)
    · replace h := if_t c14 h
      refine g_aload_n (i := 0) hE d_R_stand_68 rfl rfl ?_
      refine g_getR 23 hE kc_R k1 (Nat.le_of_ble_eq_true rfl) rfl m_400 d_R_stand_69 (fun x8 e => ?_)
      replace h := lt_i e h; clear e
      refine g_iload (i := 4) hE d_R_stand_72 rfl ?_
      obtain ⟨a9, rfl, h⟩ := nn_s h
      obtain ⟨k10, h⟩ := kd_s h
      obtain ⟨g11, h⟩ := gi_s h
      refine g_iald hE k10 g11 d_R_stand_74 (fun x12 e => ?_)
      replace h := lt_i e h; clear e
      refine g_iload_n (i := 3) hE d_R_stand_75 rfl rfl ?_
      refine g_icmp_ne hE d_R_stand_76 (fun c13 => ?_) (fun c13 => ?_)
      · replace h := if_f c13 h
        exact gw.less (lv' := [some (va_rf (some o)), some (.int v1), none, some (.int v3), some (.int v4), none, none]) (And.intro rfl (And.intro rfl (And.intro rfl (And.intro rfl trivial)))) (w_R_stand_J82 hE hkb hkx88 d v1 v3 v4 h)
      · replace h := if_t c13 h
        refine g_iload (i := 4) hE d_R_stand_79 rfl ?_
        cases h
        exact g_iret hE d_R_stand_81 rfl rfl
theorem w_R_stand_L48 {X : GX} (hE : gE X b_R_stand 7 "StandInMillModel" (some (.int)) "stand" 7 173) {S : gS} {o : Nat} {r : Int32} {d' : gD} {kx88 : gD → Int32 → Int32 → Option (Int32 × gD)} (hkx88 : ∀ (d : gD) (v1 : Int32) (v3 : Int32), kx88 d v1 v3 = some (r, d') → gw X 0 0 (gQ X (some (.int r)) S d' 0 0) S d 88 [some (va_rf (some o)), some (.int v1), none, some (.int v3), none, none, none] []) : ∀ (n : Nat) (d : gD) (v1 : Int32) (v3 : Int32) (v4 : Int32), itr (f_R_stand_B48 S o kx88) (fun _ _ _ _ => none) n d v1 v3 v4 = some (r, d') → gw X 0 0 (gQ X (some (.int r)) S d' 0 0) S d 48 [some (va_rf (some o)), some (.int v1), none, some (.int v3), some (.int v4), none, none] [] := by
  intro n
  induction n with
  | zero => intro d v1 v3 v4 h; cases h
  | succ n ih => exact w_R_stand_B48 hE ih hkx88
def f_R_stand_J168 (S : gS) (o : Nat) (kx174 : gD → Int32 → Int32 → Int32 → Option (Int32 × gD)) (kb : gD → Int32 → Int32 → Int32 → Int32 → Option (Int32 × gD)) (d : gD) (v1 : Int32) (v3 : Int32) (v4 : Int32) (v5 : Int32) : Option (Int32 × gD) :=
  kb d v1 v3 v4 (v5 + 8)
set_option maxRecDepth 100000 in
set_option maxHeartbeats 4000000 in
theorem w_R_stand_J168 {X : GX} (hE : gE X b_R_stand 7 "StandInMillModel" (some (.int)) "stand" 7 173) {S : gS} {o : Nat} {r : Int32} {d' : gD} {kb : gD → Int32 → Int32 → Int32 → Int32 → Option (Int32 × gD)} {kx174 : gD → Int32 → Int32 → Int32 → Option (Int32 × gD)} (hkb : ∀ (d : gD) (v1 : Int32) (v3 : Int32) (v4 : Int32) (v5 : Int32), kb d v1 v3 v4 v5 = some (r, d') → gw X 0 0 (gQ X (some (.int r)) S d' 0 0) S d 118 [some (va_rf (some o)), some (.int v1), none, some (.int v3), some (.int v4), some (.int v5), none] []) (hkx174 : ∀ (d : gD) (v1 : Int32) (v3 : Int32) (v4 : Int32), kx174 d v1 v3 v4 = some (r, d') → gw X 0 0 (gQ X (some (.int r)) S d' 0 0) S d 174 [some (va_rf (some o)), some (.int v1), none, some (.int v3), some (.int v4), none, none] []) :
    ∀ (d : gD) (v1 : Int32) (v3 : Int32) (v4 : Int32) (v5 : Int32), f_R_stand_J168 S o kx174 kb d v1 v3 v4 v5 = some (r, d') → gw X 0 0 (gQ X (some (.int r)) S d' 0 0) S d 168 [some (va_rf (some o)), some (.int v1), none, some (.int v3), some (.int v4), some (.int v5), none] [] := by
  intro d v1 v3 v4 v5 h
  unfold f_R_stand_J168 at h
  refine g_iinc (i := 5) (lv' := [some (va_rf (some o)), some (.int v1), none, some (.int v3), some (.int v4), some (.int (v5 + 8)), none]) hE d_R_stand_168 ki_8 rfl (Nat.le_of_ble_eq_true rfl) ⟨rfl, Nat.le_of_ble_eq_true rfl⟩ (lvp_i rfl) ?_
  refine g_goto hE d_R_stand_171 ?_
  exact gw.less (lv' := [some (va_rf (some o)), some (.int v1), none, some (.int v3), some (.int v4), some (.int (v5 + 8)), none]) (And.intro rfl (And.intro rfl (And.intro rfl (And.intro rfl (And.intro rfl trivial))))) (hkb d v1 v3 v4 (v5 + 8) h)
def f_R_stand_B118 (S : gS) (o : Nat) (kx174 : gD → Int32 → Int32 → Int32 → Option (Int32 × gD)) (kb : gD → Int32 → Int32 → Int32 → Int32 → Option (Int32 × gD)) (d : gD) (v1 : Int32) (v3 : Int32) (v4 : Int32) (v5 : Int32) : Option (Int32 × gD) :=
  if 32 ≤ v5 then (
    kx174 d v1 v3 v4)
  else (
    if ((v3 >>> (v5 &&& 31)) &&& 255) = 0 then (
      kx174 d v1 v3 v4)
    else (
      kd S o 10 <|
      lt_ (sP S o 9) fun x2 =>
      nn x2 fun a3 =>
      kd S a3 53 <|
      gi (((v3 >>> (v5 &&& 31)) &&& 255) - 24) (sN S a3) <|
      lt_ (dI d a3 (((v3 >>> (v5 &&& 31)) &&& 255) - 24 : Int32).toNatClampNeg) fun x6 =>
      if x6 = 0 then (
        lt_ (sP S o 8) fun x7 =>
        nn x7 fun a8 =>
        kd S a8 50 <|
        gi (((v3 >>> (v5 &&& 31)) &&& 255) - 24) (sN S a8) <|
        lt_ (dI d a8 (((v3 >>> (v5 &&& 31)) &&& 255) - 24 : Int32).toNatClampNeg) fun x11 =>
        f_R_stand_J168 S o kx174 kb d v1 v3 x11 v5)
      else (
        f_R_stand_J168 S o kx174 kb d v1 v3 v4 v5)))
set_option maxRecDepth 100000 in
set_option maxHeartbeats 4000000 in
theorem w_R_stand_B118 {X : GX} (hE : gE X b_R_stand 7 "StandInMillModel" (some (.int)) "stand" 7 173) {S : gS} {o : Nat} {r : Int32} {d' : gD} {kb : gD → Int32 → Int32 → Int32 → Int32 → Option (Int32 × gD)} {kx174 : gD → Int32 → Int32 → Int32 → Option (Int32 × gD)} (hkb : ∀ (d : gD) (v1 : Int32) (v3 : Int32) (v4 : Int32) (v5 : Int32), kb d v1 v3 v4 v5 = some (r, d') → gw X 0 0 (gQ X (some (.int r)) S d' 0 0) S d 118 [some (va_rf (some o)), some (.int v1), none, some (.int v3), some (.int v4), some (.int v5), none] []) (hkx174 : ∀ (d : gD) (v1 : Int32) (v3 : Int32) (v4 : Int32), kx174 d v1 v3 v4 = some (r, d') → gw X 0 0 (gQ X (some (.int r)) S d' 0 0) S d 174 [some (va_rf (some o)), some (.int v1), none, some (.int v3), some (.int v4), none, none] []) :
    ∀ (d : gD) (v1 : Int32) (v3 : Int32) (v4 : Int32) (v5 : Int32), f_R_stand_B118 S o kx174 kb d v1 v3 v4 v5 = some (r, d') → gw X 0 0 (gQ X (some (.int r)) S d' 0 0) S d 118 [some (va_rf (some o)), some (.int v1), none, some (.int v3), some (.int v4), some (.int v5), none] [] := by
  intro d v1 v3 v4 v5 h
  unfold f_R_stand_B118 at h
  refine g_iload (i := 5) hE d_R_stand_118 rfl ?_
  refine g_bipush hE d_R_stand_120 kb_32 ?_
  refine g_icmp_ge hE d_R_stand_122 (fun c14 => ?_) (fun c14 => ?_)
  · replace h := if_t c14 h
    exact gw.less (lv' := [some (va_rf (some o)), some (.int v1), none, some (.int v3), some (.int v4), none, none]) (And.intro rfl (And.intro rfl (And.intro rfl (And.intro rfl trivial)))) (hkx174 d v1 v3 v4 h)
  · replace h := if_f c14 h
    refine g_iload_n (i := 3) hE d_R_stand_125 rfl rfl ?_
    refine g_iload (i := 5) hE d_R_stand_126 rfl ?_
    refine g_ishr hE d_R_stand_128 ?_
    refine g_sipush hE d_R_stand_129 ks_255 ?_
    refine g_iand hE d_R_stand_132 ?_
    refine g_if_eq hE d_R_stand_133 (fun c13 => ?_) (fun c13 => ?_)
    · replace h := if_t c13 h
      exact gw.less (lv' := [some (va_rf (some o)), some (.int v1), none, some (.int v3), some (.int v4), none, none]) (And.intro rfl (And.intro rfl (And.intro rfl (And.intro rfl trivial)))) (hkx174 d v1 v3 v4 h)
    · replace h := if_f c13 h
      refine g_iload_n (i := 3) hE d_R_stand_136 rfl rfl ?_
      refine g_iload (i := 5) hE d_R_stand_137 rfl ?_
      refine g_ishr hE d_R_stand_139 ?_
      refine g_sipush hE d_R_stand_140 ks_255 ?_
      refine g_iand hE d_R_stand_143 ?_
      refine g_bipush hE d_R_stand_144 kb_24 ?_
      refine g_isub hE d_R_stand_146 ?_
      refine g_istore (i := 6) (lv' := [some (va_rf (some o)), some (.int v1), none, some (.int v3), some (.int v4), some (.int v5), some (.int (((v3 >>> (v5 &&& 31)) &&& 255) - 24))]) hE d_R_stand_147 (Nat.le_of_ble_eq_true rfl) ⟨rfl, Nat.le_of_ble_eq_true rfl⟩ (lvp_i rfl) ?_
      refine g_aload_n (i := 0) hE d_R_stand_149 rfl rfl ?_
      obtain ⟨k1, h⟩ := kd_s h
      refine g_getR 9 hE kc_R k1 (Nat.le_of_ble_eq_true rfl) rfl m_386 d_R_stand_150 (fun x2 e => ?_)
      replace h := lt_i e h; clear e
      refine g_iload (i := 6) hE d_R_stand_153 rfl ?_
      obtain ⟨a3, rfl, h⟩ := nn_s h
      obtain ⟨k4, h⟩ := kd_s h
      obtain ⟨g5, h⟩ := gi_s h
      refine g_zald hE k4 g5 d_R_stand_155 (fun x6 e => ?_)
      replace h := lt_i e h; clear e
      refine g_if_ne hE d_R_stand_156 (fun c12 => ?_) (fun c12 => ?_)
      · replace h := if_f c12 h
        exact gw.less (lv' := [some (va_rf (some o)), some (.int v1), none, some (.int v3), some (.int v4), some (.int v5), none]) (And.intro rfl (And.intro rfl (And.intro rfl (And.intro rfl (And.intro rfl trivial))))) (w_R_stand_J168 hE hkb hkx174 d v1 v3 v4 v5 h)
      · replace h := if_t c12 h
        refine g_aload_n (i := 0) hE d_R_stand_159 rfl rfl ?_
        refine g_getR 8 hE kc_R k1 (Nat.le_of_ble_eq_true rfl) rfl m_384 d_R_stand_160 (fun x7 e => ?_)
        replace h := lt_i e h; clear e
        refine g_iload (i := 6) hE d_R_stand_163 rfl ?_
        obtain ⟨a8, rfl, h⟩ := nn_s h
        obtain ⟨k9, h⟩ := kd_s h
        obtain ⟨g10, h⟩ := gi_s h
        refine g_iald hE k9 g10 d_R_stand_165 (fun x11 e => ?_)
        replace h := lt_i e h; clear e
        refine g_istore (i := 4) (lv' := [some (va_rf (some o)), some (.int v1), none, some (.int v3), some (.int x11), some (.int v5), some (.int (((v3 >>> (v5 &&& 31)) &&& 255) - 24))]) hE d_R_stand_166 (Nat.le_of_ble_eq_true rfl) ⟨rfl, Nat.le_of_ble_eq_true rfl⟩ (lvp_i rfl) ?_
        exact gw.less (lv' := [some (va_rf (some o)), some (.int v1), none, some (.int v3), some (.int x11), some (.int v5), none]) (And.intro rfl (And.intro rfl (And.intro rfl (And.intro rfl (And.intro rfl trivial))))) (w_R_stand_J168 hE hkb hkx174 d v1 v3 x11 v5 h)
theorem w_R_stand_L118 {X : GX} (hE : gE X b_R_stand 7 "StandInMillModel" (some (.int)) "stand" 7 173) {S : gS} {o : Nat} {r : Int32} {d' : gD} {kx174 : gD → Int32 → Int32 → Int32 → Option (Int32 × gD)} (hkx174 : ∀ (d : gD) (v1 : Int32) (v3 : Int32) (v4 : Int32), kx174 d v1 v3 v4 = some (r, d') → gw X 0 0 (gQ X (some (.int r)) S d' 0 0) S d 174 [some (va_rf (some o)), some (.int v1), none, some (.int v3), some (.int v4), none, none] []) : ∀ (n : Nat) (d : gD) (v1 : Int32) (v3 : Int32) (v4 : Int32) (v5 : Int32), itr (f_R_stand_B118 S o kx174) (fun _ _ _ _ _ => none) n d v1 v3 v4 v5 = some (r, d') → gw X 0 0 (gQ X (some (.int r)) S d' 0 0) S d 118 [some (va_rf (some o)), some (.int v1), none, some (.int v3), some (.int v4), some (.int v5), none] [] := by
  intro n
  induction n with
  | zero => intro d v1 v3 v4 v5 h; cases h
  | succ n ih => exact w_R_stand_B118 hE ih hkx174
def f_R_stand_J204 (S : gS) (o : Nat) (kx210 : gD → Int32 → Int32 → Int32 → Int32 → Option (Int32 × gD)) (kb : gD → Int32 → Int32 → Int32 → Int32 → Int32 → Option (Int32 × gD)) (d : gD) (v1 : Int32) (v3 : Int32) (v4 : Int32) (v5 : Int32) (v6 : Int32) : Option (Int32 × gD) :=
  kb d v1 v3 v4 v5 (v6 + 1)
set_option maxRecDepth 100000 in
set_option maxHeartbeats 4000000 in
theorem w_R_stand_J204 {X : GX} (hE : gE X b_R_stand 7 "StandInMillModel" (some (.int)) "stand" 7 173) {S : gS} {o : Nat} {r : Int32} {d' : gD} {kb : gD → Int32 → Int32 → Int32 → Int32 → Int32 → Option (Int32 × gD)} {kx210 : gD → Int32 → Int32 → Int32 → Int32 → Option (Int32 × gD)} (hkb : ∀ (d : gD) (v1 : Int32) (v3 : Int32) (v4 : Int32) (v5 : Int32) (v6 : Int32), kb d v1 v3 v4 v5 v6 = some (r, d') → gw X 0 0 (gQ X (some (.int r)) S d' 0 0) S d 180 [some (va_rf (some o)), some (.int v1), none, some (.int v3), some (.int v4), some (.int v5), some (.int v6)] []) (hkx210 : ∀ (d : gD) (v1 : Int32) (v3 : Int32) (v4 : Int32) (v5 : Int32), kx210 d v1 v3 v4 v5 = some (r, d') → gw X 0 0 (gQ X (some (.int r)) S d' 0 0) S d 210 [some (va_rf (some o)), some (.int v1), none, some (.int v3), some (.int v4), some (.int v5), none] []) :
    ∀ (d : gD) (v1 : Int32) (v3 : Int32) (v4 : Int32) (v5 : Int32) (v6 : Int32), f_R_stand_J204 S o kx210 kb d v1 v3 v4 v5 v6 = some (r, d') → gw X 0 0 (gQ X (some (.int r)) S d' 0 0) S d 204 [some (va_rf (some o)), some (.int v1), none, some (.int v3), some (.int v4), some (.int v5), some (.int v6)] [] := by
  intro d v1 v3 v4 v5 v6 h
  unfold f_R_stand_J204 at h
  refine g_iinc (i := 6) (lv' := [some (va_rf (some o)), some (.int v1), none, some (.int v3), some (.int v4), some (.int v5), some (.int (v6 + 1))]) hE d_R_stand_204 ki_1 rfl (Nat.le_of_ble_eq_true rfl) ⟨rfl, Nat.le_of_ble_eq_true rfl⟩ (lvp_i rfl) ?_
  refine g_goto hE d_R_stand_207 ?_
  exact gw.less (lv' := [some (va_rf (some o)), some (.int v1), none, some (.int v3), some (.int v4), some (.int v5), some (.int (v6 + 1))]) (And.intro rfl (And.intro rfl (And.intro rfl (And.intro rfl (And.intro rfl (And.intro rfl trivial)))))) (hkb d v1 v3 v4 v5 (v6 + 1) h)
def f_R_stand_B180 (S : gS) (o : Nat) (kx210 : gD → Int32 → Int32 → Int32 → Int32 → Option (Int32 × gD)) (kb : gD → Int32 → Int32 → Int32 → Int32 → Int32 → Option (Int32 × gD)) (d : gD) (v1 : Int32) (v3 : Int32) (v4 : Int32) (v5 : Int32) (v6 : Int32) : Option (Int32 × gD) :=
  kd S o 10 <|
  lt_ (dI d o 21) fun x2 =>
  if x2 ≤ v6 then (
    kx210 d v1 v3 v4 v5)
  else (
    lt_ (sP S o 24) fun x3 =>
    nn x3 fun a4 =>
    kd S a4 50 <|
    gi v6 (sN S a4) <|
    lt_ (dI d a4 v6.toNatClampNeg) fun x7 =>
    if x7 = v4 then (
      f_R_stand_J204 S o kx210 kb d v1 v3 v4 (v5 + 1) v6)
    else (
      f_R_stand_J204 S o kx210 kb d v1 v3 v4 v5 v6))
set_option maxRecDepth 100000 in
set_option maxHeartbeats 4000000 in
theorem w_R_stand_B180 {X : GX} (hE : gE X b_R_stand 7 "StandInMillModel" (some (.int)) "stand" 7 173) {S : gS} {o : Nat} {r : Int32} {d' : gD} {kb : gD → Int32 → Int32 → Int32 → Int32 → Int32 → Option (Int32 × gD)} {kx210 : gD → Int32 → Int32 → Int32 → Int32 → Option (Int32 × gD)} (hkb : ∀ (d : gD) (v1 : Int32) (v3 : Int32) (v4 : Int32) (v5 : Int32) (v6 : Int32), kb d v1 v3 v4 v5 v6 = some (r, d') → gw X 0 0 (gQ X (some (.int r)) S d' 0 0) S d 180 [some (va_rf (some o)), some (.int v1), none, some (.int v3), some (.int v4), some (.int v5), some (.int v6)] []) (hkx210 : ∀ (d : gD) (v1 : Int32) (v3 : Int32) (v4 : Int32) (v5 : Int32), kx210 d v1 v3 v4 v5 = some (r, d') → gw X 0 0 (gQ X (some (.int r)) S d' 0 0) S d 210 [some (va_rf (some o)), some (.int v1), none, some (.int v3), some (.int v4), some (.int v5), none] []) :
    ∀ (d : gD) (v1 : Int32) (v3 : Int32) (v4 : Int32) (v5 : Int32) (v6 : Int32), f_R_stand_B180 S o kx210 kb d v1 v3 v4 v5 v6 = some (r, d') → gw X 0 0 (gQ X (some (.int r)) S d' 0 0) S d 180 [some (va_rf (some o)), some (.int v1), none, some (.int v3), some (.int v4), some (.int v5), some (.int v6)] [] := by
  intro d v1 v3 v4 v5 v6 h
  unfold f_R_stand_B180 at h
  refine g_iload (i := 6) hE d_R_stand_180 rfl ?_
  refine g_aload_n (i := 0) hE d_R_stand_182 rfl rfl ?_
  obtain ⟨k1, h⟩ := kd_s h
  refine g_getI 21 hE kc_R k1 (Nat.le_of_ble_eq_true rfl) rfl m_398 d_R_stand_183 (fun x2 e => ?_)
  replace h := lt_i e h; clear e
  refine g_icmp_ge hE d_R_stand_186 (fun c9 => ?_) (fun c9 => ?_)
  · replace h := if_t c9 h
    exact gw.less (lv' := [some (va_rf (some o)), some (.int v1), none, some (.int v3), some (.int v4), some (.int v5), none]) (And.intro rfl (And.intro rfl (And.intro rfl (And.intro rfl (And.intro rfl trivial))))) (hkx210 d v1 v3 v4 v5 h)
  · replace h := if_f c9 h
    refine g_aload_n (i := 0) hE d_R_stand_189 rfl rfl ?_
    refine g_getR 24 hE kc_R k1 (Nat.le_of_ble_eq_true rfl) rfl m_401 d_R_stand_190 (fun x3 e => ?_)
    replace h := lt_i e h; clear e
    refine g_iload (i := 6) hE d_R_stand_193 rfl ?_
    obtain ⟨a4, rfl, h⟩ := nn_s h
    obtain ⟨k5, h⟩ := kd_s h
    obtain ⟨g6, h⟩ := gi_s h
    refine g_iald hE k5 g6 d_R_stand_195 (fun x7 e => ?_)
    replace h := lt_i e h; clear e
    refine g_iload (i := 4) hE d_R_stand_196 rfl ?_
    refine g_icmp_ne hE d_R_stand_198 (fun c8 => ?_) (fun c8 => ?_)
    · replace h := if_f c8 h
      exact gw.less (lv' := [some (va_rf (some o)), some (.int v1), none, some (.int v3), some (.int v4), some (.int v5), some (.int v6)]) (And.intro rfl (And.intro rfl (And.intro rfl (And.intro rfl (And.intro rfl (And.intro rfl trivial)))))) (w_R_stand_J204 hE hkb hkx210 d v1 v3 v4 v5 v6 h)
    · replace h := if_t c8 h
      refine g_iinc (i := 5) (lv' := [some (va_rf (some o)), some (.int v1), none, some (.int v3), some (.int v4), some (.int (v5 + 1)), some (.int v6)]) hE d_R_stand_201 ki_1 rfl (Nat.le_of_ble_eq_true rfl) ⟨rfl, Nat.le_of_ble_eq_true rfl⟩ (lvp_i rfl) ?_
      exact gw.less (lv' := [some (va_rf (some o)), some (.int v1), none, some (.int v3), some (.int v4), some (.int (v5 + 1)), some (.int v6)]) (And.intro rfl (And.intro rfl (And.intro rfl (And.intro rfl (And.intro rfl (And.intro rfl trivial)))))) (w_R_stand_J204 hE hkb hkx210 d v1 v3 v4 (v5 + 1) v6 h)
theorem w_R_stand_L180 {X : GX} (hE : gE X b_R_stand 7 "StandInMillModel" (some (.int)) "stand" 7 173) {S : gS} {o : Nat} {r : Int32} {d' : gD} {kx210 : gD → Int32 → Int32 → Int32 → Int32 → Option (Int32 × gD)} (hkx210 : ∀ (d : gD) (v1 : Int32) (v3 : Int32) (v4 : Int32) (v5 : Int32), kx210 d v1 v3 v4 v5 = some (r, d') → gw X 0 0 (gQ X (some (.int r)) S d' 0 0) S d 210 [some (va_rf (some o)), some (.int v1), none, some (.int v3), some (.int v4), some (.int v5), none] []) : ∀ (n : Nat) (d : gD) (v1 : Int32) (v3 : Int32) (v4 : Int32) (v5 : Int32) (v6 : Int32), itr (f_R_stand_B180 S o kx210) (fun _ _ _ _ _ _ => none) n d v1 v3 v4 v5 v6 = some (r, d') → gw X 0 0 (gQ X (some (.int r)) S d' 0 0) S d 180 [some (va_rf (some o)), some (.int v1), none, some (.int v3), some (.int v4), some (.int v5), some (.int v6)] [] := by
  intro n
  induction n with
  | zero => intro d v1 v3 v4 v5 v6 h; cases h
  | succ n ih => exact w_R_stand_B180 hE ih hkx210
def f_R_stand_J210 (S : gS) (o : Nat) (d : gD) (v1 : Int32) (v3 : Int32) (v4 : Int32) (v5 : Int32) : Option (Int32 × gD) :=
  kd S o 10 <|
  lt_ (sP S o 22) fun x2 =>
  lt_ (dI d o 21) fun x3 =>
  nn x2 fun a4 =>
  kd S a4 50 <|
  gi x3 (sN S a4) <|
  lt_ (wI d a4 x3.toNatClampNeg v1) fun d7 =>
  lt_ (sP S o 23) fun x8 =>
  lt_ (dI d7 o 21) fun x9 =>
  nn x8 fun a10 =>
  kd S a10 50 <|
  gi x9 (sN S a10) <|
  lt_ (wI d7 a10 x9.toNatClampNeg v3) fun d13 =>
  lt_ (sP S o 24) fun x14 =>
  lt_ (dI d13 o 21) fun x15 =>
  nn x14 fun a16 =>
  kd S a16 50 <|
  gi x15 (sN S a16) <|
  lt_ (wI d13 a16 x15.toNatClampNeg v4) fun d19 =>
  lt_ (sP S o 25) fun x20 =>
  lt_ (dI d19 o 21) fun x21 =>
  nn x20 fun a22 =>
  kd S a22 50 <|
  gi x21 (sN S a22) <|
  lt_ (wI d19 a22 x21.toNatClampNeg v5) fun d25 =>
  lt_ (dI d25 o 21) fun x26 =>
  lt_ (wI d25 o 21 (x26 + 1)) fun d27 =>
  lt_ (dI d27 o 21) fun x28 =>
  some (x28 - 1, d27)
set_option maxRecDepth 100000 in
set_option maxHeartbeats 4000000 in
theorem w_R_stand_J210 {X : GX} (hE : gE X b_R_stand 7 "StandInMillModel" (some (.int)) "stand" 7 173) {S : gS} {o : Nat} {r : Int32} {d' : gD} :
    ∀ (d : gD) (v1 : Int32) (v3 : Int32) (v4 : Int32) (v5 : Int32), f_R_stand_J210 S o d v1 v3 v4 v5 = some (r, d') → gw X 0 0 (gQ X (some (.int r)) S d' 0 0) S d 210 [some (va_rf (some o)), some (.int v1), none, some (.int v3), some (.int v4), some (.int v5), none] [] := by
  intro d v1 v3 v4 v5 h
  unfold f_R_stand_J210 at h
  refine g_aload_n (i := 0) hE d_R_stand_210 rfl rfl ?_
  obtain ⟨k1, h⟩ := kd_s h
  refine g_getR 22 hE kc_R k1 (Nat.le_of_ble_eq_true rfl) rfl m_399 d_R_stand_211 (fun x2 e => ?_)
  replace h := lt_i e h; clear e
  refine g_aload_n (i := 0) hE d_R_stand_214 rfl rfl ?_
  refine g_getI 21 hE kc_R k1 (Nat.le_of_ble_eq_true rfl) rfl m_398 d_R_stand_215 (fun x3 e => ?_)
  replace h := lt_i e h; clear e
  refine g_iload_n (i := 1) hE d_R_stand_218 rfl rfl ?_
  obtain ⟨a4, rfl, h⟩ := nn_s h
  obtain ⟨k5, h⟩ := kd_s h
  obtain ⟨g6, h⟩ := gi_s h
  refine g_iast hE k5 g6 d_R_stand_219 (fun d7 e => ?_)
  replace h := lt_i e h; clear e
  refine g_aload_n (i := 0) hE d_R_stand_220 rfl rfl ?_
  refine g_getR 23 hE kc_R k1 (Nat.le_of_ble_eq_true rfl) rfl m_400 d_R_stand_221 (fun x8 e => ?_)
  replace h := lt_i e h; clear e
  refine g_aload_n (i := 0) hE d_R_stand_224 rfl rfl ?_
  refine g_getI 21 hE kc_R k1 (Nat.le_of_ble_eq_true rfl) rfl m_398 d_R_stand_225 (fun x9 e => ?_)
  replace h := lt_i e h; clear e
  refine g_iload_n (i := 3) hE d_R_stand_228 rfl rfl ?_
  obtain ⟨a10, rfl, h⟩ := nn_s h
  obtain ⟨k11, h⟩ := kd_s h
  obtain ⟨g12, h⟩ := gi_s h
  refine g_iast hE k11 g12 d_R_stand_229 (fun d13 e => ?_)
  replace h := lt_i e h; clear e
  refine g_aload_n (i := 0) hE d_R_stand_230 rfl rfl ?_
  refine g_getR 24 hE kc_R k1 (Nat.le_of_ble_eq_true rfl) rfl m_401 d_R_stand_231 (fun x14 e => ?_)
  replace h := lt_i e h; clear e
  refine g_aload_n (i := 0) hE d_R_stand_234 rfl rfl ?_
  refine g_getI 21 hE kc_R k1 (Nat.le_of_ble_eq_true rfl) rfl m_398 d_R_stand_235 (fun x15 e => ?_)
  replace h := lt_i e h; clear e
  refine g_iload (i := 4) hE d_R_stand_238 rfl ?_
  obtain ⟨a16, rfl, h⟩ := nn_s h
  obtain ⟨k17, h⟩ := kd_s h
  obtain ⟨g18, h⟩ := gi_s h
  refine g_iast hE k17 g18 d_R_stand_240 (fun d19 e => ?_)
  replace h := lt_i e h; clear e
  refine g_aload_n (i := 0) hE d_R_stand_241 rfl rfl ?_
  refine g_getR 25 hE kc_R k1 (Nat.le_of_ble_eq_true rfl) rfl m_402 d_R_stand_242 (fun x20 e => ?_)
  replace h := lt_i e h; clear e
  refine g_aload_n (i := 0) hE d_R_stand_245 rfl rfl ?_
  refine g_getI 21 hE kc_R k1 (Nat.le_of_ble_eq_true rfl) rfl m_398 d_R_stand_246 (fun x21 e => ?_)
  replace h := lt_i e h; clear e
  refine g_iload (i := 5) hE d_R_stand_249 rfl ?_
  obtain ⟨a22, rfl, h⟩ := nn_s h
  obtain ⟨k23, h⟩ := kd_s h
  obtain ⟨g24, h⟩ := gi_s h
  refine g_iast hE k23 g24 d_R_stand_251 (fun d25 e => ?_)
  replace h := lt_i e h; clear e
  refine g_aload_n (i := 0) hE d_R_stand_252 rfl rfl ?_
  refine g_dupr hE d_R_stand_253 ?_
  refine g_getI 21 hE kc_R k1 (Nat.le_of_ble_eq_true rfl) rfl m_398 d_R_stand_254 (fun x26 e => ?_)
  replace h := lt_i e h; clear e
  refine g_iconst hE d_R_stand_257 ki_1 ?_
  refine g_iadd hE d_R_stand_258 ?_
  refine g_putI 21 hE kc_R k1 (Nat.le_of_ble_eq_true rfl) rfl m_398 rfl (by decide +kernel) d_R_stand_259 (fun d27 e => ?_)
  replace h := lt_i e h; clear e
  refine g_aload_n (i := 0) hE d_R_stand_262 rfl rfl ?_
  refine g_getI 21 hE kc_R k1 (Nat.le_of_ble_eq_true rfl) rfl m_398 d_R_stand_263 (fun x28 e => ?_)
  replace h := lt_i e h; clear e
  refine g_iconst hE d_R_stand_266 ki_1 ?_
  refine g_isub hE d_R_stand_267 ?_
  cases h
  exact g_iret hE d_R_stand_268 rfl rfl
def f_R_stand_J174 (S : gS) (o : Nat) (d : gD) (v1 : Int32) (v3 : Int32) (v4 : Int32) : Option (Int32 × gD) :=
  itr (f_R_stand_B180 S o (f_R_stand_J210 S o)) (fun _ _ _ _ _ _ => none) fu d v1 v3 v4 0 0
set_option maxRecDepth 100000 in
set_option maxHeartbeats 4000000 in
theorem w_R_stand_J174 {X : GX} (hE : gE X b_R_stand 7 "StandInMillModel" (some (.int)) "stand" 7 173) {S : gS} {o : Nat} {r : Int32} {d' : gD} :
    ∀ (d : gD) (v1 : Int32) (v3 : Int32) (v4 : Int32), f_R_stand_J174 S o d v1 v3 v4 = some (r, d') → gw X 0 0 (gQ X (some (.int r)) S d' 0 0) S d 174 [some (va_rf (some o)), some (.int v1), none, some (.int v3), some (.int v4), none, none] [] := by
  intro d v1 v3 v4 h
  unfold f_R_stand_J174 at h
  refine g_iconst hE d_R_stand_174 ki_0 ?_
  refine g_istore (i := 5) (lv' := [some (va_rf (some o)), some (.int v1), none, some (.int v3), some (.int v4), some (.int 0), none]) hE d_R_stand_175 (Nat.le_of_ble_eq_true rfl) ⟨rfl, Nat.le_of_ble_eq_true rfl⟩ (lvp_i rfl) ?_
  refine g_iconst hE d_R_stand_177 ki_0 ?_
  refine g_istore (i := 6) (lv' := [some (va_rf (some o)), some (.int v1), none, some (.int v3), some (.int v4), some (.int 0), some (.int 0)]) hE d_R_stand_178 (Nat.le_of_ble_eq_true rfl) ⟨rfl, Nat.le_of_ble_eq_true rfl⟩ (lvp_i rfl) ?_
  exact gw.less (lv' := [some (va_rf (some o)), some (.int v1), none, some (.int v3), some (.int v4), some (.int 0), some (.int 0)]) (And.intro rfl (And.intro rfl (And.intro rfl (And.intro rfl (And.intro rfl (And.intro rfl trivial)))))) (w_R_stand_L180 hE (w_R_stand_J210 hE) fu d v1 v3 v4 0 0 h)
def f_R_stand_J88 (S : gS) (o : Nat) (d : gD) (v1 : Int32) (v3 : Int32) : Option (Int32 × gD) :=
  kd S o 10 <|
  bdD (f_R_faultOf S d o v1 v3) fun x2 d4 =>
  lt_ (wI d4 o 28 x2) fun d5 =>
  lt_ (dI d5 o 28) fun x6 =>
  if x6 = 0 then (
    itr (f_R_stand_B118 S o (f_R_stand_J174 S o)) (fun _ _ _ _ _ => none) fu d5 v1 v3 4 0)
  else (
    lt_ (wI d5 o 0 2) fun d7 =>
    some (0, d7))
set_option maxRecDepth 100000 in
set_option maxHeartbeats 4000000 in
theorem w_R_stand_J88 {X : GX} (hE : gE X b_R_stand 7 "StandInMillModel" (some (.int)) "stand" 7 173) {S : gS} {o : Nat} {r : Int32} {d' : gD} :
    ∀ (d : gD) (v1 : Int32) (v3 : Int32), f_R_stand_J88 S o d v1 v3 = some (r, d') → gw X 0 0 (gQ X (some (.int r)) S d' 0 0) S d 88 [some (va_rf (some o)), some (.int v1), none, some (.int v3), none, none, none] [] := by
  intro d v1 v3 h
  unfold f_R_stand_J88 at h
  refine g_aload_n (i := 0) hE d_R_stand_88 rfl rfl ?_
  refine g_aload_n (i := 0) hE d_R_stand_89 rfl rfl ?_
  refine g_iload_n (i := 1) hE d_R_stand_90 rfl rfl ?_
  refine g_iload_n (i := 3) hE d_R_stand_91 rfl rfl ?_
  obtain ⟨k1, h⟩ := kd_s h
  obtain ⟨x2, d4, e3, h⟩ := bdD_s h
  refine g_callV (av := [.inr (.inr (some o)), .inl v1, .inl v3]) (as := [.inl v1, .inl v3]) (stk := [.int x2, va_rf (some o)]) [va_rf (some o)] hE (c_R_faultOf (xl X) (xG X) e3) ky_R_faultOf ⟨Nat.le_of_ble_eq_true rfl, Nat.le_of_ble_eq_true rfl⟩ rfl kc_R k1 m_498 m_499 m_500 rfl d_R_stand_92 rfl rfl (Nat.le_trans (ct_r ct_n) (Nat.le_of_ble_eq_true rfl)) (Nat.zero_le _) (Nat.zero_le _) ?_
  refine gw.cs (c2 := 0) (s2 := 0) rfl rfl ?_
  refine g_putI 28 hE kc_R k1 (Nat.le_of_ble_eq_true rfl) rfl m_405 rfl (by decide +kernel) d_R_stand_95 (fun d5 e => ?_)
  replace h := lt_i e h; clear e
  refine g_aload_n (i := 0) hE d_R_stand_98 rfl rfl ?_
  refine g_getI 28 hE kc_R k1 (Nat.le_of_ble_eq_true rfl) rfl m_405 d_R_stand_99 (fun x6 e => ?_)
  replace h := lt_i e h; clear e
  refine g_if_eq hE d_R_stand_102 (fun c8 => ?_) (fun c8 => ?_)
  · replace h := if_t c8 h
    refine g_iconst hE d_R_stand_112 ki_4 ?_
    refine g_istore (i := 4) (lv' := [some (va_rf (some o)), some (.int v1), none, some (.int v3), some (.int 4), none, none]) hE d_R_stand_113 (Nat.le_of_ble_eq_true rfl) ⟨rfl, Nat.le_of_ble_eq_true rfl⟩ (lvp_i rfl) ?_
    refine g_iconst hE d_R_stand_115 ki_0 ?_
    refine g_istore (i := 5) (lv' := [some (va_rf (some o)), some (.int v1), none, some (.int v3), some (.int 4), some (.int 0), none]) hE d_R_stand_116 (Nat.le_of_ble_eq_true rfl) ⟨rfl, Nat.le_of_ble_eq_true rfl⟩ (lvp_i rfl) ?_
    exact gw.less (lv' := [some (va_rf (some o)), some (.int v1), none, some (.int v3), some (.int 4), some (.int 0), none]) (And.intro rfl (And.intro rfl (And.intro rfl (And.intro rfl (And.intro rfl trivial))))) (w_R_stand_L118 hE (w_R_stand_J174 hE) fu d5 v1 v3 4 0 h)
  · replace h := if_f c8 h
    refine g_aload_n (i := 0) hE d_R_stand_105 rfl rfl ?_
    refine g_iconst hE d_R_stand_106 ki_2 ?_
    refine g_putI 0 hE kc_R k1 (Nat.le_of_ble_eq_true rfl) rfl m_376 rfl (by decide +kernel) d_R_stand_107 (fun d7 e => ?_)
    replace h := lt_i e h; clear e
    refine g_iconst hE d_R_stand_110 ki_0 ?_
    cases h
    exact g_iret hE d_R_stand_111 rfl rfl
def f_R_stand_J33 (S : gS) (o : Nat) (d : gD) (v1 : Int32) (v3 : Int32) (u0 : Option Nat) (u1 : Int32) : Option (Int32 × gD) :=
  nn u0 fun a1 =>
  kd S a1 10 <|
  lt_ (wI d a1 0 u1) fun d3 =>
  kd S o 10 <|
  lt_ (dI d3 o 0) fun x5 =>
  if x5 = 0 then (
    itr (f_R_stand_B48 S o (f_R_stand_J88 S o)) (fun _ _ _ _ => none) fu d3 v1 v3 0)
  else (
    some (0, d3))
set_option maxRecDepth 100000 in
set_option maxHeartbeats 4000000 in
theorem w_R_stand_J33 {X : GX} (hE : gE X b_R_stand 7 "StandInMillModel" (some (.int)) "stand" 7 173) {S : gS} {o : Nat} {r : Int32} {d' : gD} :
    ∀ (d : gD) (v1 : Int32) (v3 : Int32) (u0 : Option Nat) (u1 : Int32), f_R_stand_J33 S o d v1 v3 u0 u1 = some (r, d') → gw X 0 0 (gQ X (some (.int r)) S d' 0 0) S d 33 [some (va_rf (some o)), some (.int v1), none, some (.int v3), none, none, none] [.int u1, va_rf u0] := by
  intro d v1 v3 u0 u1 h
  unfold f_R_stand_J33 at h
  obtain ⟨a1, rfl, h⟩ := nn_s h
  obtain ⟨k2, h⟩ := kd_s h
  refine g_putI 0 hE kc_R k2 (Nat.le_of_ble_eq_true rfl) rfl m_376 rfl (by decide +kernel) d_R_stand_33 (fun d3 e => ?_)
  replace h := lt_i e h; clear e
  refine g_aload_n (i := 0) hE d_R_stand_36 rfl rfl ?_
  obtain ⟨k4, h⟩ := kd_s h
  refine g_getI 0 hE kc_R k4 (Nat.le_of_ble_eq_true rfl) rfl m_376 d_R_stand_37 (fun x5 e => ?_)
  replace h := lt_i e h; clear e
  refine g_if_eq hE d_R_stand_40 (fun c6 => ?_) (fun c6 => ?_)
  · replace h := if_t c6 h
    refine g_iconst hE d_R_stand_45 ki_0 ?_
    refine g_istore (i := 4) (lv' := [some (va_rf (some o)), some (.int v1), none, some (.int v3), some (.int 0), none, none]) hE d_R_stand_46 (Nat.le_of_ble_eq_true rfl) ⟨rfl, Nat.le_of_ble_eq_true rfl⟩ (lvp_i rfl) ?_
    exact gw.less (lv' := [some (va_rf (some o)), some (.int v1), none, some (.int v3), some (.int 0), none, none]) (And.intro rfl (And.intro rfl (And.intro rfl (And.intro rfl trivial)))) (w_R_stand_L48 hE (w_R_stand_J88 hE) fu d3 v1 v3 0 h)
  · replace h := if_f c6 h
    refine g_iconst hE d_R_stand_43 ki_0 ?_
    cases h
    exact g_iret hE d_R_stand_44 rfl rfl
def f_R_stand_J28 (S : gS) (o : Nat) (d : gD) (v1 : Int32) (v3 : Int32) (u0 : Option Nat) : Option (Int32 × gD) :=
  f_R_stand_J33 S o d v1 v3 u0 1
set_option maxRecDepth 100000 in
set_option maxHeartbeats 4000000 in
theorem w_R_stand_J28 {X : GX} (hE : gE X b_R_stand 7 "StandInMillModel" (some (.int)) "stand" 7 173) {S : gS} {o : Nat} {r : Int32} {d' : gD} :
    ∀ (d : gD) (v1 : Int32) (v3 : Int32) (u0 : Option Nat), f_R_stand_J28 S o d v1 v3 u0 = some (r, d') → gw X 0 0 (gQ X (some (.int r)) S d' 0 0) S d 28 [some (va_rf (some o)), some (.int v1), none, some (.int v3), none, none, none] [va_rf u0] := by
  intro d v1 v3 u0 h
  unfold f_R_stand_J28 at h
  refine g_iconst hE d_R_stand_28 ki_1 ?_
  refine g_goto hE d_R_stand_29 ?_
  exact gw.less (lv' := [some (va_rf (some o)), some (.int v1), none, some (.int v3), none, none, none]) (And.intro rfl (And.intro rfl (And.intro rfl trivial))) (w_R_stand_J33 hE d v1 v3 u0 1 h)
set_option maxRecDepth 100000 in
def f_R_stand (S : gS) (d : gD) (o : Nat) (v1 : Int32) (v2 : Int32) : Option (Int32 × gD) :=
  kd S o 10 <|
  lt_ (wI d o 28 0) fun d2 =>
  bd (f_R_cleaned S d2 o v2) fun x3 =>
  if v1 < 0 then (
    f_R_stand_J28 S o d2 v1 x3 (some o))
  else (
    lt_ (dI d2 o 1) fun x5 =>
    if x5 ≤ v1 then (
      f_R_stand_J28 S o d2 v1 x3 (some o))
    else (
      if x3 = 0 then (
        f_R_stand_J28 S o d2 v1 x3 (some o))
      else (
        f_R_stand_J33 S o d2 v1 x3 (some o) 0)))
set_option maxRecDepth 100000 in
set_option maxHeartbeats 4000000 in
theorem c_R_stand (l : Launch) (G : gG) {S : gS} {d : gD} {o : Nat} {v1 : Int32} {v2 : Int32} {r : Int32} {d' : gD} (h : f_R_stand S d o v1 v2 = some (r, d')) : GM l G y_R_stand b_R_stand 7 (some (.int)) 7 173 0 0 [.inr (.inr (some o)), .inl v1, .inl v2] S d (some (.int r)) S d' := by
  refine GM.of (by decide) (Nat.le_of_ble_eq_true rfl) ?_
  intro X hl0 hG0 hR0 hE0
  have hE : gE X b_R_stand 7 "StandInMillModel" (some (.int)) "stand" 7 173 := hE0
  unfold f_R_stand at h
  refine gw.less (lv' := [some (va_rf (some o)), some (.int v1), some (.int v2), none, none, none, none]) (And.intro rfl (And.intro rfl (And.intro rfl trivial))) ?_
  refine g_aload_n (i := 0) hE d_R_stand_0 rfl rfl ?_
  refine g_iconst hE d_R_stand_1 ki_0 ?_
  obtain ⟨k1, h⟩ := kd_s h
  refine g_putI 28 hE kc_R k1 (Nat.le_of_ble_eq_true rfl) rfl m_405 rfl (by decide +kernel) d_R_stand_2 (fun d2 e => ?_)
  replace h := lt_i e h; clear e
  refine g_aload_n (i := 0) hE d_R_stand_5 rfl rfl ?_
  refine g_iload_n (i := 2) hE d_R_stand_6 rfl rfl ?_
  obtain ⟨x3, e4, h⟩ := bd_s h
  refine g_callV (av := [.inr (.inr (some o)), .inl v2]) (as := [.inl v2]) (stk := [.int x3]) [] hE (c_R_cleaned (xl X) (xG X) e4) ky_R_cleaned ⟨Nat.le_of_ble_eq_true rfl, Nat.le_of_ble_eq_true rfl⟩ rfl kc_R k1 m_495 m_496 m_497 rfl d_R_stand_7 rfl rfl ct_0 (Nat.zero_le _) (Nat.zero_le _) ?_
  refine gw.cs (c2 := 0) (s2 := 0) rfl rfl ?_
  refine g_istore_n (i := 3) (lv' := [some (va_rf (some o)), some (.int v1), some (.int v2), some (.int x3), none, none, none]) hE d_R_stand_10 rfl (Nat.le_of_ble_eq_true rfl) ⟨rfl, Nat.le_of_ble_eq_true rfl⟩ (lvp_i rfl) ?_
  refine g_aload_n (i := 0) hE d_R_stand_11 rfl rfl ?_
  refine g_iload_n (i := 1) hE d_R_stand_12 rfl rfl ?_
  refine g_if_lt hE d_R_stand_13 (fun c8 => ?_) (fun c8 => ?_)
  · replace h := if_t c8 h
    exact gw.less (lv' := [some (va_rf (some o)), some (.int v1), none, some (.int x3), none, none, none]) (And.intro rfl (And.intro rfl (And.intro rfl trivial))) (w_R_stand_J28 hE d2 v1 x3 (some o) h)
  · replace h := if_f c8 h
    refine g_iload_n (i := 1) hE d_R_stand_16 rfl rfl ?_
    refine g_aload_n (i := 0) hE d_R_stand_17 rfl rfl ?_
    refine g_getI 1 hE kc_R k1 (Nat.le_of_ble_eq_true rfl) rfl m_377 d_R_stand_18 (fun x5 e => ?_)
    replace h := lt_i e h; clear e
    refine g_icmp_ge hE d_R_stand_21 (fun c7 => ?_) (fun c7 => ?_)
    · replace h := if_t c7 h
      exact gw.less (lv' := [some (va_rf (some o)), some (.int v1), none, some (.int x3), none, none, none]) (And.intro rfl (And.intro rfl (And.intro rfl trivial))) (w_R_stand_J28 hE d2 v1 x3 (some o) h)
    · replace h := if_f c7 h
      refine g_iload_n (i := 3) hE d_R_stand_24 rfl rfl ?_
      refine g_if_ne hE d_R_stand_25 (fun c6 => ?_) (fun c6 => ?_)
      · replace h := if_f c6 h
        refine g_iconst hE d_R_stand_32 ki_0 ?_
        exact gw.less (lv' := [some (va_rf (some o)), some (.int v1), none, some (.int x3), none, none, none]) (And.intro rfl (And.intro rfl (And.intro rfl trivial))) (w_R_stand_J33 hE d2 v1 x3 (some o) 0 h)
      · replace h := if_t c6 h
        exact gw.less (lv' := [some (va_rf (some o)), some (.int v1), none, some (.int x3), none, none, none]) (And.intro rfl (And.intro rfl (And.intro rfl trivial))) (w_R_stand_J28 hE d2 v1 x3 (some o) h)
theorem d_R_fault_0 : dc b_R_fault 0 (.aload_n 0) 1 1 := ⟨by decide +kernel, rfl⟩
theorem d_R_fault_1 : dc b_R_fault 1 (.iconst 0) 1 2 := ⟨by decide +kernel, rfl⟩
theorem d_R_fault_2 : dc b_R_fault 2 (.putfield 7) 3 5 := ⟨by decide +kernel, rfl⟩
theorem d_R_fault_5 : dc b_R_fault 5 (.aload_n 0) 1 6 := ⟨by decide +kernel, rfl⟩
theorem d_R_fault_6 : dc b_R_fault 6 (.getfield 97) 3 9 := ⟨by decide +kernel, rfl⟩
theorem d_R_fault_9 : dc b_R_fault 9 (.ireturn) 1 10 := ⟨by decide +kernel, rfl⟩
set_option maxRecDepth 100000 in
def f_R_fault (S : gS) (d : gD) (o : Nat) : Option (Int32 × gD) :=
  kd S o 10 <|
  lt_ (wI d o 0 0) fun d2 =>
  lt_ (dI d2 o 28) fun x3 =>
  some (x3, d2)
set_option maxRecDepth 100000 in
set_option maxHeartbeats 4000000 in
theorem c_R_fault (l : Launch) (G : gG) {S : gS} {d : gD} {o : Nat} {r : Int32} {d' : gD} (h : f_R_fault S d o = some (r, d')) : GM l G y_R_fault b_R_fault 1 (some (.int)) 0 0 0 0 [.inr (.inr (some o))] S d (some (.int r)) S d' := by
  refine GM.of (by decide) (Nat.le_of_ble_eq_true rfl) ?_
  intro X hl0 hG0 hR0 hE0
  have hE : gE X b_R_fault 1 "StandInMillModel" (some (.int)) "fault" 0 0 := hE0
  unfold f_R_fault at h
  refine gw.less (lv' := [some (va_rf (some o))]) (And.intro rfl trivial) ?_
  refine g_aload_n (i := 0) hE d_R_fault_0 rfl rfl ?_
  refine g_iconst hE d_R_fault_1 ki_0 ?_
  obtain ⟨k1, h⟩ := kd_s h
  refine g_putI 0 hE kc_R k1 (Nat.le_of_ble_eq_true rfl) rfl m_376 rfl (by decide +kernel) d_R_fault_2 (fun d2 e => ?_)
  replace h := lt_i e h; clear e
  refine g_aload_n (i := 0) hE d_R_fault_5 rfl rfl ?_
  refine g_getI 28 hE kc_R k1 (Nat.le_of_ble_eq_true rfl) rfl m_405 d_R_fault_6 (fun x3 e => ?_)
  replace h := lt_i e h; clear e
  cases h
  exact g_iret hE d_R_fault_9 rfl rfl
theorem d_R_isStand_0 : dc b_R_isStand 0 (.iload_n 1) 1 1 := ⟨by decide +kernel, rfl⟩
theorem d_R_isStand_1 : db b_R_isStand 1 (.ifCond .lt 15) 15 16 4 := ⟨by decide +kernel, by decide, rfl⟩
theorem d_R_isStand_4 : dc b_R_isStand 4 (.iload_n 1) 1 5 := ⟨by decide +kernel, rfl⟩
theorem d_R_isStand_5 : dc b_R_isStand 5 (.aload_n 0) 1 6 := ⟨by decide +kernel, rfl⟩
theorem d_R_isStand_6 : dc b_R_isStand 6 (.getfield 76) 3 9 := ⟨by decide +kernel, rfl⟩
theorem d_R_isStand_9 : db b_R_isStand 9 (.if_icmp .ge 7) 7 16 12 := ⟨by decide +kernel, by decide, rfl⟩
theorem d_R_isStand_12 : dc b_R_isStand 12 (.iconst 1) 1 13 := ⟨by decide +kernel, rfl⟩
theorem d_R_isStand_13 : db b_R_isStand 13 (.goto 4) 4 17 16 := ⟨by decide +kernel, by decide, rfl⟩
theorem d_R_isStand_16 : dc b_R_isStand 16 (.iconst 0) 1 17 := ⟨by decide +kernel, rfl⟩
theorem d_R_isStand_17 : dc b_R_isStand 17 (.ireturn) 1 18 := ⟨by decide +kernel, rfl⟩
set_option maxRecDepth 100000 in
def f_R_isStand (S : gS) (d : gD) (o : Nat) (v1 : Int32) : Option (Int32) :=
  if v1 < 0 then (
    some 0)
  else (
    kd S o 10 <|
    lt_ (dI d o 21) fun x2 =>
    if x2 ≤ v1 then (
      some 0)
    else (
      some 1))
set_option maxRecDepth 100000 in
set_option maxHeartbeats 4000000 in
theorem c_R_isStand (l : Launch) (G : gG) {S : gS} {d : gD} {o : Nat} {v1 : Int32} {r : Int32} (h : f_R_isStand S d o v1 = some r) : GM l G y_R_isStand b_R_isStand 2 (some (.boolean)) 0 0 0 0 [.inr (.inr (some o)), .inl v1] S d (some (.int r)) S d := by
  refine GM.of (by decide) (Nat.le_of_ble_eq_true rfl) ?_
  intro X hl0 hG0 hR0 hE0
  have hE : gE X b_R_isStand 2 "StandInMillModel" (some (.boolean)) "isStand" 0 0 := hE0
  unfold f_R_isStand at h
  refine gw.less (lv' := [some (va_rf (some o)), some (.int v1)]) (And.intro rfl (And.intro rfl trivial)) ?_
  refine g_iload_n (i := 1) hE d_R_isStand_0 rfl rfl ?_
  refine g_if_lt hE d_R_isStand_1 (fun c4 => ?_) (fun c4 => ?_)
  · replace h := if_t c4 h
    refine g_iconst hE d_R_isStand_16 ki_0 ?_
    cases h
    exact g_zret hE (Or.inl rfl) d_R_isStand_17 rfl rfl
  · replace h := if_f c4 h
    refine g_iload_n (i := 1) hE d_R_isStand_4 rfl rfl ?_
    refine g_aload_n (i := 0) hE d_R_isStand_5 rfl rfl ?_
    obtain ⟨k1, h⟩ := kd_s h
    refine g_getI 21 hE kc_R k1 (Nat.le_of_ble_eq_true rfl) rfl m_398 d_R_isStand_6 (fun x2 e => ?_)
    replace h := lt_i e h; clear e
    refine g_icmp_ge hE d_R_isStand_9 (fun c3 => ?_) (fun c3 => ?_)
    · replace h := if_t c3 h
      refine g_iconst hE d_R_isStand_16 ki_0 ?_
      cases h
      exact g_zret hE (Or.inl rfl) d_R_isStand_17 rfl rfl
    · replace h := if_f c3 h
      refine g_iconst hE d_R_isStand_12 ki_1 ?_
      refine g_goto hE d_R_isStand_13 ?_
      cases h
      exact g_zret hE (Or.inr rfl) d_R_isStand_17 rfl rfl
