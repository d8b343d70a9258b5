theorem d_R_call_0 : dc b_R_call 0 (.aload_n 0) 1 1 := ⟨by decide +kernel, rfl⟩
theorem d_R_call_1 : dc b_R_call 1 (.iconst 1) 1 2 := ⟨by decide +kernel, rfl⟩
theorem d_R_call_2 : dc b_R_call 2 (.putfield 7) 3 5 := ⟨by decide +kernel, rfl⟩
theorem d_R_call_5 : dc b_R_call 5 (.aload_n 0) 1 6 := ⟨by decide +kernel, rfl⟩
theorem d_R_call_6 : dc b_R_call 6 (.iload_n 1) 1 7 := ⟨by decide +kernel, rfl⟩
theorem d_R_call_7 : dc b_R_call 7 (.invokevirtual 246) 3 10 := ⟨by decide +kernel, rfl⟩
theorem d_R_call_10 : db b_R_call 10 (.ifCond .ne 5) 5 15 13 := ⟨by decide +kernel, by decide, rfl⟩
theorem d_R_call_13 : dc b_R_call 13 (.iconst 0) 1 14 := ⟨by decide +kernel, rfl⟩
theorem d_R_call_14 : dc b_R_call 14 (.ireturn) 1 15 := ⟨by decide +kernel, rfl⟩
theorem d_R_call_15 : dc b_R_call 15 (.aload_n 0) 1 16 := ⟨by decide +kernel, rfl⟩
theorem d_R_call_16 : dc b_R_call 16 (.aload_n 0) 1 17 := ⟨by decide +kernel, rfl⟩
theorem d_R_call_17 : dc b_R_call 17 (.getfield 82) 3 20 := ⟨by decide +kernel, rfl⟩
theorem d_R_call_20 : dc b_R_call 20 (.iload_n 1) 1 21 := ⟨by decide +kernel, rfl⟩
theorem d_R_call_21 : dc b_R_call 21 (.iaload) 1 22 := ⟨by decide +kernel, rfl⟩
theorem d_R_call_22 : dc b_R_call 22 (.invokevirtual 204) 3 25 := ⟨by decide +kernel, rfl⟩
theorem d_R_call_25 : dc b_R_call 25 (.iload_n 2) 1 26 := ⟨by decide +kernel, rfl⟩
theorem d_R_call_26 : db b_R_call 26 (.ifCond .lt 11) 11 37 29 := ⟨by decide +kernel, by decide, rfl⟩
theorem d_R_call_29 : dc b_R_call 29 (.iload_n 2) 1 30 := ⟨by decide +kernel, rfl⟩
theorem d_R_call_30 : dc b_R_call 30 (.aload_n 0) 1 31 := ⟨by decide +kernel, rfl⟩
theorem d_R_call_31 : dc b_R_call 31 (.getfield 106) 3 34 := ⟨by decide +kernel, rfl⟩
theorem d_R_call_34 : db b_R_call 34 (.if_icmp .lt 5) 5 39 37 := ⟨by decide +kernel, by decide, rfl⟩
theorem d_R_call_37 : dc b_R_call 37 (.iconst 0) 1 38 := ⟨by decide +kernel, rfl⟩
theorem d_R_call_38 : dc b_R_call 38 (.ireturn) 1 39 := ⟨by decide +kernel, rfl⟩
theorem d_R_call_39 : dc b_R_call 39 (.aload_n 0) 1 40 := ⟨by decide +kernel, rfl⟩
theorem d_R_call_40 : dc b_R_call 40 (.getfield 121) 3 43 := ⟨by decide +kernel, rfl⟩
theorem d_R_call_43 : dc b_R_call 43 (.iload_n 2) 1 44 := ⟨by decide +kernel, rfl⟩
theorem d_R_call_44 : dc b_R_call 44 (.iaload) 1 45 := ⟨by decide +kernel, rfl⟩
theorem d_R_call_45 : dc b_R_call 45 (.istore 9) 2 47 := ⟨by decide +kernel, rfl⟩
theorem d_R_call_47 : dc b_R_call 47 (.aload_n 0) 1 48 := ⟨by decide +kernel, rfl⟩
theorem d_R_call_48 : dc b_R_call 48 (.getfield 109) 3 51 := ⟨by decide +kernel, rfl⟩
theorem d_R_call_51 : dc b_R_call 51 (.iload 9) 2 53 := ⟨by decide +kernel, rfl⟩
theorem d_R_call_53 : dc b_R_call 53 (.iaload) 1 54 := ⟨by decide +kernel, rfl⟩
theorem d_R_call_54 : dc b_R_call 54 (.istore 10) 2 56 := ⟨by decide +kernel, rfl⟩
theorem d_R_call_56 : dc b_R_call 56 (.aload_n 0) 1 57 := ⟨by decide +kernel, rfl⟩
theorem d_R_call_57 : dc b_R_call 57 (.iload 10) 2 59 := ⟨by decide +kernel, rfl⟩
theorem d_R_call_59 : dc b_R_call 59 (.invokevirtual 223) 3 62 := ⟨by decide +kernel, rfl⟩
theorem d_R_call_62 : dc b_R_call 62 (.istore 11) 2 64 := ⟨by decide +kernel, rfl⟩
theorem d_R_call_64 : dc b_R_call 64 (.aload_n 0) 1 65 := ⟨by decide +kernel, rfl⟩
theorem d_R_call_65 : dc b_R_call 65 (.iconst 2) 1 66 := ⟨by decide +kernel, rfl⟩
theorem d_R_call_66 : dc b_R_call 66 (.putfield 7) 3 69 := ⟨by decide +kernel, rfl⟩
theorem d_R_call_69 : dc b_R_call 69 (.iload 11) 2 71 := ⟨by decide +kernel, rfl⟩
theorem d_R_call_71 : db b_R_call 71 (.ifCond .le 21) 21 92 74 := ⟨by decide +kernel, by decide, rfl⟩
theorem d_R_call_74 : dc b_R_call 74 (.aload_n 0) 1 75 := ⟨by decide +kernel, rfl⟩
theorem d_R_call_75 : dc b_R_call 75 (.iconst 0) 1 76 := ⟨by decide +kernel, rfl⟩
theorem d_R_call_76 : dc b_R_call 76 (.aload_n 0) 1 77 := ⟨by decide +kernel, rfl⟩
theorem d_R_call_77 : dc b_R_call 77 (.getfield 57) 3 80 := ⟨by decide +kernel, rfl⟩
theorem d_R_call_80 : dc b_R_call 80 (.iconst 3) 1 81 := ⟨by decide +kernel, rfl⟩
theorem d_R_call_81 : dc b_R_call 81 (.iload 10) 2 83 := ⟨by decide +kernel, rfl⟩
theorem d_R_call_83 : dc b_R_call 83 (.imul) 1 84 := ⟨by decide +kernel, rfl⟩
theorem d_R_call_84 : dc b_R_call 84 (.iaload) 1 85 := ⟨by decide +kernel, rfl⟩
theorem d_R_call_85 : dc b_R_call 85 (.lload_n 3) 1 86 := ⟨by decide +kernel, rfl⟩
theorem d_R_call_86 : dc b_R_call 86 (.invokevirtual 259) 3 89 := ⟨by decide +kernel, rfl⟩
theorem d_R_call_89 : db b_R_call 89 (.ifCond .eq 57) 57 146 92 := ⟨by decide +kernel, by decide, rfl⟩
theorem d_R_call_92 : dc b_R_call 92 (.iload 11) 2 94 := ⟨by decide +kernel, rfl⟩
theorem d_R_call_94 : dc b_R_call 94 (.iconst 1) 1 95 := ⟨by decide +kernel, rfl⟩
theorem d_R_call_95 : db b_R_call 95 (.if_icmp .le 24) 24 119 98 := ⟨by decide +kernel, by decide, rfl⟩
theorem d_R_call_98 : dc b_R_call 98 (.aload_n 0) 1 99 := ⟨by decide +kernel, rfl⟩
theorem d_R_call_99 : dc b_R_call 99 (.iconst 1) 1 100 := ⟨by decide +kernel, rfl⟩
theorem d_R_call_100 : dc b_R_call 100 (.aload_n 0) 1 101 := ⟨by decide +kernel, rfl⟩
theorem d_R_call_101 : dc b_R_call 101 (.getfield 57) 3 104 := ⟨by decide +kernel, rfl⟩
theorem d_R_call_104 : dc b_R_call 104 (.iconst 3) 1 105 := ⟨by decide +kernel, rfl⟩
theorem d_R_call_105 : dc b_R_call 105 (.iload 10) 2 107 := ⟨by decide +kernel, rfl⟩
theorem d_R_call_107 : dc b_R_call 107 (.imul) 1 108 := ⟨by decide +kernel, rfl⟩
theorem d_R_call_108 : dc b_R_call 108 (.iconst 1) 1 109 := ⟨by decide +kernel, rfl⟩
theorem d_R_call_109 : dc b_R_call 109 (.iadd) 1 110 := ⟨by decide +kernel, rfl⟩
theorem d_R_call_110 : dc b_R_call 110 (.iaload) 1 111 := ⟨by decide +kernel, rfl⟩
theorem d_R_call_111 : dc b_R_call 111 (.lload 5) 2 113 := ⟨by decide +kernel, rfl⟩
theorem d_R_call_113 : dc b_R_call 113 (.invokevirtual 259) 3 116 := ⟨by decide +kernel, rfl⟩
theorem d_R_call_116 : db b_R_call 116 (.ifCond .eq 30) 30 146 119 := ⟨by decide +kernel, by decide, rfl⟩
theorem d_R_call_119 : dc b_R_call 119 (.iload 11) 2 121 := ⟨by decide +kernel, rfl⟩
theorem d_R_call_121 : dc b_R_call 121 (.iconst 2) 1 122 := ⟨by decide +kernel, rfl⟩
theorem d_R_call_122 : db b_R_call 122 (.if_icmp .le 26) 26 148 125 := ⟨by decide +kernel, by decide, rfl⟩
theorem d_R_call_125 : dc b_R_call 125 (.aload_n 0) 1 126 := ⟨by decide +kernel, rfl⟩
theorem d_R_call_126 : dc b_R_call 126 (.iconst 2) 1 127 := ⟨by decide +kernel, rfl⟩
theorem d_R_call_127 : dc b_R_call 127 (.aload_n 0) 1 128 := ⟨by decide +kernel, rfl⟩
theorem d_R_call_128 : dc b_R_call 128 (.getfield 57) 3 131 := ⟨by decide +kernel, rfl⟩
theorem d_R_call_131 : dc b_R_call 131 (.iconst 3) 1 132 := ⟨by decide +kernel, rfl⟩
theorem d_R_call_132 : dc b_R_call 132 (.iload 10) 2 134 := ⟨by decide +kernel, rfl⟩
theorem d_R_call_134 : dc b_R_call 134 (.imul) 1 135 := ⟨by decide +kernel, rfl⟩
theorem d_R_call_135 : dc b_R_call 135 (.iconst 2) 1 136 := ⟨by decide +kernel, rfl⟩
theorem d_R_call_136 : dc b_R_call 136 (.iadd) 1 137 := ⟨by decide +kernel, rfl⟩
theorem d_R_call_137 : dc b_R_call 137 (.iaload) 1 138 := ⟨by decide +kernel, rfl⟩
theorem d_R_call_138 : dc b_R_call 138 (.lload 7) 2 140 := ⟨by decide +kernel, rfl⟩
theorem d_R_call_140 : dc b_R_call 140 (.invokevirtual 259) 3 143 := ⟨by decide +kernel, rfl⟩
theorem d_R_call_143 : db b_R_call 143 (.ifCond .ne 5) 5 148 146 := ⟨by decide +kernel, by decide, rfl⟩
theorem d_R_call_146 : dc b_R_call 146 (.iconst 0) 1 147 := ⟨by decide +kernel, rfl⟩
theorem d_R_call_147 : dc b_R_call 147 (.ireturn) 1 148 := ⟨by decide +kernel, rfl⟩
theorem d_R_call_148 : dc b_R_call 148 (.aload_n 0) 1 149 := ⟨by decide +kernel, rfl⟩
theorem d_R_call_149 : dc b_R_call 149 (.iconst 0) 1 150 := ⟨by decide +kernel, rfl⟩
theorem d_R_call_150 : dc b_R_call 150 (.putfield 7) 3 153 := ⟨by decide +kernel, rfl⟩
theorem d_R_call_153 : dc b_R_call 153 (.aload_n 0) 1 154 := ⟨by decide +kernel, rfl⟩
theorem d_R_call_154 : dc b_R_call 154 (.getfield 148) 3 157 := ⟨by decide +kernel, rfl⟩
theorem d_R_call_157 : dc b_R_call 157 (.iconst 0) 1 158 := ⟨by decide +kernel, rfl⟩
theorem d_R_call_158 : dc b_R_call 158 (.iload 10) 2 160 := ⟨by decide +kernel, rfl⟩
theorem d_R_call_160 : dc b_R_call 160 (.invokestatic 213) 3 163 := ⟨by decide +kernel, rfl⟩
theorem d_R_call_163 : dc b_R_call 163 (.i2l) 1 164 := ⟨by decide +kernel, rfl⟩
theorem d_R_call_164 : dc b_R_call 164 (.lastore) 1 165 := ⟨by decide +kernel, rfl⟩
theorem d_R_call_165 : dc b_R_call 165 (.aload_n 0) 1 166 := ⟨by decide +kernel, rfl⟩
theorem d_R_call_166 : dc b_R_call 166 (.getfield 148) 3 169 := ⟨by decide +kernel, rfl⟩
theorem d_R_call_169 : dc b_R_call 169 (.iconst 1) 1 170 := ⟨by decide +kernel, rfl⟩
theorem d_R_call_170 : dc b_R_call 170 (.iload 10) 2 172 := ⟨by decide +kernel, rfl⟩
theorem d_R_call_172 : dc b_R_call 172 (.invokestatic 217) 3 175 := ⟨by decide +kernel, rfl⟩
theorem d_R_call_175 : dc b_R_call 175 (.i2l) 1 176 := ⟨by decide +kernel, rfl⟩
theorem d_R_call_176 : dc b_R_call 176 (.lastore) 1 177 := ⟨by decide +kernel, rfl⟩
theorem d_R_call_177 : dc b_R_call 177 (.aload_n 0) 1 178 := ⟨by decide +kernel, rfl⟩
theorem d_R_call_178 : dc b_R_call 178 (.getfield 148) 3 181 := ⟨by decide +kernel, rfl⟩
theorem d_R_call_181 : dc b_R_call 181 (.iconst 2) 1 182 := ⟨by decide +kernel, rfl⟩
theorem d_R_call_182 : dc b_R_call 182 (.iload 11) 2 184 := ⟨by decide +kernel, rfl⟩
theorem d_R_call_184 : dc b_R_call 184 (.i2l) 1 185 := ⟨by decide +kernel, rfl⟩
theorem d_R_call_185 : dc b_R_call 185 (.lastore) 1 186 := ⟨by decide +kernel, rfl⟩
theorem d_R_call_186 : dc b_R_call 186 (.iconst 0) 1 187 := ⟨by decide +kernel, rfl⟩
theorem d_R_call_187 : dc b_R_call 187 (.istore 12) 2 189 := ⟨by decide +kernel, rfl⟩
theorem d_R_call_189 : dc b_R_call 189 (.iload 12) 2 191 := ⟨by decide +kernel, rfl⟩
theorem d_R_call_191 : dc b_R_call 191 (.iconst 3) 1 192 := ⟨by decide +kernel, rfl⟩
theorem d_R_call_192 : db b_R_call 192 (.if_icmp .ge 69) 69 261 195 := ⟨by decide +kernel, by decide, rfl⟩
theorem d_R_call_195 : dc b_R_call 195 (.aload_n 0) 1 196 := ⟨by decide +kernel, rfl⟩
theorem d_R_call_196 : dc b_R_call 196 (.getfield 148) 3 199 := ⟨by decide +kernel, rfl⟩
theorem d_R_call_199 : dc b_R_call 199 (.iconst 3) 1 200 := ⟨by decide +kernel, rfl⟩
theorem d_R_call_200 : dc b_R_call 200 (.iload 12) 2 202 := ⟨by decide +kernel, rfl⟩
theorem d_R_call_202 : dc b_R_call 202 (.iadd) 1 203 := ⟨by decide +kernel, rfl⟩
theorem d_R_call_203 : dc b_R_call 203 (.iload 12) 2 205 := ⟨by decide +kernel, rfl⟩
theorem d_R_call_205 : dc b_R_call 205 (.iload 11) 2 207 := ⟨by decide +kernel, rfl⟩
theorem d_R_call_207 : db b_R_call 207 (.if_icmp .ge 14) 14 221 210 := ⟨by decide +kernel, by decide, rfl⟩
theorem d_R_call_210 : dc b_R_call 210 (.aload_n 0) 1 211 := ⟨by decide +kernel, rfl⟩
theorem d_R_call_211 : dc b_R_call 211 (.getfield 151) 3 214 := ⟨by decide +kernel, rfl⟩
theorem d_R_call_214 : dc b_R_call 214 (.iload 12) 2 216 := ⟨by decide +kernel, rfl⟩
theorem d_R_call_216 : dc b_R_call 216 (.iaload) 1 217 := ⟨by decide +kernel, rfl⟩
theorem d_R_call_217 : dc b_R_call 217 (.i2l) 1 218 := ⟨by decide +kernel, rfl⟩
theorem d_R_call_218 : db b_R_call 218 (.goto 6) 6 224 221 := ⟨by decide +kernel, by decide, rfl⟩
theorem d_R_call_221 : dc b_R_call 221 (.ldc2_w 142) 3 224 := ⟨by decide +kernel, rfl⟩
theorem d_R_call_224 : dc b_R_call 224 (.lastore) 1 225 := ⟨by decide +kernel, rfl⟩
theorem d_R_call_225 : dc b_R_call 225 (.aload_n 0) 1 226 := ⟨by decide +kernel, rfl⟩
theorem d_R_call_226 : dc b_R_call 226 (.getfield 148) 3 229 := ⟨by decide +kernel, rfl⟩
theorem d_R_call_229 : dc b_R_call 229 (.bipush 6) 2 231 := ⟨by decide +kernel, rfl⟩
theorem d_R_call_231 : dc b_R_call 231 (.iload 12) 2 233 := ⟨by decide +kernel, rfl⟩
theorem d_R_call_233 : dc b_R_call 233 (.iadd) 1 234 := ⟨by decide +kernel, rfl⟩
theorem d_R_call_234 : dc b_R_call 234 (.iload 12) 2 236 := ⟨by decide +kernel, rfl⟩
theorem d_R_call_236 : dc b_R_call 236 (.iload 11) 2 238 := ⟨by decide +kernel, rfl⟩
theorem d_R_call_238 : db b_R_call 238 (.if_icmp .ge 13) 13 251 241 := ⟨by decide +kernel, by decide, rfl⟩
theorem d_R_call_241 : dc b_R_call 241 (.aload_n 0) 1 242 := ⟨by decide +kernel, rfl⟩
theorem d_R_call_242 : dc b_R_call 242 (.getfield 154) 3 245 := ⟨by decide +kernel, rfl⟩
theorem d_R_call_245 : dc b_R_call 245 (.iload 12) 2 247 := ⟨by decide +kernel, rfl⟩
theorem d_R_call_247 : dc b_R_call 247 (.laload) 1 248 := ⟨by decide +kernel, rfl⟩
theorem d_R_call_248 : db b_R_call 248 (.goto 6) 6 254 251 := ⟨by decide +kernel, by decide, rfl⟩
theorem d_R_call_251 : dc b_R_call 251 (.ldc2_w 142) 3 254 := ⟨by decide +kernel, rfl⟩
theorem d_R_call_254 : dc b_R_call 254 (.lastore) 1 255 := ⟨by decide +kernel, rfl⟩
theorem d_R_call_255 : dc b_R_call 255 (.iinc 12 1) 3 258 := ⟨by decide +kernel, rfl⟩
theorem d_R_call_258 : db b_R_call 258 (.goto (-69)) (-69) 189 261 := ⟨by decide +kernel, by decide, rfl⟩
theorem d_R_call_261 : dc b_R_call 261 (.aload_n 0) 1 262 := ⟨by decide +kernel, rfl⟩
theorem d_R_call_262 : dc b_R_call 262 (.iload_n 1) 1 263 := ⟨by decide +kernel, rfl⟩
theorem d_R_call_263 : dc b_R_call 263 (.iload 9) 2 265 := ⟨by decide +kernel, rfl⟩
theorem d_R_call_265 : dc b_R_call 265 (.invokevirtual 263) 3 268 := ⟨by decide +kernel, rfl⟩
theorem d_R_call_268 : dc b_R_call 268 (.ireturn) 1 269 := ⟨by decide +kernel, rfl⟩
def f_R_call_J254 (S : gS) (o : Nat) (kx261 : gD → Int32 → Int32 → Option (Int32 × gD)) (kb : gD → Int32 → Int32 → Int32 → Int32 → Option (Int32 × gD)) (d : gD) (v1 : Int32) (v9 : Int32) (v11 : Int32) (v12 : Int32) (u0 : Option Nat) (u1 : Int32) (u2 : Int64) : Option (Int32 × gD) :=
  nn u0 fun a1 =>
  kd S a1 51 <|
  gi u1 (sN S a1) <|
  lt_ (wL d a1 u1.toNatClampNeg u2) fun d4 =>
  kb d4 v1 v9 v11 (v12 + 1)
set_option maxRecDepth 100000 in
set_option maxHeartbeats 4000000 in
theorem w_R_call_J254 {X : GX} (hE : gE X b_R_call 13 "StandInMillModel" (some (.int)) "call" 6 145) {S : gS} {o : Nat} {r : Int32} {d' : gD} {kb : gD → Int32 → Int32 → Int32 → Int32 → Option (Int32 × gD)} {kx261 : gD → Int32 → Int32 → Option (Int32 × gD)} (hkb : ∀ (d : gD) (v1 : Int32) (v9 : Int32) (v11 : Int32) (v12 : Int32), kb d v1 v9 v11 v12 = some (r, d') → gw X 0 0 (gQ X (some (.int r)) S d' 0 0) S d 189 [some (va_rf (some o)), some (.int v1), none, none, none, none, none, none, none, some (.int v9), none, some (.int v11), some (.int v12)] []) (hkx261 : ∀ (d : gD) (v1 : Int32) (v9 : Int32), kx261 d v1 v9 = some (r, d') → gw X 0 0 (gQ X (some (.int r)) S d' 0 0) S d 261 [some (va_rf (some o)), some (.int v1), none, none, none, none, none, none, none, some (.int v9), none, none, none] []) :
    ∀ (d : gD) (v1 : Int32) (v9 : Int32) (v11 : Int32) (v12 : Int32) (u0 : Option Nat) (u1 : Int32) (u2 : Int64), f_R_call_J254 S o kx261 kb d v1 v9 v11 v12 u0 u1 u2 = some (r, d') → gw X 0 0 (gQ X (some (.int r)) S d' 0 0) S d 254 [some (va_rf (some o)), some (.int v1), none, none, none, none, none, none, none, some (.int v9), none, some (.int v11), some (.int v12)] [.long u2, .int u1, va_rf u0] := by
  intro d v1 v9 v11 v12 u0 u1 u2 h
  unfold f_R_call_J254 at h
  obtain ⟨a1, rfl, h⟩ := nn_s h
  obtain ⟨k2, h⟩ := kd_s h
  obtain ⟨g3, h⟩ := gi_s h
  refine g_last hE k2 g3 d_R_call_254 (fun d4 e => ?_)
  replace h := lt_i e h; clear e
  refine g_iinc (i := 12) (lv' := [some (va_rf (some o)), some (.int v1), none, none, none, none, none, none, none, some (.int v9), none, some (.int v11), some (.int (v12 + 1))]) hE d_R_call_255 ki_1 rfl (Nat.le_of_ble_eq_true rfl) ⟨rfl, Nat.le_of_ble_eq_true rfl⟩ (lvp_i rfl) ?_
  refine g_goto hE d_R_call_258 ?_
  exact gw.less (lv' := [some (va_rf (some o)), some (.int v1), none, none, none, none, none, none, none, some (.int v9), none, some (.int v11), some (.int (v12 + 1))]) (And.intro rfl (And.intro rfl (And.intro rfl (And.intro rfl (And.intro rfl trivial))))) (hkb d4 v1 v9 v11 (v12 + 1) h)
def f_R_call_J224 (S : gS) (o : Nat) (kx261 : gD → Int32 → Int32 → Option (Int32 × gD)) (kb : gD → Int32 → Int32 → Int32 → Int32 → Option (Int32 × gD)) (d : gD) (v1 : Int32) (v9 : Int32) (v11 : Int32) (v12 : Int32) (u0 : Option Nat) (u1 : Int32) (u2 : Int64) : Option (Int32 × gD) :=
  nn u0 fun a1 =>
  kd S a1 51 <|
  gi u1 (sN S a1) <|
  lt_ (wL d a1 u1.toNatClampNeg u2) fun d4 =>
  kd S o 10 <|
  lt_ (sP S o 44) fun x6 =>
  if v11 ≤ v12 then (
    f_R_call_J254 S o kx261 kb d4 v1 v9 v11 v12 x6 (6 + v12) (-1))
  else (
    lt_ (sP S o 46) fun x7 =>
    nn x7 fun a8 =>
    kd S a8 51 <|
    gi v12 (sN S a8) <|
    lt_ (dL d4 a8 v12.toNatClampNeg) fun x11 =>
    f_R_call_J254 S o kx261 kb d4 v1 v9 v11 v12 x6 (6 + v12) x11)
set_option maxRecDepth 100000 in
set_option maxHeartbeats 4000000 in
theorem w_R_call_J224 {X : GX} (hE : gE X b_R_call 13 "StandInMillModel" (some (.int)) "call" 6 145) {S : gS} {o : Nat} {r : Int32} {d' : gD} {kb : gD → Int32 → Int32 → Int32 → Int32 → Option (Int32 × gD)} {kx261 : gD → Int32 → Int32 → Option (Int32 × gD)} (hkb : ∀ (d : gD) (v1 : Int32) (v9 : Int32) (v11 : Int32) (v12 : Int32), kb d v1 v9 v11 v12 = some (r, d') → gw X 0 0 (gQ X (some (.int r)) S d' 0 0) S d 189 [some (va_rf (some o)), some (.int v1), none, none, none, none, none, none, none, some (.int v9), none, some (.int v11), some (.int v12)] []) (hkx261 : ∀ (d : gD) (v1 : Int32) (v9 : Int32), kx261 d v1 v9 = some (r, d') → gw X 0 0 (gQ X (some (.int r)) S d' 0 0) S d 261 [some (va_rf (some o)), some (.int v1), none, none, none, none, none, none, none, some (.int v9), none, none, none] []) :
    ∀ (d : gD) (v1 : Int32) (v9 : Int32) (v11 : Int32) (v12 : Int32) (u0 : Option Nat) (u1 : Int32) (u2 : Int64), f_R_call_J224 S o kx261 kb d v1 v9 v11 v12 u0 u1 u2 = some (r, d') → gw X 0 0 (gQ X (some (.int r)) S d' 0 0) S d 224 [some (va_rf (some o)), some (.int v1), none, none, none, none, none, none, none, some (.int v9), none, some (.int v11), some (.int v12)] [.long u2, .int u1, va_rf u0] := by
  intro d v1 v9 v11 v12 u0 u1 u2 h
  unfold f_R_call_J224 at h
  obtain ⟨a1, rfl, h⟩ := nn_s h
  obtain ⟨k2, h⟩ := kd_s h
  obtain ⟨g3, h⟩ := gi_s h
  refine g_last hE k2 g3 d_R_call_224 (fun d4 e => ?_)
  replace h := lt_i e h; clear e
  refine g_aload_n (i := 0) hE d_R_call_225 rfl rfl ?_
  obtain ⟨k5, h⟩ := kd_s h
  refine g_getR 44 hE kc_R k5 (Nat.le_of_ble_eq_true rfl) rfl m_422 d_R_call_226 (fun x6 e => ?_)
  replace h := lt_i e h; clear e
  refine g_bipush hE d_R_call_229 kb_6 ?_
  refine g_iload (i := 12) hE d_R_call_231 rfl ?_
  refine g_iadd hE d_R_call_233 ?_
  refine g_iload (i := 12) hE d_R_call_234 rfl ?_
  refine g_iload (i := 11) hE d_R_call_236 rfl ?_
  refine g_icmp_ge hE d_R_call_238 (fun c12 => ?_) (fun c12 => ?_)
  · replace h := if_t c12 h
    refine g_ldc2 hE d_R_call_251 m_420 ?_
    exact gw.less (lv' := [some (va_rf (some o)), some (.int v1), none, none, none, none, none, none, none, some (.int v9), none, some (.int v11), some (.int v12)]) (And.intro rfl (And.intro rfl (And.intro rfl (And.intro rfl (And.intro rfl trivial))))) (w_R_call_J254 hE hkb hkx261 d4 v1 v9 v11 v12 x6 (6 + v12) (-1) h)
  · replace h := if_f c12 h
    refine g_aload_n (i := 0) hE d_R_call_241 rfl rfl ?_
    refine g_getR 46 hE kc_R k5 (Nat.le_of_ble_eq_true rfl) rfl m_424 d_R_call_242 (fun x7 e => ?_)
    replace h := lt_i e h; clear e
    refine g_iload (i := 12) hE d_R_call_245 rfl ?_
    obtain ⟨a8, rfl, h⟩ := nn_s h
    obtain ⟨k9, h⟩ := kd_s h
    obtain ⟨g10, h⟩ := gi_s h
    refine g_lald hE k9 g10 d_R_call_247 (fun x11 e => ?_)
    replace h := lt_i e h; clear e
    refine g_goto hE d_R_call_248 ?_
    exact gw.less (lv' := [some (va_rf (some o)), some (.int v1), none, none, none, none, none, none, none, some (.int v9), none, some (.int v11), some (.int v12)]) (And.intro rfl (And.intro rfl (And.intro rfl (And.intro rfl (And.intro rfl trivial))))) (w_R_call_J254 hE hkb hkx261 d4 v1 v9 v11 v12 x6 (6 + v12) x11 h)
def f_R_call_B189 (S : gS) (o : Nat) (kx261 : gD → Int32 → Int32 → Option (Int32 × gD)) (kb : gD → Int32 → Int32 → Int32 → Int32 → Option (Int32 × gD)) (d : gD) (v1 : Int32) (v9 : Int32) (v11 : Int32) (v12 : Int32) : Option (Int32 × gD) :=
  if 3 ≤ v12 then (
    kx261 d v1 v9)
  else (
    kd S o 10 <|
    lt_ (sP S o 44) fun x2 =>
    if v11 ≤ v12 then (
      f_R_call_J224 S o kx261 kb d v1 v9 v11 v12 x2 (3 + v12) (-1))
    else (
      lt_ (sP S o 45) fun x3 =>
      nn x3 fun a4 =>
      kd S a4 50 <|
      gi v12 (sN S a4) <|
      lt_ (dI d a4 v12.toNatClampNeg) fun x7 =>
      f_R_call_J224 S o kx261 kb d v1 v9 v11 v12 x2 (3 + v12) (Int32.toInt64 x7)))
set_option maxRecDepth 100000 in
set_option maxHeartbeats 4000000 in
theorem w_R_call_B189 {X : GX} (hE : gE X b_R_call 13 "StandInMillModel" (some (.int)) "call" 6 145) {S : gS} {o : Nat} {r : Int32} {d' : gD} {kb : gD → Int32 → Int32 → Int32 → Int32 → Option (Int32 × gD)} {kx261 : gD → Int32 → Int32 → Option (Int32 × gD)} (hkb : ∀ (d : gD) (v1 : Int32) (v9 : Int32) (v11 : Int32) (v12 : Int32), kb d v1 v9 v11 v12 = some (r, d') → gw X 0 0 (gQ X (some (.int r)) S d' 0 0) S d 189 [some (va_rf (some o)), some (.int v1), none, none, none, none, none, none, none, some (.int v9), none, some (.int v11), some (.int v12)] []) (hkx261 : ∀ (d : gD) (v1 : Int32) (v9 : Int32), kx261 d v1 v9 = some (r, d') → gw X 0 0 (gQ X (some (.int r)) S d' 0 0) S d 261 [some (va_rf (some o)), some (.int v1), none, none, none, none, none, none, none, some (.int v9), none, none, none] []) :
    ∀ (d : gD) (v1 : Int32) (v9 : Int32) (v11 : Int32) (v12 : Int32), f_R_call_B189 S o kx261 kb d v1 v9 v11 v12 = some (r, d') → gw X 0 0 (gQ X (some (.int r)) S d' 0 0) S d 189 [some (va_rf (some o)), some (.int v1), none, none, none, none, none, none, none, some (.int v9), none, some (.int v11), some (.int v12)] [] := by
  intro d v1 v9 v11 v12 h
  unfold f_R_call_B189 at h
  refine g_iload (i := 12) hE d_R_call_189 rfl ?_
  refine g_iconst hE d_R_call_191 ki_3 ?_
  refine g_icmp_ge hE d_R_call_192 (fun c9 => ?_) (fun c9 => ?_)
  · replace h := if_t c9 h
    exact gw.less (lv' := [some (va_rf (some o)), some (.int v1), none, none, none, none, none, none, none, some (.int v9), none, none, none]) (And.intro rfl (And.intro rfl (And.intro rfl trivial))) (hkx261 d v1 v9 h)
  · replace h := if_f c9 h
    refine g_aload_n (i := 0) hE d_R_call_195 rfl rfl ?_
    obtain ⟨k1, h⟩ := kd_s h
    refine g_getR 44 hE kc_R k1 (Nat.le_of_ble_eq_true rfl) rfl m_422 d_R_call_196 (fun x2 e => ?_)
    replace h := lt_i e h; clear e
    refine g_iconst hE d_R_call_199 ki_3 ?_
    refine g_iload (i := 12) hE d_R_call_200 rfl ?_
    refine g_iadd hE d_R_call_202 ?_
    refine g_iload (i := 12) hE d_R_call_203 rfl ?_
    refine g_iload (i := 11) hE d_R_call_205 rfl ?_
    refine g_icmp_ge hE d_R_call_207 (fun c8 => ?_) (fun c8 => ?_)
    · replace h := if_t c8 h
      refine g_ldc2 hE d_R_call_221 m_420 ?_
      exact gw.less (lv' := [some (va_rf (some o)), some (.int v1), none, none, none, none, none, none, none, some (.int v9), none, some (.int v11), some (.int v12)]) (And.intro rfl (And.intro rfl (And.intro rfl (And.intro rfl (And.intro rfl trivial))))) (w_R_call_J224 hE hkb hkx261 d v1 v9 v11 v12 x2 (3 + v12) (-1) h)
    · replace h := if_f c8 h
      refine g_aload_n (i := 0) hE d_R_call_210 rfl rfl ?_
      refine g_getR 45 hE kc_R k1 (Nat.le_of_ble_eq_true rfl) rfl m_423 d_R_call_211 (fun x3 e => ?_)
      replace h := lt_i e h; clear e
      refine g_iload (i := 12) hE d_R_call_214 rfl ?_
      obtain ⟨a4, rfl, h⟩ := nn_s h
      obtain ⟨k5, h⟩ := kd_s h
      obtain ⟨g6, h⟩ := gi_s h
      refine g_iald hE k5 g6 d_R_call_216 (fun x7 e => ?_)
      replace h := lt_i e h; clear e
      refine g_i2l hE d_R_call_217 ?_
      refine g_goto hE d_R_call_218 ?_
      exact gw.less (lv' := [some (va_rf (some o)), some (.int v1), none, none, none, none, none, none, none, some (.int v9), none, some (.int v11), some (.int v12)]) (And.intro rfl (And.intro rfl (And.intro rfl (And.intro rfl (And.intro rfl trivial))))) (w_R_call_J224 hE hkb hkx261 d v1 v9 v11 v12 x2 (3 + v12) (Int32.toInt64 x7) h)
theorem w_R_call_L189 {X : GX} (hE : gE X b_R_call 13 "StandInMillModel" (some (.int)) "call" 6 145) {S : gS} {o : Nat} {r : Int32} {d' : gD} {kx261 : gD → Int32 → Int32 → Option (Int32 × gD)} (hkx261 : ∀ (d : gD) (v1 : Int32) (v9 : Int32), kx261 d v1 v9 = some (r, d') → gw X 0 0 (gQ X (some (.int r)) S d' 0 0) S d 261 [some (va_rf (some o)), some (.int v1), none, none, none, none, none, none, none, some (.int v9), none, none, none] []) : ∀ (n : Nat) (d : gD) (v1 : Int32) (v9 : Int32) (v11 : Int32) (v12 : Int32), itr (f_R_call_B189 S o kx261) (fun _ _ _ _ _ => none) n d v1 v9 v11 v12 = some (r, d') → gw X 0 0 (gQ X (some (.int r)) S d' 0 0) S d 189 [some (va_rf (some o)), some (.int v1), none, none, none, none, none, none, none, some (.int v9), none, some (.int v11), some (.int v12)] [] := by
  intro n
  induction n with
  | zero => intro d v1 v9 v11 v12 h; cases h
  | succ n ih => exact w_R_call_B189 hE ih hkx261
def f_R_call_J261 (S : gS) (o : Nat) (d : gD) (v1 : Int32) (v9 : Int32) : Option (Int32 × gD) :=
  kd S o 10 <|
  bdD (f_R_fit S d o v1 v9) fun x2 d4 =>
  some (x2, d4)
set_option maxRecDepth 100000 in
set_option maxHeartbeats 4000000 in
theorem w_R_call_J261 {X : GX} (hE : gE X b_R_call 13 "StandInMillModel" (some (.int)) "call" 6 145) {S : gS} {o : Nat} {r : Int32} {d' : gD} :
    ∀ (d : gD) (v1 : Int32) (v9 : Int32), f_R_call_J261 S o d v1 v9 = some (r, d') → gw X 0 0 (gQ X (some (.int r)) S d' 0 0) S d 261 [some (va_rf (some o)), some (.int v1), none, none, none, none, none, none, none, some (.int v9), none, none, none] [] := by
  intro d v1 v9 h
  unfold f_R_call_J261 at h
  refine g_aload_n (i := 0) hE d_R_call_261 rfl rfl ?_
  refine g_iload_n (i := 1) hE d_R_call_262 rfl rfl ?_
  refine g_iload (i := 9) hE d_R_call_263 rfl ?_
  obtain ⟨k1, h⟩ := kd_s h
  obtain ⟨x2, d4, e3, h⟩ := bdD_s h
  refine g_callV (av := [.inr (.inr (some o)), .inl v1, .inl v9]) (as := [.inl v1, .inl v9]) (stk := [.int x2]) [] hE (c_R_fit (xl X) (xG X) e3) ky_R_fit ⟨Nat.le_of_ble_eq_true rfl, Nat.le_of_ble_eq_true rfl⟩ rfl kc_R k1 m_513 m_514 m_515 rfl d_R_call_265 rfl rfl ct_0 (Nat.zero_le _) (Nat.zero_le _) ?_
  refine gw.cs (c2 := 0) (s2 := 0) rfl rfl ?_
  cases h
  exact g_iret hE d_R_call_268 rfl rfl
def f_R_call_J148 (S : gS) (o : Nat) (d : gD) (v1 : Int32) (v9 : Int32) (v10 : Int32) (v11 : Int32) : Option (Int32 × gD) :=
  kd S o 10 <|
  lt_ (wI d o 0 0) fun d2 =>
  lt_ (sP S o 44) fun x3 =>
  bd (f_R_owner S d2 v10) fun x4 =>
  nn x3 fun a6 =>
  kd S a6 51 <|
  gi 0 (sN S a6) <|
  lt_ (wL d2 a6 (0 : Int32).toNatClampNeg (Int32.toInt64 x4)) fun d9 =>
  lt_ (sP S o 44) fun x10 =>
  bd (f_R_numberOf S d9 v10) fun x11 =>
  nn x10 fun a13 =>
  kd S a13 51 <|
  gi 1 (sN S a13) <|
  lt_ (wL d9 a13 (1 : Int32).toNatClampNeg (Int32.toInt64 x11)) fun d16 =>
  lt_ (sP S o 44) fun x17 =>
  nn x17 fun a18 =>
  kd S a18 51 <|
  gi 2 (sN S a18) <|
  lt_ (wL d16 a18 (2 : Int32).toNatClampNeg (Int32.toInt64 v11)) fun d21 =>
  itr (f_R_call_B189 S o (f_R_call_J261 S o)) (fun _ _ _ _ _ => none) fu d21 v1 v9 v11 0
set_option maxRecDepth 100000 in
set_option maxHeartbeats 4000000 in
theorem w_R_call_J148 {X : GX} (hE : gE X b_R_call 13 "StandInMillModel" (some (.int)) "call" 6 145) {S : gS} {o : Nat} {r : Int32} {d' : gD} :
    ∀ (d : gD) (v1 : Int32) (v9 : Int32) (v10 : Int32) (v11 : Int32), f_R_call_J148 S o d v1 v9 v10 v11 = some (r, d') → gw X 0 0 (gQ X (some (.int r)) S d' 0 0) S d 148 [some (va_rf (some o)), some (.int v1), none, none, none, none, none, none, none, some (.int v9), some (.int v10), some (.int v11), none] [] := by
  intro d v1 v9 v10 v11 h
  unfold f_R_call_J148 at h
  refine g_aload_n (i := 0) hE d_R_call_148 rfl rfl ?_
  refine g_iconst hE d_R_call_149 ki_0 ?_
  obtain ⟨k1, h⟩ := kd_s h
  refine g_putI 0 hE kc_R k1 (Nat.le_of_ble_eq_true rfl) rfl m_376 rfl (by decide +kernel) d_R_call_150 (fun d2 e => ?_)
  replace h := lt_i e h; clear e
  refine g_aload_n (i := 0) hE d_R_call_153 rfl rfl ?_
  refine g_getR 44 hE kc_R k1 (Nat.le_of_ble_eq_true rfl) rfl m_422 d_R_call_154 (fun x3 e => ?_)
  replace h := lt_i e h; clear e
  refine g_iconst hE d_R_call_157 ki_0 ?_
  refine g_iload (i := 10) hE d_R_call_158 rfl ?_
  obtain ⟨x4, e5, h⟩ := bd_s h
  refine g_callS (av := [.inl v10]) (stk := [.int x4, .int 0, va_rf x3]) [.int 0, va_rf x3] hE (c_R_owner (xl X) (xG X) e5) ky_R_owner ⟨Nat.le_of_ble_eq_true rfl, Nat.le_of_ble_eq_true rfl⟩ m_474 m_475 rfl d_R_call_160 rfl rfl (Nat.le_trans (ct_i (ct_r ct_n)) (Nat.le_of_ble_eq_true rfl)) (Nat.zero_le _) (Nat.zero_le _) ?_
  refine gw.cs (c2 := 0) (s2 := 0) rfl rfl ?_
  refine g_i2l hE d_R_call_163 ?_
  obtain ⟨a6, rfl, h⟩ := nn_s h
  obtain ⟨k7, h⟩ := kd_s h
  obtain ⟨g8, h⟩ := gi_s h
  refine g_last hE k7 g8 d_R_call_164 (fun d9 e => ?_)
  replace h := lt_i e h; clear e
  refine g_aload_n (i := 0) hE d_R_call_165 rfl rfl ?_
  refine g_getR 44 hE kc_R k1 (Nat.le_of_ble_eq_true rfl) rfl m_422 d_R_call_166 (fun x10 e => ?_)
  replace h := lt_i e h; clear e
  refine g_iconst hE d_R_call_169 ki_1 ?_
  refine g_iload (i := 10) hE d_R_call_170 rfl ?_
  obtain ⟨x11, e12, h⟩ := bd_s h
  refine g_callS (av := [.inl v10]) (stk := [.int x11, .int 1, va_rf x10]) [.int 1, va_rf x10] hE (c_R_numberOf (xl X) (xG X) e12) ky_R_numberOf ⟨Nat.le_of_ble_eq_true rfl, Nat.le_of_ble_eq_true rfl⟩ m_476 m_477 rfl d_R_call_172 rfl rfl (Nat.le_trans (ct_i (ct_r ct_n)) (Nat.le_of_ble_eq_true rfl)) (Nat.zero_le _) (Nat.zero_le _) ?_
  refine gw.cs (c2 := 0) (s2 := 0) rfl rfl ?_
  refine g_i2l hE d_R_call_175 ?_
  obtain ⟨a13, rfl, h⟩ := nn_s h
  obtain ⟨k14, h⟩ := kd_s h
  obtain ⟨g15, h⟩ := gi_s h
  refine g_last hE k14 g15 d_R_call_176 (fun d16 e => ?_)
  replace h := lt_i e h; clear e
  refine g_aload_n (i := 0) hE d_R_call_177 rfl rfl ?_
  refine g_getR 44 hE kc_R k1 (Nat.le_of_ble_eq_true rfl) rfl m_422 d_R_call_178 (fun x17 e => ?_)
  replace h := lt_i e h; clear e
  refine g_iconst hE d_R_call_181 ki_2 ?_
  refine g_iload (i := 11) hE d_R_call_182 rfl ?_
  refine g_i2l hE d_R_call_184 ?_
  obtain ⟨a18, rfl, h⟩ := nn_s h
  obtain ⟨k19, h⟩ := kd_s h
  obtain ⟨g20, h⟩ := gi_s h
  refine g_last hE k19 g20 d_R_call_185 (fun d21 e => ?_)
  replace h := lt_i e h; clear e
  refine g_iconst hE d_R_call_186 ki_0 ?_
  refine g_istore (i := 12) (lv' := [some (va_rf (some o)), some (.int v1), none, none, none, none, none, none, none, some (.int v9), some (.int v10), some (.int v11), some (.int 0)]) hE d_R_call_187 (Nat.le_of_ble_eq_true rfl) ⟨rfl, Nat.le_of_ble_eq_true rfl⟩ (lvp_i rfl) ?_
  exact gw.less (lv' := [some (va_rf (some o)), some (.int v1), none, none, none, none, none, none, none, some (.int v9), none, some (.int v11), some (.int 0)]) (And.intro rfl (And.intro rfl (And.intro rfl (And.intro rfl (And.intro rfl trivial))))) (w_R_call_L189 hE (w_R_call_J261 hE) fu d21 v1 v9 v11 0 h)
def f_R_call_J119 (S : gS) (o : Nat) (d : gD) (v1 : Int32) (v7 : Int64) (v9 : Int32) (v10 : Int32) (v11 : Int32) : Option (Int32 × gD) :=
  if v11 ≤ 2 then (
    f_R_call_J148 S o d v1 v9 v10 v11)
  else (
    kd S o 10 <|
    lt_ (sP S o 15) fun x2 =>
    nn x2 fun a3 =>
    kd S a3 50 <|
    gi ((3 * v10) + 2) (sN S a3) <|
    lt_ (dI d a3 ((3 * v10) + 2 : Int32).toNatClampNeg) fun x6 =>
    bdD (f_R_takesAs S d o 2 x6 v7) fun x7 d9 =>
    if x7 = 0 then (
      some (0, d9))
    else (
      f_R_call_J148 S o d9 v1 v9 v10 v11))
set_option maxRecDepth 100000 in
set_option maxHeartbeats 4000000 in
theorem w_R_call_J119 {X : GX} (hE : gE X b_R_call 13 "StandInMillModel" (some (.int)) "call" 6 145) {S : gS} {o : Nat} {r : Int32} {d' : gD} :
    ∀ (d : gD) (v1 : Int32) (v7 : Int64) (v9 : Int32) (v10 : Int32) (v11 : Int32), f_R_call_J119 S o d v1 v7 v9 v10 v11 = some (r, d') → gw X 0 0 (gQ X (some (.int r)) S d' 0 0) S d 119 [some (va_rf (some o)), some (.int v1), none, none, none, none, none, some (.long v7), none, some (.int v9), some (.int v10), some (.int v11), none] [] := by
  intro d v1 v7 v9 v10 v11 h
  unfold f_R_call_J119 at h
  refine g_iload (i := 11) hE d_R_call_119 rfl ?_
  refine g_iconst hE d_R_call_121 ki_2 ?_
  refine g_icmp_le hE d_R_call_122 (fun c11 => ?_) (fun c11 => ?_)
  · replace h := if_t c11 h
    exact gw.less (lv' := [some (va_rf (some o)), some (.int v1), none, none, none, none, none, none, none, some (.int v9), some (.int v10), some (.int v11), none]) (And.intro rfl (And.intro rfl (And.intro rfl (And.intro rfl (And.intro rfl trivial))))) (w_R_call_J148 hE d v1 v9 v10 v11 h)
  · replace h := if_f c11 h
    refine g_aload_n (i := 0) hE d_R_call_125 rfl rfl ?_
    refine g_iconst hE d_R_call_126 ki_2 ?_
    refine g_aload_n (i := 0) hE d_R_call_127 rfl rfl ?_
    obtain ⟨k1, h⟩ := kd_s h
    refine g_getR 15 hE kc_R k1 (Nat.le_of_ble_eq_true rfl) rfl m_392 d_R_call_128 (fun x2 e => ?_)
    replace h := lt_i e h; clear e
    refine g_iconst hE d_R_call_131 ki_3 ?_
    refine g_iload (i := 10) hE d_R_call_132 rfl ?_
    refine g_imul hE d_R_call_134 ?_
    refine g_iconst hE d_R_call_135 ki_2 ?_
    refine g_iadd hE d_R_call_136 ?_
    obtain ⟨a3, rfl, h⟩ := nn_s h
    obtain ⟨k4, h⟩ := kd_s h
    obtain ⟨g5, h⟩ := gi_s h
    refine g_iald hE k4 g5 d_R_call_137 (fun x6 e => ?_)
    replace h := lt_i e h; clear e
    refine g_lload (i := 7) hE d_R_call_138 rfl ?_
    obtain ⟨x7, d9, e8, h⟩ := bdD_s h
    refine g_callV (av := [.inr (.inr (some o)), .inl 2, .inl x6, .inr (.inl v7)]) (as := [.inl 2, .inl x6, .inr (.inl v7)]) (stk := [.int x7]) [] hE (c_R_takesAs (xl X) (xG X) e8) ky_R_takesAs ⟨Nat.le_of_ble_eq_true rfl, Nat.le_of_ble_eq_true rfl⟩ rfl kc_R k1 m_516 m_517 m_518 rfl d_R_call_140 rfl rfl ct_0 (Nat.zero_le _) (Nat.zero_le _) ?_
    refine gw.cs (c2 := 0) (s2 := 0) rfl rfl ?_
    refine g_if_ne hE d_R_call_143 (fun c10 => ?_) (fun c10 => ?_)
    · replace h := if_f c10 h
      exact gw.less (lv' := [some (va_rf (some o)), some (.int v1), none, none, none, none, none, none, none, some (.int v9), some (.int v10), some (.int v11), none]) (And.intro rfl (And.intro rfl (And.intro rfl (And.intro rfl (And.intro rfl trivial))))) (w_R_call_J148 hE d9 v1 v9 v10 v11 h)
    · replace h := if_t c10 h
      refine g_iconst hE d_R_call_146 ki_0 ?_
      cases h
      exact g_iret hE d_R_call_147 rfl rfl
def f_R_call_J92 (S : gS) (o : Nat) (d : gD) (v1 : Int32) (v5 : Int64) (v7 : Int64) (v9 : Int32) (v10 : Int32) (v11 : Int32) : Option (Int32 × gD) :=
  if v11 ≤ 1 then (
    f_R_call_J119 S o d v1 v7 v9 v10 v11)
  else (
    kd S o 10 <|
    lt_ (sP S o 15) fun x2 =>
    nn x2 fun a3 =>
    kd S a3 50 <|
    gi ((3 * v10) + 1) (sN S a3) <|
    lt_ (dI d a3 ((3 * v10) + 1 : Int32).toNatClampNeg) fun x6 =>
    bdD (f_R_takesAs S d o 1 x6 v5) fun x7 d9 =>
    if x7 = 0 then (
      some (0, d9))
    else (
      f_R_call_J119 S o d9 v1 v7 v9 v10 v11))
set_option maxRecDepth 100000 in
set_option maxHeartbeats 4000000 in
theorem w_R_call_J92 {X : GX} (hE : gE X b_R_call 13 "StandInMillModel" (some (.int)) "call" 6 145) {S : gS} {o : Nat} {r : Int32} {d' : gD} :
    ∀ (d : gD) (v1 : Int32) (v5 : Int64) (v7 : Int64) (v9 : Int32) (v10 : Int32) (v11 : Int32), f_R_call_J92 S o d v1 v5 v7 v9 v10 v11 = some (r, d') → gw X 0 0 (gQ X (some (.int r)) S d' 0 0) S d 92 [some (va_rf (some o)), some (.int v1), none, none, none, some (.long v5), none, some (.long v7), none, some (.int v9), some (.int v10), some (.int v11), none] [] := by
  intro d v1 v5 v7 v9 v10 v11 h
  unfold f_R_call_J92 at h
  refine g_iload (i := 11) hE d_R_call_92 rfl ?_
  refine g_iconst hE d_R_call_94 ki_1 ?_
  refine g_icmp_le hE d_R_call_95 (fun c11 => ?_) (fun c11 => ?_)
  · replace h := if_t c11 h
    exact gw.less (lv' := [some (va_rf (some o)), some (.int v1), none, none, none, none, none, some (.long v7), none, some (.int v9), some (.int v10), some (.int v11), none]) (And.intro rfl (And.intro rfl (And.intro rfl (And.intro rfl (And.intro rfl (And.intro rfl trivial)))))) (w_R_call_J119 hE d v1 v7 v9 v10 v11 h)
  · replace h := if_f c11 h
    refine g_aload_n (i := 0) hE d_R_call_98 rfl rfl ?_
    refine g_iconst hE d_R_call_99 ki_1 ?_
    refine g_aload_n (i := 0) hE d_R_call_100 rfl rfl ?_
    obtain ⟨k1, h⟩ := kd_s h
    refine g_getR 15 hE kc_R k1 (Nat.le_of_ble_eq_true rfl) rfl m_392 d_R_call_101 (fun x2 e => ?_)
    replace h := lt_i e h; clear e
    refine g_iconst hE d_R_call_104 ki_3 ?_
    refine g_iload (i := 10) hE d_R_call_105 rfl ?_
    refine g_imul hE d_R_call_107 ?_
    refine g_iconst hE d_R_call_108 ki_1 ?_
    refine g_iadd hE d_R_call_109 ?_
    obtain ⟨a3, rfl, h⟩ := nn_s h
    obtain ⟨k4, h⟩ := kd_s h
    obtain ⟨g5, h⟩ := gi_s h
    refine g_iald hE k4 g5 d_R_call_110 (fun x6 e => ?_)
    replace h := lt_i e h; clear e
    refine g_lload (i := 5) hE d_R_call_111 rfl ?_
    obtain ⟨x7, d9, e8, h⟩ := bdD_s h
    refine g_callV (av := [.inr (.inr (some o)), .inl 1, .inl x6, .inr (.inl v5)]) (as := [.inl 1, .inl x6, .inr (.inl v5)]) (stk := [.int x7]) [] hE (c_R_takesAs (xl X) (xG X) e8) ky_R_takesAs ⟨Nat.le_of_ble_eq_true rfl, Nat.le_of_ble_eq_true rfl⟩ rfl kc_R k1 m_516 m_517 m_518 rfl d_R_call_113 rfl rfl ct_0 (Nat.zero_le _) (Nat.zero_le _) ?_
    refine gw.cs (c2 := 0) (s2 := 0) rfl rfl ?_
    refine g_if_eq hE d_R_call_116 (fun c10 => ?_) (fun c10 => ?_)
    · replace h := if_t c10 h
      refine g_iconst hE d_R_call_146 ki_0 ?_
      cases h
      exact g_iret hE d_R_call_147 rfl rfl
    · replace h := if_f c10 h
      exact gw.less (lv' := [some (va_rf (some o)), some (.int v1), none, none, none, none, none, some (.long v7), none, some (.int v9), some (.int v10), some (.int v11), none]) (And.intro rfl (And.intro rfl (And.intro rfl (And.intro rfl (And.intro rfl (And.intro rfl trivial)))))) (w_R_call_J119 hE d9 v1 v7 v9 v10 v11 h)
set_option maxRecDepth 100000 in
def f_R_call (S : gS) (d : gD) (o : Nat) (v1 : Int32) (v2 : Int32) (v3 : Int64) (v5 : Int64) (v7 : Int64) : Option (Int32 × gD) :=
  kd S o 10 <|
  lt_ (wI d o 0 1) fun d2 =>
  bd (f_R_isStand S d2 o v1) fun x3 =>
  if x3 = 0 then (
    some (0, d2))
  else (
    lt_ (sP S o 23) fun x5 =>
    nn x5 fun a6 =>
    kd S a6 50 <|
    gi v1 (sN S a6) <|
    lt_ (dI d2 a6 v1.toNatClampNeg) fun x9 =>
    bdD (f_R_describe S d2 o x9) fun _ d12 =>
    if v2 < 0 then (
      some (0, d12))
    else (
      lt_ (dI d12 o 31) fun x13 =>
      if v2 < x13 then (
        lt_ (sP S o 36) fun x14 =>
        nn x14 fun a15 =>
        kd S a15 50 <|
        gi v2 (sN S a15) <|
        lt_ (dI d12 a15 v2.toNatClampNeg) fun x18 =>
        lt_ (sP S o 32) fun x19 =>
        nn x19 fun a20 =>
        kd S a20 50 <|
        gi x18 (sN S a20) <|
        lt_ (dI d12 a20 x18.toNatClampNeg) fun x23 =>
        bd (f_R_takesCount S d12 o x23) fun x24 =>
        lt_ (wI d12 o 0 2) fun d26 =>
        if x24 ≤ 0 then (
          f_R_call_J92 S o d26 v1 v5 v7 x18 x23 x24)
        else (
          lt_ (sP S o 15) fun x27 =>
          nn x27 fun a28 =>
          kd S a28 50 <|
          gi (3 * x23) (sN S a28) <|
          lt_ (dI d26 a28 (3 * x23 : Int32).toNatClampNeg) fun x31 =>
          bdD (f_R_takesAs S d26 o 0 x31 v3) fun x32 d34 =>
          if x32 = 0 then (
            some (0, d34))
          else (
            f_R_call_J92 S o d34 v1 v5 v7 x18 x23 x24)))
      else (
        some (0, d12))))
set_option maxRecDepth 100000 in
set_option maxHeartbeats 4000000 in
theorem c_R_call (l : Launch) (G : gG) {S : gS} {d : gD} {o : Nat} {v1 : Int32} {v2 : Int32} {v3 : Int64} {v5 : Int64} {v7 : Int64} {r : Int32} {d' : gD} (h : f_R_call S d o v1 v2 v3 v5 v7 = some (r, d')) : GM l G y_R_call b_R_call 13 (some (.int)) 6 145 0 0 [.inr (.inr (some o)), .inl v1, .inl v2, .inr (.inl v3), .inr (.inl v5), .inr (.inl v7)] S d (some (.int r)) S d' := by
  refine GM.of (by decide) (Nat.le_of_ble_eq_true rfl) ?_
  intro X hl0 hG0 hR0 hE0
  have hE : gE X b_R_call 13 "StandInMillModel" (some (.int)) "call" 6 145 := hE0
  unfold f_R_call at h
  refine gw.less (lv' := [some (va_rf (some o)), some (.int v1), some (.int v2), some (.long v3), none, some (.long v5), none, some (.long v7), none, none, none, none, none]) (And.intro rfl (And.intro rfl (And.intro rfl (And.intro rfl (And.intro rfl (And.intro rfl trivial)))))) ?_
  refine g_aload_n (i := 0) hE d_R_call_0 rfl rfl ?_
  refine g_iconst hE d_R_call_1 ki_1 ?_
  obtain ⟨k1, h⟩ := kd_s h
  refine g_putI 0 hE kc_R k1 (Nat.le_of_ble_eq_true rfl) rfl m_376 rfl (by decide +kernel) d_R_call_2 (fun d2 e => ?_)
  replace h := lt_i e h; clear e
  refine g_aload_n (i := 0) hE d_R_call_5 rfl rfl ?_
  refine g_iload_n (i := 1) hE d_R_call_6 rfl rfl ?_
  obtain ⟨x3, e4, h⟩ := bd_s h
  refine g_callV (av := [.inr (.inr (some o)), .inl v1]) (as := [.inl v1]) (stk := [.int x3]) [] hE (c_R_isStand (xl X) (xG X) e4) ky_R_isStand ⟨Nat.le_of_ble_eq_true rfl, Nat.le_of_ble_eq_true rfl⟩ rfl kc_R k1 m_501 m_502 m_503 rfl d_R_call_7 rfl rfl ct_0 (Nat.zero_le _) (Nat.zero_le _) ?_
  refine gw.cs (c2 := 0) (s2 := 0) rfl rfl ?_
  refine g_if_ne hE d_R_call_10 (fun c39 => ?_) (fun c39 => ?_)
  · replace h := if_f c39 h
    refine g_aload_n (i := 0) hE d_R_call_15 rfl rfl ?_
    refine g_aload_n (i := 0) hE d_R_call_16 rfl rfl ?_
    refine g_getR 23 hE kc_R k1 (Nat.le_of_ble_eq_true rfl) rfl m_400 d_R_call_17 (fun x5 e => ?_)
    replace h := lt_i e h; clear e
    refine g_iload_n (i := 1) hE d_R_call_20 rfl rfl ?_
    obtain ⟨a6, rfl, h⟩ := nn_s h
    obtain ⟨k7, h⟩ := kd_s h
    obtain ⟨g8, h⟩ := gi_s h
    refine g_iald hE k7 g8 d_R_call_21 (fun x9 e => ?_)
    replace h := lt_i e h; clear e
    obtain ⟨x10, d12, e11, h⟩ := bdD_s h
    refine g_callV (av := [.inr (.inr (some o)), .inl x9]) (as := [.inl x9]) (stk := []) [] hE (c_R_describe (xl X) (xG X) e11) ky_R_describe ⟨Nat.le_of_ble_eq_true rfl, Nat.le_of_ble_eq_true rfl⟩ rfl kc_R k1 m_465 m_466 m_467 rfl d_R_call_22 rfl rfl ct_0 (Nat.zero_le _) (Nat.zero_le _) ?_
    refine gw.cs (c2 := 0) (s2 := 0) rfl rfl ?_
    refine g_iload_n (i := 2) hE d_R_call_25 rfl rfl ?_
    refine g_if_lt hE d_R_call_26 (fun c38 => ?_) (fun c38 => ?_)
    · replace h := if_t c38 h
      refine g_iconst hE d_R_call_37 ki_0 ?_
      cases h
      exact g_iret hE d_R_call_38 rfl rfl
    · replace h := if_f c38 h
      refine g_iload_n (i := 2) hE d_R_call_29 rfl rfl ?_
      refine g_aload_n (i := 0) hE d_R_call_30 rfl rfl ?_
      refine g_getI 31 hE kc_R k1 (Nat.le_of_ble_eq_true rfl) rfl m_408 d_R_call_31 (fun x13 e => ?_)
      replace h := lt_i e h; clear e
      refine g_icmp_lt hE d_R_call_34 (fun c37 => ?_) (fun c37 => ?_)
      · replace h := if_t c37 h
        refine g_aload_n (i := 0) hE d_R_call_39 rfl rfl ?_
        refine g_getR 36 hE kc_R k1 (Nat.le_of_ble_eq_true rfl) rfl m_413 d_R_call_40 (fun x14 e => ?_)
        replace h := lt_i e h; clear e
        refine g_iload_n (i := 2) hE d_R_call_43 rfl rfl ?_
        obtain ⟨a15, rfl, h⟩ := nn_s h
        obtain ⟨k16, h⟩ := kd_s h
        obtain ⟨g17, h⟩ := gi_s h
        refine g_iald hE k16 g17 d_R_call_44 (fun x18 e => ?_)
        replace h := lt_i e h; clear e
        refine g_istore (i := 9) (lv' := [some (va_rf (some o)), some (.int v1), some (.int v2), some (.long v3), none, some (.long v5), none, some (.long v7), none, some (.int x18), none, none, none]) hE d_R_call_45 (Nat.le_of_ble_eq_true rfl) ⟨rfl, Nat.le_of_ble_eq_true rfl⟩ (lvp_n rfl) ?_
        refine g_aload_n (i := 0) hE d_R_call_47 rfl rfl ?_
        refine g_getR 32 hE kc_R k1 (Nat.le_of_ble_eq_true rfl) rfl m_409 d_R_call_48 (fun x19 e => ?_)
        replace h := lt_i e h; clear e
        refine g_iload (i := 9) hE d_R_call_51 rfl ?_
        obtain ⟨a20, rfl, h⟩ := nn_s h
        obtain ⟨k21, h⟩ := kd_s h
        obtain ⟨g22, h⟩ := gi_s h
        refine g_iald hE k21 g22 d_R_call_53 (fun x23 e => ?_)
        replace h := lt_i e h; clear e
        refine g_istore (i := 10) (lv' := [some (va_rf (some o)), some (.int v1), some (.int v2), some (.long v3), none, some (.long v5), none, some (.long v7), none, some (.int x18), some (.int x23), none, none]) hE d_R_call_54 (Nat.le_of_ble_eq_true rfl) ⟨rfl, Nat.le_of_ble_eq_true rfl⟩ (lvp_i rfl) ?_
        refine g_aload_n (i := 0) hE d_R_call_56 rfl rfl ?_
        refine g_iload (i := 10) hE d_R_call_57 rfl ?_
        obtain ⟨x24, e25, h⟩ := bd_s h
        refine g_callV (av := [.inr (.inr (some o)), .inl x23]) (as := [.inl x23]) (stk := [.int x24]) [] hE (c_R_takesCount (xl X) (xG X) e25) ky_R_takesCount ⟨Nat.le_of_ble_eq_true rfl, Nat.le_of_ble_eq_true rfl⟩ rfl kc_R k1 m_481 m_482 m_483 rfl d_R_call_59 rfl rfl ct_0 (Nat.zero_le _) (Nat.zero_le _) ?_
        refine gw.cs (c2 := 0) (s2 := 0) rfl rfl ?_
        refine g_istore (i := 11) (lv' := [some (va_rf (some o)), some (.int v1), some (.int v2), some (.long v3), none, some (.long v5), none, some (.long v7), none, some (.int x18), some (.int x23), some (.int x24), none]) hE d_R_call_62 (Nat.le_of_ble_eq_true rfl) ⟨rfl, Nat.le_of_ble_eq_true rfl⟩ (lvp_i rfl) ?_
        refine g_aload_n (i := 0) hE d_R_call_64 rfl rfl ?_
        refine g_iconst hE d_R_call_65 ki_2 ?_
        refine g_putI 0 hE kc_R k1 (Nat.le_of_ble_eq_true rfl) rfl m_376 rfl (by decide +kernel) d_R_call_66 (fun d26 e => ?_)
        replace h := lt_i e h; clear e
        refine g_iload (i := 11) hE d_R_call_69 rfl ?_
        refine g_if_le hE d_R_call_71 (fun c36 => ?_) (fun c36 => ?_)
        · replace h := if_t c36 h
          exact gw.less (lv' := [some (va_rf (some o)), some (.int v1), none, none, none, some (.long v5), none, some (.long v7), none, some (.int x18), some (.int x23), some (.int x24), none]) (And.intro rfl (And.intro rfl (And.intro rfl (And.intro rfl (And.intro rfl (And.intro rfl (And.intro rfl trivial))))))) (w_R_call_J92 hE d26 v1 v5 v7 x18 x23 x24 h)
        · replace h := if_f c36 h
          refine g_aload_n (i := 0) hE d_R_call_74 rfl rfl ?_
          refine g_iconst hE d_R_call_75 ki_0 ?_
          refine g_aload_n (i := 0) hE d_R_call_76 rfl rfl ?_
          refine g_getR 15 hE kc_R k1 (Nat.le_of_ble_eq_true rfl) rfl m_392 d_R_call_77 (fun x27 e => ?_)
          replace h := lt_i e h; clear e
          refine g_iconst hE d_R_call_80 ki_3 ?_
          refine g_iload (i := 10) hE d_R_call_81 rfl ?_
          refine g_imul hE d_R_call_83 ?_
          obtain ⟨a28, rfl, h⟩ := nn_s h
          obtain ⟨k29, h⟩ := kd_s h
          obtain ⟨g30, h⟩ := gi_s h
          refine g_iald hE k29 g30 d_R_call_84 (fun x31 e => ?_)
          replace h := lt_i e h; clear e
          refine g_lload_n (i := 3) hE d_R_call_85 rfl rfl ?_
          obtain ⟨x32, d34, e33, h⟩ := bdD_s h
          refine g_callV (av := [.inr (.inr (some o)), .inl 0, .inl x31, .inr (.inl v3)]) (as := [.inl 0, .inl x31, .inr (.inl v3)]) (stk := [.int x32]) [] hE (c_R_takesAs (xl X) (xG X) e33) ky_R_takesAs ⟨Nat.le_of_ble_eq_true rfl, Nat.le_of_ble_eq_true rfl⟩ rfl kc_R k1 m_516 m_517 m_518 rfl d_R_call_86 rfl rfl ct_0 (Nat.zero_le _) (Nat.zero_le _) ?_
          refine gw.cs (c2 := 0) (s2 := 0) rfl rfl ?_
          refine g_if_eq hE d_R_call_89 (fun c35 => ?_) (fun c35 => ?_)
          · replace h := if_t c35 h
            refine g_iconst hE d_R_call_146 ki_0 ?_
            cases h
            exact g_iret hE d_R_call_147 rfl rfl
          · replace h := if_f c35 h
            exact gw.less (lv' := [some (va_rf (some o)), some (.int v1), none, none, none, some (.long v5), none, some (.long v7), none, some (.int x18), some (.int x23), some (.int x24), none]) (And.intro rfl (And.intro rfl (And.intro rfl (And.intro rfl (And.intro rfl (And.intro rfl (And.intro rfl trivial))))))) (w_R_call_J92 hE d34 v1 v5 v7 x18 x23 x24 h)
      · replace h := if_f c37 h
        refine g_iconst hE d_R_call_37 ki_0 ?_
        cases h
        exact g_iret hE d_R_call_38 rfl rfl
  · replace h := if_t c39 h
    refine g_iconst hE d_R_call_13 ki_0 ?_
    cases h
    exact g_iret hE d_R_call_14 rfl rfl
theorem d_R_outcome_0 : dc b_R_outcome 0 (.aload_n 0) 1 1 := ⟨by decide +kernel, rfl⟩
theorem d_R_outcome_1 : dc b_R_outcome 1 (.iconst 0) 1 2 := ⟨by decide +kernel, rfl⟩
theorem d_R_outcome_2 : dc b_R_outcome 2 (.putfield 7) 3 5 := ⟨by decide +kernel, rfl⟩
theorem d_R_outcome_5 : dc b_R_outcome 5 (.aload_n 0) 1 6 := ⟨by decide +kernel, rfl⟩
theorem d_R_outcome_6 : dc b_R_outcome 6 (.getfield 144) 3 9 := ⟨by decide +kernel, rfl⟩
theorem d_R_outcome_9 : dc b_R_outcome 9 (.lreturn) 1 10 := ⟨by decide +kernel, rfl⟩
set_option maxRecDepth 100000 in
def f_R_outcome (S : gS) (d : gD) (o : Nat) : Option (Int64 × gD) :=
  kd S o 10 <|
  lt_ (wI d o 0 0) fun d2 =>
  lt_ (dL d2 o 43) fun x3 =>
  some (x3, d2)
set_option maxRecDepth 100000 in
set_option maxHeartbeats 4000000 in
theorem c_R_outcome (l : Launch) (G : gG) {S : gS} {d : gD} {o : Nat} {r : Int64} {d' : gD} (h : f_R_outcome S d o = some (r, d')) : GM l G y_R_outcome b_R_outcome 1 (some (.long)) 0 0 0 0 [.inr (.inr (some o))] S d (some (.long r)) S d' := by
  refine GM.of (by decide) (Nat.le_of_ble_eq_true rfl) ?_
  intro X hl0 hG0 hR0 hE0
  have hE : gE X b_R_outcome 1 "StandInMillModel" (some (.long)) "outcome" 0 0 := hE0
  unfold f_R_outcome at h
  refine gw.less (lv' := [some (va_rf (some o))]) (And.intro rfl trivial) ?_
  refine g_aload_n (i := 0) hE d_R_outcome_0 rfl rfl ?_
  refine g_iconst hE d_R_outcome_1 ki_0 ?_
  obtain ⟨k1, h⟩ := kd_s h
  refine g_putI 0 hE kc_R k1 (Nat.le_of_ble_eq_true rfl) rfl m_376 rfl (by decide +kernel) d_R_outcome_2 (fun d2 e => ?_)
  replace h := lt_i e h; clear e
  refine g_aload_n (i := 0) hE d_R_outcome_5 rfl rfl ?_
  refine g_getL 43 hE kc_R k1 (Nat.le_of_ble_eq_true rfl) rfl m_421 d_R_outcome_6 (fun x3 e => ?_)
  replace h := lt_i e h; clear e
  cases h
  exact g_lret hE d_R_outcome_9 rfl rfl
theorem d_R_seen_0 : dc b_R_seen 0 (.aload_n 0) 1 1 := ⟨by decide +kernel, rfl⟩
theorem d_R_seen_1 : dc b_R_seen 1 (.iconst 0) 1 2 := ⟨by decide +kernel, rfl⟩
theorem d_R_seen_2 : dc b_R_seen 2 (.putfield 7) 3 5 := ⟨by decide +kernel, rfl⟩
theorem d_R_seen_5 : dc b_R_seen 5 (.iload_n 1) 1 6 := ⟨by decide +kernel, rfl⟩
theorem d_R_seen_6 : db b_R_seen 6 (.ifCond .lt 9) 9 15 9 := ⟨by decide +kernel, by decide, rfl⟩
theorem d_R_seen_9 : dc b_R_seen 9 (.iload_n 1) 1 10 := ⟨by decide +kernel, rfl⟩
theorem d_R_seen_10 : dc b_R_seen 10 (.bipush 8) 2 12 := ⟨by decide +kernel, rfl⟩
theorem d_R_seen_12 : db b_R_seen 12 (.if_icmp .le 9) 9 21 15 := ⟨by decide +kernel, by decide, rfl⟩
theorem d_R_seen_15 : dc b_R_seen 15 (.ldc2_w 142) 3 18 := ⟨by decide +kernel, rfl⟩
theorem d_R_seen_18 : db b_R_seen 18 (.goto 9) 9 27 21 := ⟨by decide +kernel, by decide, rfl⟩
theorem d_R_seen_21 : dc b_R_seen 21 (.aload_n 0) 1 22 := ⟨by decide +kernel, rfl⟩
theorem d_R_seen_22 : dc b_R_seen 22 (.getfield 148) 3 25 := ⟨by decide +kernel, rfl⟩
theorem d_R_seen_25 : dc b_R_seen 25 (.iload_n 1) 1 26 := ⟨by decide +kernel, rfl⟩
theorem d_R_seen_26 : dc b_R_seen 26 (.laload) 1 27 := ⟨by decide +kernel, rfl⟩
theorem d_R_seen_27 : dc b_R_seen 27 (.lreturn) 1 28 := ⟨by decide +kernel, rfl⟩
def f_R_seen_J15 (S : gS) (o : Nat) (d : gD) : Option (Int64 × gD) :=
  some ((-1), d)
set_option maxRecDepth 100000 in
set_option maxHeartbeats 4000000 in
theorem w_R_seen_J15 {X : GX} (hE : gE X b_R_seen 2 "StandInMillModel" (some (.long)) "seen" 0 0) {S : gS} {o : Nat} {r : Int64} {d' : gD} :
    ∀ (d : gD), f_R_seen_J15 S o d = some (r, d') → gw X 0 0 (gQ X (some (.long r)) S d' 0 0) S d 15 [some (va_rf (some o)), none] [] := by
  intro d h
  unfold f_R_seen_J15 at h
  refine g_ldc2 hE d_R_seen_15 m_420 ?_
  refine g_goto hE d_R_seen_18 ?_
  cases h
  exact g_lret hE d_R_seen_27 rfl rfl
set_option maxRecDepth 100000 in
def f_R_seen (S : gS) (d : gD) (o : Nat) (v1 : Int32) : Option (Int64 × gD) :=
  kd S o 10 <|
  lt_ (wI d o 0 0) fun d2 =>
  if v1 < 0 then (
    f_R_seen_J15 S o d2)
  else (
    if v1 ≤ 8 then (
      lt_ (sP S o 44) fun x3 =>
      nn x3 fun a4 =>
      kd S a4 51 <|
      gi v1 (sN S a4) <|
      lt_ (dL d2 a4 v1.toNatClampNeg) fun x7 =>
      some (x7, d2))
    else (
      f_R_seen_J15 S o d2))
set_option maxRecDepth 100000 in
set_option maxHeartbeats 4000000 in
theorem c_R_seen (l : Launch) (G : gG) {S : gS} {d : gD} {o : Nat} {v1 : Int32} {r : Int64} {d' : gD} (h : f_R_seen S d o v1 = some (r, d')) : GM l G y_R_seen b_R_seen 2 (some (.long)) 0 0 0 0 [.inr (.inr (some o)), .inl v1] S d (some (.long r)) S d' := by
  refine GM.of (by decide) (Nat.le_of_ble_eq_true rfl) ?_
  intro X hl0 hG0 hR0 hE0
  have hE : gE X b_R_seen 2 "StandInMillModel" (some (.long)) "seen" 0 0 := hE0
  unfold f_R_seen at h
  refine gw.less (lv' := [some (va_rf (some o)), some (.int v1)]) (And.intro rfl (And.intro rfl trivial)) ?_
  refine g_aload_n (i := 0) hE d_R_seen_0 rfl rfl ?_
  refine g_iconst hE d_R_seen_1 ki_0 ?_
  obtain ⟨k1, h⟩ := kd_s h
  refine g_putI 0 hE kc_R k1 (Nat.le_of_ble_eq_true rfl) rfl m_376 rfl (by decide +kernel) d_R_seen_2 (fun d2 e => ?_)
  replace h := lt_i e h; clear e
  refine g_iload_n (i := 1) hE d_R_seen_5 rfl rfl ?_
  refine g_if_lt hE d_R_seen_6 (fun c9 => ?_) (fun c9 => ?_)
  · replace h := if_t c9 h
    exact gw.less (lv' := [some (va_rf (some o)), none]) (And.intro rfl trivial) (w_R_seen_J15 hE d2 h)
  · replace h := if_f c9 h
    refine g_iload_n (i := 1) hE d_R_seen_9 rfl rfl ?_
    refine g_bipush hE d_R_seen_10 kb_8 ?_
    refine g_icmp_le hE d_R_seen_12 (fun c8 => ?_) (fun c8 => ?_)
    · replace h := if_t c8 h
      refine g_aload_n (i := 0) hE d_R_seen_21 rfl rfl ?_
      refine g_getR 44 hE kc_R k1 (Nat.le_of_ble_eq_true rfl) rfl m_422 d_R_seen_22 (fun x3 e => ?_)
      replace h := lt_i e h; clear e
      refine g_iload_n (i := 1) hE d_R_seen_25 rfl rfl ?_
      obtain ⟨a4, rfl, h⟩ := nn_s h
      obtain ⟨k5, h⟩ := kd_s h
      obtain ⟨g6, h⟩ := gi_s h
      refine g_lald hE k5 g6 d_R_seen_26 (fun x7 e => ?_)
      replace h := lt_i e h; clear e
      cases h
      exact g_lret hE d_R_seen_27 rfl rfl
    · replace h := if_f c8 h
      exact gw.less (lv' := [some (va_rf (some o)), none]) (And.intro rfl trivial) (w_R_seen_J15 hE d2 h)
