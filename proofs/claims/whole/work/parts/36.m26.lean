theorem d_R_describe_0 : dc b_R_describe 0 (.aload_n 0) 1 1 := ⟨by decide +kernel, rfl⟩
theorem d_R_describe_1 : dc b_R_describe 1 (.invokevirtual 190) 3 4 := ⟨by decide +kernel, rfl⟩
theorem d_R_describe_4 : dc b_R_describe 4 (.aload_n 0) 1 5 := ⟨by decide +kernel, rfl⟩
theorem d_R_describe_5 : dc b_R_describe 5 (.iconst 0) 1 6 := ⟨by decide +kernel, rfl⟩
theorem d_R_describe_6 : dc b_R_describe 6 (.putfield 106) 3 9 := ⟨by decide +kernel, rfl⟩
theorem d_R_describe_9 : dc b_R_describe 9 (.bipush 72) 2 11 := ⟨by decide +kernel, rfl⟩
theorem d_R_describe_11 : dc b_R_describe 11 (.istore_n 2) 1 12 := ⟨by decide +kernel, rfl⟩
theorem d_R_describe_12 : dc b_R_describe 12 (.iload_n 2) 1 13 := ⟨by decide +kernel, rfl⟩
theorem d_R_describe_13 : dc b_R_describe 13 (.bipush 75) 2 15 := ⟨by decide +kernel, rfl⟩
theorem d_R_describe_15 : db b_R_describe 15 (.if_icmp .ge 14) 14 29 18 := ⟨by decide +kernel, by decide, rfl⟩
theorem d_R_describe_18 : dc b_R_describe 18 (.aload_n 0) 1 19 := ⟨by decide +kernel, rfl⟩
theorem d_R_describe_19 : dc b_R_describe 19 (.iload_n 2) 1 20 := ⟨by decide +kernel, rfl⟩
theorem d_R_describe_20 : dc b_R_describe 20 (.invokevirtual 193) 3 23 := ⟨by decide +kernel, rfl⟩
theorem d_R_describe_23 : dc b_R_describe 23 (.iinc 2 1) 3 26 := ⟨by decide +kernel, rfl⟩
theorem d_R_describe_26 : db b_R_describe 26 (.goto (-14)) (-14) 12 29 := ⟨by decide +kernel, by decide, rfl⟩
theorem d_R_describe_29 : dc b_R_describe 29 (.iconst 0) 1 30 := ⟨by decide +kernel, rfl⟩
theorem d_R_describe_30 : dc b_R_describe 30 (.istore_n 2) 1 31 := ⟨by decide +kernel, rfl⟩
theorem d_R_describe_31 : dc b_R_describe 31 (.iload_n 2) 1 32 := ⟨by decide +kernel, rfl⟩
theorem d_R_describe_32 : dc b_R_describe 32 (.bipush 32) 2 34 := ⟨by decide +kernel, rfl⟩
theorem d_R_describe_34 : db b_R_describe 34 (.if_icmp .ge 146) 146 180 37 := ⟨by decide +kernel, by decide, rfl⟩
theorem d_R_describe_37 : dc b_R_describe 37 (.iload_n 1) 1 38 := ⟨by decide +kernel, rfl⟩
theorem d_R_describe_38 : dc b_R_describe 38 (.iload_n 2) 1 39 := ⟨by decide +kernel, rfl⟩
theorem d_R_describe_39 : dc b_R_describe 39 (.ishr) 1 40 := ⟨by decide +kernel, rfl⟩
theorem d_R_describe_40 : dc b_R_describe 40 (.sipush 255) 3 43 := ⟨by decide +kernel, rfl⟩
theorem d_R_describe_43 : dc b_R_describe 43 (.iand) 1 44 := ⟨by decide +kernel, rfl⟩
theorem d_R_describe_44 : db b_R_describe 44 (.ifCond .eq 136) 136 180 47 := ⟨by decide +kernel, by decide, rfl⟩
theorem d_R_describe_47 : dc b_R_describe 47 (.iload_n 1) 1 48 := ⟨by decide +kernel, rfl⟩
theorem d_R_describe_48 : dc b_R_describe 48 (.iload_n 2) 1 49 := ⟨by decide +kernel, rfl⟩
theorem d_R_describe_49 : dc b_R_describe 49 (.ishr) 1 50 := ⟨by decide +kernel, rfl⟩
theorem d_R_describe_50 : dc b_R_describe 50 (.sipush 255) 3 53 := ⟨by decide +kernel, rfl⟩
theorem d_R_describe_53 : dc b_R_describe 53 (.iand) 1 54 := ⟨by decide +kernel, rfl⟩
theorem d_R_describe_54 : dc b_R_describe 54 (.bipush 24) 2 56 := ⟨by decide +kernel, rfl⟩
theorem d_R_describe_56 : dc b_R_describe 56 (.isub) 1 57 := ⟨by decide +kernel, rfl⟩
theorem d_R_describe_57 : dc b_R_describe 57 (.istore_n 3) 1 58 := ⟨by decide +kernel, rfl⟩
theorem d_R_describe_58 : dc b_R_describe 58 (.iconst 0) 1 59 := ⟨by decide +kernel, rfl⟩
theorem d_R_describe_59 : dc b_R_describe 59 (.istore 4) 2 61 := ⟨by decide +kernel, rfl⟩
theorem d_R_describe_61 : dc b_R_describe 61 (.iload 4) 2 63 := ⟨by decide +kernel, rfl⟩
theorem d_R_describe_63 : dc b_R_describe 63 (.aload_n 0) 1 64 := ⟨by decide +kernel, rfl⟩
theorem d_R_describe_64 : dc b_R_describe 64 (.getfield 103) 3 67 := ⟨by decide +kernel, rfl⟩
theorem d_R_describe_67 : dc b_R_describe 67 (.iload_n 3) 1 68 := ⟨by decide +kernel, rfl⟩
theorem d_R_describe_68 : dc b_R_describe 68 (.iaload) 1 69 := ⟨by decide +kernel, rfl⟩
theorem d_R_describe_69 : db b_R_describe 69 (.if_icmp .ge 105) 105 174 72 := ⟨by decide +kernel, by decide, rfl⟩
theorem d_R_describe_72 : dc b_R_describe 72 (.aload_n 0) 1 73 := ⟨by decide +kernel, rfl⟩
theorem d_R_describe_73 : dc b_R_describe 73 (.getfield 100) 3 76 := ⟨by decide +kernel, rfl⟩
theorem d_R_describe_76 : dc b_R_describe 76 (.bipush 72) 2 78 := ⟨by decide +kernel, rfl⟩
theorem d_R_describe_78 : dc b_R_describe 78 (.iload_n 3) 1 79 := ⟨by decide +kernel, rfl⟩
theorem d_R_describe_79 : dc b_R_describe 79 (.imul) 1 80 := ⟨by decide +kernel, rfl⟩
theorem d_R_describe_80 : dc b_R_describe 80 (.iload 4) 2 82 := ⟨by decide +kernel, rfl⟩
theorem d_R_describe_82 : dc b_R_describe 82 (.iadd) 1 83 := ⟨by decide +kernel, rfl⟩
theorem d_R_describe_83 : dc b_R_describe 83 (.iaload) 1 84 := ⟨by decide +kernel, rfl⟩
theorem d_R_describe_84 : dc b_R_describe 84 (.istore 5) 2 86 := ⟨by decide +kernel, rfl⟩
theorem d_R_describe_86 : dc b_R_describe 86 (.iconst 0) 1 87 := ⟨by decide +kernel, rfl⟩
theorem d_R_describe_87 : dc b_R_describe 87 (.istore 6) 2 89 := ⟨by decide +kernel, rfl⟩
theorem d_R_describe_89 : dc b_R_describe 89 (.iload 6) 2 91 := ⟨by decide +kernel, rfl⟩
theorem d_R_describe_91 : dc b_R_describe 91 (.aload_n 0) 1 92 := ⟨by decide +kernel, rfl⟩
theorem d_R_describe_92 : dc b_R_describe 92 (.getfield 106) 3 95 := ⟨by decide +kernel, rfl⟩
theorem d_R_describe_95 : db b_R_describe 95 (.if_icmp .ge 47) 47 142 98 := ⟨by decide +kernel, by decide, rfl⟩
theorem d_R_describe_98 : dc b_R_describe 98 (.aload_n 0) 1 99 := ⟨by decide +kernel, rfl⟩
theorem d_R_describe_99 : dc b_R_describe 99 (.aload_n 0) 1 100 := ⟨by decide +kernel, rfl⟩
theorem d_R_describe_100 : dc b_R_describe 100 (.getfield 109) 3 103 := ⟨by decide +kernel, rfl⟩
theorem d_R_describe_103 : dc b_R_describe 103 (.iload 6) 2 105 := ⟨by decide +kernel, rfl⟩
theorem d_R_describe_105 : dc b_R_describe 105 (.iaload) 1 106 := ⟨by decide +kernel, rfl⟩
theorem d_R_describe_106 : dc b_R_describe 106 (.iload 5) 2 108 := ⟨by decide +kernel, rfl⟩
theorem d_R_describe_108 : dc b_R_describe 108 (.invokevirtual 180) 3 111 := ⟨by decide +kernel, rfl⟩
theorem d_R_describe_111 : db b_R_describe 111 (.ifCond .eq 25) 25 136 114 := ⟨by decide +kernel, by decide, rfl⟩
theorem d_R_describe_114 : dc b_R_describe 114 (.aload_n 0) 1 115 := ⟨by decide +kernel, rfl⟩
theorem d_R_describe_115 : dc b_R_describe 115 (.getfield 54) 3 118 := ⟨by decide +kernel, rfl⟩
theorem d_R_describe_118 : dc b_R_describe 118 (.aload_n 0) 1 119 := ⟨by decide +kernel, rfl⟩
theorem d_R_describe_119 : dc b_R_describe 119 (.getfield 109) 3 122 := ⟨by decide +kernel, rfl⟩
theorem d_R_describe_122 : dc b_R_describe 122 (.iload 6) 2 124 := ⟨by decide +kernel, rfl⟩
theorem d_R_describe_124 : dc b_R_describe 124 (.iaload) 1 125 := ⟨by decide +kernel, rfl⟩
theorem d_R_describe_125 : dc b_R_describe 125 (.iaload) 1 126 := ⟨by decide +kernel, rfl⟩
theorem d_R_describe_126 : dc b_R_describe 126 (.aload_n 0) 1 127 := ⟨by decide +kernel, rfl⟩
theorem d_R_describe_127 : dc b_R_describe 127 (.getfield 54) 3 130 := ⟨by decide +kernel, rfl⟩
theorem d_R_describe_130 : dc b_R_describe 130 (.iload 5) 2 132 := ⟨by decide +kernel, rfl⟩
theorem d_R_describe_132 : dc b_R_describe 132 (.iaload) 1 133 := ⟨by decide +kernel, rfl⟩
theorem d_R_describe_133 : db b_R_describe 133 (.if_icmp .eq 9) 9 142 136 := ⟨by decide +kernel, by decide, rfl⟩
theorem d_R_describe_136 : dc b_R_describe 136 (.iinc 6 1) 3 139 := ⟨by decide +kernel, rfl⟩
theorem d_R_describe_139 : db b_R_describe 139 (.goto (-50)) (-50) 89 142 := ⟨by decide +kernel, by decide, rfl⟩
theorem d_R_describe_142 : dc b_R_describe 142 (.iload 6) 2 144 := ⟨by decide +kernel, rfl⟩
theorem d_R_describe_144 : dc b_R_describe 144 (.aload_n 0) 1 145 := ⟨by decide +kernel, rfl⟩
theorem d_R_describe_145 : dc b_R_describe 145 (.getfield 106) 3 148 := ⟨by decide +kernel, rfl⟩
theorem d_R_describe_148 : db b_R_describe 148 (.if_icmp .ge 14) 14 162 151 := ⟨by decide +kernel, by decide, rfl⟩
theorem d_R_describe_151 : dc b_R_describe 151 (.aload_n 0) 1 152 := ⟨by decide +kernel, rfl⟩
theorem d_R_describe_152 : dc b_R_describe 152 (.iload 6) 2 154 := ⟨by decide +kernel, rfl⟩
theorem d_R_describe_154 : dc b_R_describe 154 (.iload 5) 2 156 := ⟨by decide +kernel, rfl⟩
theorem d_R_describe_156 : dc b_R_describe 156 (.invokevirtual 197) 3 159 := ⟨by decide +kernel, rfl⟩
theorem d_R_describe_159 : db b_R_describe 159 (.goto 9) 9 168 162 := ⟨by decide +kernel, by decide, rfl⟩
theorem d_R_describe_162 : dc b_R_describe 162 (.aload_n 0) 1 163 := ⟨by decide +kernel, rfl⟩
theorem d_R_describe_163 : dc b_R_describe 163 (.iload 5) 2 165 := ⟨by decide +kernel, rfl⟩
theorem d_R_describe_165 : dc b_R_describe 165 (.invokevirtual 193) 3 168 := ⟨by decide +kernel, rfl⟩
theorem d_R_describe_168 : dc b_R_describe 168 (.iinc 4 1) 3 171 := ⟨by decide +kernel, rfl⟩
theorem d_R_describe_171 : db b_R_describe 171 (.goto (-110)) (-110) 61 174 := ⟨by decide +kernel, by decide, rfl⟩
theorem d_R_describe_174 : dc b_R_describe 174 (.iinc 2 8) 3 177 := ⟨by decide +kernel, rfl⟩
theorem d_R_describe_177 : db b_R_describe 177 (.goto (-146)) (-146) 31 180 := ⟨by decide +kernel, by decide, rfl⟩
theorem d_R_describe_180 : dc b_R_describe 180 (.iconst 0) 1 181 := ⟨by decide +kernel, rfl⟩
theorem d_R_describe_181 : dc b_R_describe 181 (.istore_n 2) 1 182 := ⟨by decide +kernel, rfl⟩
theorem d_R_describe_182 : dc b_R_describe 182 (.iconst 0) 1 183 := ⟨by decide +kernel, rfl⟩
theorem d_R_describe_183 : dc b_R_describe 183 (.istore_n 3) 1 184 := ⟨by decide +kernel, rfl⟩
theorem d_R_describe_184 : dc b_R_describe 184 (.iload_n 3) 1 185 := ⟨by decide +kernel, rfl⟩
theorem d_R_describe_185 : dc b_R_describe 185 (.aload_n 0) 1 186 := ⟨by decide +kernel, rfl⟩
theorem d_R_describe_186 : dc b_R_describe 186 (.getfield 106) 3 189 := ⟨by decide +kernel, rfl⟩
theorem d_R_describe_189 : db b_R_describe 189 (.if_icmp .ge 104) 104 293 192 := ⟨by decide +kernel, by decide, rfl⟩
theorem d_R_describe_192 : dc b_R_describe 192 (.iconst 1) 1 193 := ⟨by decide +kernel, rfl⟩
theorem d_R_describe_193 : dc b_R_describe 193 (.istore 4) 2 195 := ⟨by decide +kernel, rfl⟩
theorem d_R_describe_195 : dc b_R_describe 195 (.iconst 0) 1 196 := ⟨by decide +kernel, rfl⟩
theorem d_R_describe_196 : dc b_R_describe 196 (.istore 5) 2 198 := ⟨by decide +kernel, rfl⟩
theorem d_R_describe_198 : dc b_R_describe 198 (.iload 5) 2 200 := ⟨by decide +kernel, rfl⟩
theorem d_R_describe_200 : dc b_R_describe 200 (.iload_n 3) 1 201 := ⟨by decide +kernel, rfl⟩
theorem d_R_describe_201 : db b_R_describe 201 (.if_icmp .ge 32) 32 233 204 := ⟨by decide +kernel, by decide, rfl⟩
theorem d_R_describe_204 : dc b_R_describe 204 (.aload_n 0) 1 205 := ⟨by decide +kernel, rfl⟩
theorem d_R_describe_205 : dc b_R_describe 205 (.aload_n 0) 1 206 := ⟨by decide +kernel, rfl⟩
theorem d_R_describe_206 : dc b_R_describe 206 (.getfield 109) 3 209 := ⟨by decide +kernel, rfl⟩
theorem d_R_describe_209 : dc b_R_describe 209 (.iload_n 3) 1 210 := ⟨by decide +kernel, rfl⟩
theorem d_R_describe_210 : dc b_R_describe 210 (.iaload) 1 211 := ⟨by decide +kernel, rfl⟩
theorem d_R_describe_211 : dc b_R_describe 211 (.aload_n 0) 1 212 := ⟨by decide +kernel, rfl⟩
theorem d_R_describe_212 : dc b_R_describe 212 (.getfield 109) 3 215 := ⟨by decide +kernel, rfl⟩
theorem d_R_describe_215 : dc b_R_describe 215 (.iload 5) 2 217 := ⟨by decide +kernel, rfl⟩
theorem d_R_describe_217 : dc b_R_describe 217 (.iaload) 1 218 := ⟨by decide +kernel, rfl⟩
theorem d_R_describe_218 : dc b_R_describe 218 (.invokevirtual 180) 3 221 := ⟨by decide +kernel, rfl⟩
theorem d_R_describe_221 : db b_R_describe 221 (.ifCond .eq 6) 6 227 224 := ⟨by decide +kernel, by decide, rfl⟩
theorem d_R_describe_224 : dc b_R_describe 224 (.iconst 0) 1 225 := ⟨by decide +kernel, rfl⟩
theorem d_R_describe_225 : dc b_R_describe 225 (.istore 4) 2 227 := ⟨by decide +kernel, rfl⟩
theorem d_R_describe_227 : dc b_R_describe 227 (.iinc 5 1) 3 230 := ⟨by decide +kernel, rfl⟩
theorem d_R_describe_230 : db b_R_describe 230 (.goto (-32)) (-32) 198 233 := ⟨by decide +kernel, by decide, rfl⟩
theorem d_R_describe_233 : dc b_R_describe 233 (.iload 4) 2 235 := ⟨by decide +kernel, rfl⟩
theorem d_R_describe_235 : db b_R_describe 235 (.ifCond .eq 52) 52 287 238 := ⟨by decide +kernel, by decide, rfl⟩
theorem d_R_describe_238 : dc b_R_describe 238 (.iload_n 3) 1 239 := ⟨by decide +kernel, rfl⟩
theorem d_R_describe_239 : dc b_R_describe 239 (.istore 5) 2 241 := ⟨by decide +kernel, rfl⟩
theorem d_R_describe_241 : dc b_R_describe 241 (.iload 5) 2 243 := ⟨by decide +kernel, rfl⟩
theorem d_R_describe_243 : dc b_R_describe 243 (.aload_n 0) 1 244 := ⟨by decide +kernel, rfl⟩
theorem d_R_describe_244 : dc b_R_describe 244 (.getfield 106) 3 247 := ⟨by decide +kernel, rfl⟩
theorem d_R_describe_247 : db b_R_describe 247 (.if_icmp .ge 40) 40 287 250 := ⟨by decide +kernel, by decide, rfl⟩
theorem d_R_describe_250 : dc b_R_describe 250 (.aload_n 0) 1 251 := ⟨by decide +kernel, rfl⟩
theorem d_R_describe_251 : dc b_R_describe 251 (.aload_n 0) 1 252 := ⟨by decide +kernel, rfl⟩
theorem d_R_describe_252 : dc b_R_describe 252 (.getfield 109) 3 255 := ⟨by decide +kernel, rfl⟩
theorem d_R_describe_255 : dc b_R_describe 255 (.iload_n 3) 1 256 := ⟨by decide +kernel, rfl⟩
theorem d_R_describe_256 : dc b_R_describe 256 (.iaload) 1 257 := ⟨by decide +kernel, rfl⟩
theorem d_R_describe_257 : dc b_R_describe 257 (.aload_n 0) 1 258 := ⟨by decide +kernel, rfl⟩
theorem d_R_describe_258 : dc b_R_describe 258 (.getfield 109) 3 261 := ⟨by decide +kernel, rfl⟩
theorem d_R_describe_261 : dc b_R_describe 261 (.iload 5) 2 263 := ⟨by decide +kernel, rfl⟩
theorem d_R_describe_263 : dc b_R_describe 263 (.iaload) 1 264 := ⟨by decide +kernel, rfl⟩
theorem d_R_describe_264 : dc b_R_describe 264 (.invokevirtual 180) 3 267 := ⟨by decide +kernel, rfl⟩
theorem d_R_describe_267 : db b_R_describe 267 (.ifCond .eq 14) 14 281 270 := ⟨by decide +kernel, by decide, rfl⟩
theorem d_R_describe_270 : dc b_R_describe 270 (.aload_n 0) 1 271 := ⟨by decide +kernel, rfl⟩
theorem d_R_describe_271 : dc b_R_describe 271 (.getfield 121) 3 274 := ⟨by decide +kernel, rfl⟩
theorem d_R_describe_274 : dc b_R_describe 274 (.iload_n 2) 1 275 := ⟨by decide +kernel, rfl⟩
theorem d_R_describe_275 : dc b_R_describe 275 (.iload 5) 2 277 := ⟨by decide +kernel, rfl⟩
theorem d_R_describe_277 : dc b_R_describe 277 (.iastore) 1 278 := ⟨by decide +kernel, rfl⟩
theorem d_R_describe_278 : dc b_R_describe 278 (.iinc 2 1) 3 281 := ⟨by decide +kernel, rfl⟩
theorem d_R_describe_281 : dc b_R_describe 281 (.iinc 5 1) 3 284 := ⟨by decide +kernel, rfl⟩
theorem d_R_describe_284 : db b_R_describe 284 (.goto (-43)) (-43) 241 287 := ⟨by decide +kernel, by decide, rfl⟩
theorem d_R_describe_287 : dc b_R_describe 287 (.iinc 3 1) 3 290 := ⟨by decide +kernel, rfl⟩
theorem d_R_describe_290 : db b_R_describe 290 (.goto (-106)) (-106) 184 293 := ⟨by decide +kernel, by decide, rfl⟩
theorem d_R_describe_293 : dc b_R_describe 293 (.return_) 1 294 := ⟨by decide +kernel, rfl⟩
def f_R_describe_B12 (S : gS) (o : Nat) (kx29 : gD → Int32 → Option (Unit × gD)) (kb : gD → Int32 → Int32 → Option (Unit × gD)) (d : gD) (v1 : Int32) (v2 : Int32) : Option (Unit × gD) :=
  if 75 ≤ v2 then (
    kx29 d v1)
  else (
    kd S o 10 <|
    bdD (f_R_add S d o v2) fun _ d4 =>
    kb d4 v1 (v2 + 1))
set_option maxRecDepth 100000 in
set_option maxHeartbeats 4000000 in
theorem w_R_describe_B12 {X : GX} (hE : gE X b_R_describe 7 "StandInMillModel" none "describe" 5 119) {S : gS} {o : Nat} {r : Unit} {d' : gD} {kb : gD → Int32 → Int32 → Option (Unit × gD)} {kx29 : gD → Int32 → Option (Unit × gD)} (hkb : ∀ (d : gD) (v1 : Int32) (v2 : Int32), kb d v1 v2 = some (r, d') → gw X 0 0 (gQ X (none) S d' 0 0) S d 12 [some (va_rf (some o)), some (.int v1), some (.int v2), none, none, none, none] []) (hkx29 : ∀ (d : gD) (v1 : Int32), kx29 d v1 = some (r, d') → gw X 0 0 (gQ X (none) S d' 0 0) S d 29 [some (va_rf (some o)), some (.int v1), none, none, none, none, none] []) :
    ∀ (d : gD) (v1 : Int32) (v2 : Int32), f_R_describe_B12 S o kx29 kb d v1 v2 = some (r, d') → gw X 0 0 (gQ X (none) S d' 0 0) S d 12 [some (va_rf (some o)), some (.int v1), some (.int v2), none, none, none, none] [] := by
  intro d v1 v2 h
  unfold f_R_describe_B12 at h
  refine g_iload_n (i := 2) hE d_R_describe_12 rfl rfl ?_
  refine g_bipush hE d_R_describe_13 kb_75 ?_
  refine g_icmp_ge hE d_R_describe_15 (fun c5 => ?_) (fun c5 => ?_)
  · replace h := if_t c5 h
    exact gw.less (lv' := [some (va_rf (some o)), some (.int v1), none, none, none, none, none]) (And.intro rfl (And.intro rfl trivial)) (hkx29 d v1 h)
  · replace h := if_f c5 h
    refine g_aload_n (i := 0) hE d_R_describe_18 rfl rfl ?_
    refine g_iload_n (i := 2) hE d_R_describe_19 rfl rfl ?_
    obtain ⟨k1, h⟩ := kd_s h
    obtain ⟨x2, d4, e3, h⟩ := bdD_s h
    refine g_callV (av := [.inr (.inr (some o)), .inl v2]) (as := [.inl v2]) (stk := []) [] hE (c_R_add (xl X) (xG X) e3) ky_R_add ⟨Nat.le_of_ble_eq_true rfl, Nat.le_of_ble_eq_true rfl⟩ rfl kc_R k1 m_456 m_457 m_458 rfl d_R_describe_20 rfl rfl ct_0 (Nat.zero_le _) (Nat.zero_le _) ?_
    refine gw.cs (c2 := 0) (s2 := 0) rfl rfl ?_
    refine g_iinc (i := 2) (lv' := [some (va_rf (some o)), some (.int v1), some (.int (v2 + 1)), none, none, none, none]) hE d_R_describe_23 ki_1 rfl (Nat.le_of_ble_eq_true rfl) ⟨rfl, Nat.le_of_ble_eq_true rfl⟩ (lvp_i rfl) ?_
    refine g_goto hE d_R_describe_26 ?_
    exact gw.less (lv' := [some (va_rf (some o)), some (.int v1), some (.int (v2 + 1)), none, none, none, none]) (And.intro rfl (And.intro rfl (And.intro rfl trivial))) (hkb d4 v1 (v2 + 1) h)
theorem w_R_describe_L12 {X : GX} (hE : gE X b_R_describe 7 "StandInMillModel" none "describe" 5 119) {S : gS} {o : Nat} {r : Unit} {d' : gD} {kx29 : gD → Int32 → Option (Unit × gD)} (hkx29 : ∀ (d : gD) (v1 : Int32), kx29 d v1 = some (r, d') → gw X 0 0 (gQ X (none) S d' 0 0) S d 29 [some (va_rf (some o)), some (.int v1), none, none, none, none, none] []) : ∀ (n : Nat) (d : gD) (v1 : Int32) (v2 : Int32), itr (f_R_describe_B12 S o kx29) (fun _ _ _ => none) n d v1 v2 = some (r, d') → gw X 0 0 (gQ X (none) S d' 0 0) S d 12 [some (va_rf (some o)), some (.int v1), some (.int v2), none, none, none, none] [] := by
  intro n
  induction n with
  | zero => intro d v1 v2 h; cases h
  | succ n ih => exact w_R_describe_B12 hE ih hkx29
def f_R_describe_J136 (S : gS) (o : Nat) (kx142 : gD → Int32 → Int32 → Int32 → Int32 → Int32 → Int32 → Option (Unit × gD)) (kb : gD → Int32 → Int32 → Int32 → Int32 → Int32 → Int32 → Option (Unit × gD)) (d : gD) (v1 : Int32) (v2 : Int32) (v3 : Int32) (v4 : Int32) (v5 : Int32) (v6 : Int32) : Option (Unit × gD) :=
  kb d v1 v2 v3 v4 v5 (v6 + 1)
set_option maxRecDepth 100000 in
set_option maxHeartbeats 4000000 in
theorem w_R_describe_J136 {X : GX} (hE : gE X b_R_describe 7 "StandInMillModel" none "describe" 5 119) {S : gS} {o : Nat} {r : Unit} {d' : gD} {kb : gD → Int32 → Int32 → Int32 → Int32 → Int32 → Int32 → Option (Unit × gD)} {kx142 : gD → Int32 → Int32 → Int32 → Int32 → Int32 → Int32 → Option (Unit × gD)} (hkb : ∀ (d : gD) (v1 : Int32) (v2 : Int32) (v3 : Int32) (v4 : Int32) (v5 : Int32) (v6 : Int32), kb d v1 v2 v3 v4 v5 v6 = some (r, d') → gw X 0 0 (gQ X (none) S d' 0 0) S d 89 [some (va_rf (some o)), some (.int v1), some (.int v2), some (.int v3), some (.int v4), some (.int v5), some (.int v6)] []) (hkx142 : ∀ (d : gD) (v1 : Int32) (v2 : Int32) (v3 : Int32) (v4 : Int32) (v5 : Int32) (v6 : Int32), kx142 d v1 v2 v3 v4 v5 v6 = some (r, d') → gw X 0 0 (gQ X (none) S d' 0 0) S d 142 [some (va_rf (some o)), some (.int v1), some (.int v2), some (.int v3), some (.int v4), some (.int v5), some (.int v6)] []) :
    ∀ (d : gD) (v1 : Int32) (v2 : Int32) (v3 : Int32) (v4 : Int32) (v5 : Int32) (v6 : Int32), f_R_describe_J136 S o kx142 kb d v1 v2 v3 v4 v5 v6 = some (r, d') → gw X 0 0 (gQ X (none) S d' 0 0) S d 136 [some (va_rf (some o)), some (.int v1), some (.int v2), some (.int v3), some (.int v4), some (.int v5), some (.int v6)] [] := by
  intro d v1 v2 v3 v4 v5 v6 h
  unfold f_R_describe_J136 at h
  refine g_iinc (i := 6) (lv' := [some (va_rf (some o)), some (.int v1), some (.int v2), some (.int v3), some (.int v4), some (.int v5), some (.int (v6 + 1))]) hE d_R_describe_136 ki_1 rfl (Nat.le_of_ble_eq_true rfl) ⟨rfl, Nat.le_of_ble_eq_true rfl⟩ (lvp_i rfl) ?_
  refine g_goto hE d_R_describe_139 ?_
  exact gw.less (lv' := [some (va_rf (some o)), some (.int v1), some (.int v2), some (.int v3), some (.int v4), some (.int v5), some (.int (v6 + 1))]) (And.intro rfl (And.intro rfl (And.intro rfl (And.intro rfl (And.intro rfl (And.intro rfl (And.intro rfl trivial))))))) (hkb d v1 v2 v3 v4 v5 (v6 + 1) h)
def f_R_describe_B89 (S : gS) (o : Nat) (kx142 : gD → Int32 → Int32 → Int32 → Int32 → Int32 → Int32 → Option (Unit × gD)) (kb : gD → Int32 → Int32 → Int32 → Int32 → Int32 → Int32 → Option (Unit × gD)) (d : gD) (v1 : Int32) (v2 : Int32) (v3 : Int32) (v4 : Int32) (v5 : Int32) (v6 : Int32) : Option (Unit × gD) :=
  kd S o 10 <|
  lt_ (dI d o 31) fun x2 =>
  if x2 ≤ v6 then (
    kx142 d v1 v2 v3 v4 v5 v6)
  else (
    lt_ (sP S o 32) fun x3 =>
    nn x3 fun a4 =>
    kd S a4 50 <|
    gi v6 (sN S a4) <|
    lt_ (dI d a4 v6.toNatClampNeg) fun x7 =>
    bd (f_R_sameSignature S d o x7 v5) fun x8 =>
    if x8 = 0 then (
      f_R_describe_J136 S o kx142 kb d v1 v2 v3 v4 v5 v6)
    else (
      lt_ (sP S o 14) fun x10 =>
      lt_ (sP S o 32) fun x11 =>
      nn x11 fun a12 =>
      kd S a12 50 <|
      gi v6 (sN S a12) <|
      lt_ (dI d a12 v6.toNatClampNeg) fun x15 =>
      nn x10 fun a16 =>
      kd S a16 50 <|
      gi x15 (sN S a16) <|
      lt_ (dI d a16 x15.toNatClampNeg) fun x19 =>
      lt_ (sP S o 14) fun x20 =>
      nn x20 fun a21 =>
      kd S a21 50 <|
      gi v5 (sN S a21) <|
      lt_ (dI d a21 v5.toNatClampNeg) fun x24 =>
      if x19 = x24 then (
        kx142 d v1 v2 v3 v4 v5 v6)
      else (
        f_R_describe_J136 S o kx142 kb d v1 v2 v3 v4 v5 v6)))
set_option maxRecDepth 100000 in
set_option maxHeartbeats 4000000 in
theorem w_R_describe_B89 {X : GX} (hE : gE X b_R_describe 7 "StandInMillModel" none "describe" 5 119) {S : gS} {o : Nat} {r : Unit} {d' : gD} {kb : gD → Int32 → Int32 → Int32 → Int32 → Int32 → Int32 → Option (Unit × gD)} {kx142 : gD → Int32 → Int32 → Int32 → Int32 → Int32 → Int32 → Option (Unit × gD)} (hkb : ∀ (d : gD) (v1 : Int32) (v2 : Int32) (v3 : Int32) (v4 : Int32) (v5 : Int32) (v6 : Int32), kb d v1 v2 v3 v4 v5 v6 = some (r, d') → gw X 0 0 (gQ X (none) S d' 0 0) S d 89 [some (va_rf (some o)), some (.int v1), some (.int v2), some (.int v3), some (.int v4), some (.int v5), some (.int v6)] []) (hkx142 : ∀ (d : gD) (v1 : Int32) (v2 : Int32) (v3 : Int32) (v4 : Int32) (v5 : Int32) (v6 : Int32), kx142 d v1 v2 v3 v4 v5 v6 = some (r, d') → gw X 0 0 (gQ X (none) S d' 0 0) S d 142 [some (va_rf (some o)), some (.int v1), some (.int v2), some (.int v3), some (.int v4), some (.int v5), some (.int v6)] []) :
    ∀ (d : gD) (v1 : Int32) (v2 : Int32) (v3 : Int32) (v4 : Int32) (v5 : Int32) (v6 : Int32), f_R_describe_B89 S o kx142 kb d v1 v2 v3 v4 v5 v6 = some (r, d') → gw X 0 0 (gQ X (none) S d' 0 0) S d 89 [some (va_rf (some o)), some (.int v1), some (.int v2), some (.int v3), some (.int v4), some (.int v5), some (.int v6)] [] := by
  intro d v1 v2 v3 v4 v5 v6 h
  unfold f_R_describe_B89 at h
  refine g_iload (i := 6) hE d_R_describe_89 rfl ?_
  refine g_aload_n (i := 0) hE d_R_describe_91 rfl rfl ?_
  obtain ⟨k1, h⟩ := kd_s h
  refine g_getI 31 hE kc_R k1 (Nat.le_of_ble_eq_true rfl) rfl m_408 d_R_describe_92 (fun x2 e => ?_)
  replace h := lt_i e h; clear e
  refine g_icmp_ge hE d_R_describe_95 (fun c27 => ?_) (fun c27 => ?_)
  · replace h := if_t c27 h
    exact gw.less (lv' := [some (va_rf (some o)), some (.int v1), some (.int v2), some (.int v3), some (.int v4), some (.int v5), some (.int v6)]) (And.intro rfl (And.intro rfl (And.intro rfl (And.intro rfl (And.intro rfl (And.intro rfl (And.intro rfl trivial))))))) (hkx142 d v1 v2 v3 v4 v5 v6 h)
  · replace h := if_f c27 h
    refine g_aload_n (i := 0) hE d_R_describe_98 rfl rfl ?_
    refine g_aload_n (i := 0) hE d_R_describe_99 rfl rfl ?_
    refine g_getR 32 hE kc_R k1 (Nat.le_of_ble_eq_true rfl) rfl m_409 d_R_describe_100 (fun x3 e => ?_)
    replace h := lt_i e h; clear e
    refine g_iload (i := 6) hE d_R_describe_103 rfl ?_
    obtain ⟨a4, rfl, h⟩ := nn_s h
    obtain ⟨k5, h⟩ := kd_s h
    obtain ⟨g6, h⟩ := gi_s h
    refine g_iald hE k5 g6 d_R_describe_105 (fun x7 e => ?_)
    replace h := lt_i e h; clear e
    refine g_iload (i := 5) hE d_R_describe_106 rfl ?_
    obtain ⟨x8, e9, h⟩ := bd_s h
    refine g_callV (av := [.inr (.inr (some o)), .inl x7, .inl v5]) (as := [.inl x7, .inl v5]) (stk := [.int x8]) [] hE (c_R_sameSignature (xl X) (xG X) e9) ky_R_sameSignature ⟨Nat.le_of_ble_eq_true rfl, Nat.le_of_ble_eq_true rfl⟩ rfl kc_R k1 m_444 m_445 m_446 rfl d_R_describe_108 rfl rfl ct_0 (Nat.zero_le _) (Nat.zero_le _) ?_
    refine gw.cs (c2 := 0) (s2 := 0) rfl rfl ?_
    refine g_if_eq hE d_R_describe_111 (fun c26 => ?_) (fun c26 => ?_)
    · replace h := if_t c26 h
      exact gw.less (lv' := [some (va_rf (some o)), some (.int v1), some (.int v2), some (.int v3), some (.int v4), some (.int v5), some (.int v6)]) (And.intro rfl (And.intro rfl (And.intro rfl (And.intro rfl (And.intro rfl (And.intro rfl (And.intro rfl trivial))))))) (w_R_describe_J136 hE hkb hkx142 d v1 v2 v3 v4 v5 v6 h)
    · replace h := if_f c26 h
      refine g_aload_n (i := 0) hE d_R_describe_114 rfl rfl ?_
      refine g_getR 14 hE kc_R k1 (Nat.le_of_ble_eq_true rfl) rfl m_391 d_R_describe_115 (fun x10 e => ?_)
      replace h := lt_i e h; clear e
      refine g_aload_n (i := 0) hE d_R_describe_118 rfl rfl ?_
      refine g_getR 32 hE kc_R k1 (Nat.le_of_ble_eq_true rfl) rfl m_409 d_R_describe_119 (fun x11 e => ?_)
      replace h := lt_i e h; clear e
      refine g_iload (i := 6) hE d_R_describe_122 rfl ?_
      obtain ⟨a12, rfl, h⟩ := nn_s h
      obtain ⟨k13, h⟩ := kd_s h
      obtain ⟨g14, h⟩ := gi_s h
      refine g_iald hE k13 g14 d_R_describe_124 (fun x15 e => ?_)
      replace h := lt_i e h; clear e
      obtain ⟨a16, rfl, h⟩ := nn_s h
      obtain ⟨k17, h⟩ := kd_s h
      obtain ⟨g18, h⟩ := gi_s h
      refine g_iald hE k17 g18 d_R_describe_125 (fun x19 e => ?_)
      replace h := lt_i e h; clear e
      refine g_aload_n (i := 0) hE d_R_describe_126 rfl rfl ?_
      refine g_getR 14 hE kc_R k1 (Nat.le_of_ble_eq_true rfl) rfl m_391 d_R_describe_127 (fun x20 e => ?_)
      replace h := lt_i e h; clear e
      refine g_iload (i := 5) hE d_R_describe_130 rfl ?_
      obtain ⟨a21, rfl, h⟩ := nn_s h
      obtain ⟨k22, h⟩ := kd_s h
      obtain ⟨g23, h⟩ := gi_s h
      refine g_iald hE k22 g23 d_R_describe_132 (fun x24 e => ?_)
      replace h := lt_i e h; clear e
      refine g_icmp_eq hE d_R_describe_133 (fun c25 => ?_) (fun c25 => ?_)
      · replace h := if_t c25 h
        exact gw.less (lv' := [some (va_rf (some o)), some (.int v1), some (.int v2), some (.int v3), some (.int v4), some (.int v5), some (.int v6)]) (And.intro rfl (And.intro rfl (And.intro rfl (And.intro rfl (And.intro rfl (And.intro rfl (And.intro rfl trivial))))))) (hkx142 d v1 v2 v3 v4 v5 v6 h)
      · replace h := if_f c25 h
        exact gw.less (lv' := [some (va_rf (some o)), some (.int v1), some (.int v2), some (.int v3), some (.int v4), some (.int v5), some (.int v6)]) (And.intro rfl (And.intro rfl (And.intro rfl (And.intro rfl (And.intro rfl (And.intro rfl (And.intro rfl trivial))))))) (w_R_describe_J136 hE hkb hkx142 d v1 v2 v3 v4 v5 v6 h)
theorem w_R_describe_L89 {X : GX} (hE : gE X b_R_describe 7 "StandInMillModel" none "describe" 5 119) {S : gS} {o : Nat} {r : Unit} {d' : gD} {kx142 : gD → Int32 → Int32 → Int32 → Int32 → Int32 → Int32 → Option (Unit × gD)} (hkx142 : ∀ (d : gD) (v1 : Int32) (v2 : Int32) (v3 : Int32) (v4 : Int32) (v5 : Int32) (v6 : Int32), kx142 d v1 v2 v3 v4 v5 v6 = some (r, d') → gw X 0 0 (gQ X (none) S d' 0 0) S d 142 [some (va_rf (some o)), some (.int v1), some (.int v2), some (.int v3), some (.int v4), some (.int v5), some (.int v6)] []) : ∀ (n : Nat) (d : gD) (v1 : Int32) (v2 : Int32) (v3 : Int32) (v4 : Int32) (v5 : Int32) (v6 : Int32), itr (f_R_describe_B89 S o kx142) (fun _ _ _ _ _ _ _ => none) n d v1 v2 v3 v4 v5 v6 = some (r, d') → gw X 0 0 (gQ X (none) S d' 0 0) S d 89 [some (va_rf (some o)), some (.int v1), some (.int v2), some (.int v3), some (.int v4), some (.int v5), some (.int v6)] [] := by
  intro n
  induction n with
  | zero => intro d v1 v2 v3 v4 v5 v6 h; cases h
  | succ n ih => exact w_R_describe_B89 hE ih hkx142
def f_R_describe_J168 (S : gS) (o : Nat) (kx174 : gD → Int32 → Int32 → Option (Unit × gD)) (kb : gD → Int32 → Int32 → Int32 → Int32 → Option (Unit × gD)) (d : gD) (v1 : Int32) (v2 : Int32) (v3 : Int32) (v4 : Int32) : Option (Unit × gD) :=
  kb d v1 v2 v3 (v4 + 1)
set_option maxRecDepth 100000 in
set_option maxHeartbeats 4000000 in
theorem w_R_describe_J168 {X : GX} (hE : gE X b_R_describe 7 "StandInMillModel" none "describe" 5 119) {S : gS} {o : Nat} {r : Unit} {d' : gD} {kb : gD → Int32 → Int32 → Int32 → Int32 → Option (Unit × gD)} {kx174 : gD → Int32 → Int32 → Option (Unit × gD)} (hkb : ∀ (d : gD) (v1 : Int32) (v2 : Int32) (v3 : Int32) (v4 : Int32), kb d v1 v2 v3 v4 = some (r, d') → gw X 0 0 (gQ X (none) S d' 0 0) S d 61 [some (va_rf (some o)), some (.int v1), some (.int v2), some (.int v3), some (.int v4), none, none] []) (hkx174 : ∀ (d : gD) (v1 : Int32) (v2 : Int32), kx174 d v1 v2 = some (r, d') → gw X 0 0 (gQ X (none) S d' 0 0) S d 174 [some (va_rf (some o)), some (.int v1), some (.int v2), none, none, none, none] []) :
    ∀ (d : gD) (v1 : Int32) (v2 : Int32) (v3 : Int32) (v4 : Int32), f_R_describe_J168 S o kx174 kb d v1 v2 v3 v4 = some (r, d') → gw X 0 0 (gQ X (none) S d' 0 0) S d 168 [some (va_rf (some o)), some (.int v1), some (.int v2), some (.int v3), some (.int v4), none, none] [] := by
  intro d v1 v2 v3 v4 h
  unfold f_R_describe_J168 at h
  refine g_iinc (i := 4) (lv' := [some (va_rf (some o)), some (.int v1), some (.int v2), some (.int v3), some (.int (v4 + 1)), none, none]) hE d_R_describe_168 ki_1 rfl (Nat.le_of_ble_eq_true rfl) ⟨rfl, Nat.le_of_ble_eq_true rfl⟩ (lvp_i rfl) ?_
  refine g_goto hE d_R_describe_171 ?_
  exact gw.less (lv' := [some (va_rf (some o)), some (.int v1), some (.int v2), some (.int v3), some (.int (v4 + 1)), none, none]) (And.intro rfl (And.intro rfl (And.intro rfl (And.intro rfl (And.intro rfl trivial))))) (hkb d v1 v2 v3 (v4 + 1) h)
def f_R_describe_J142 (S : gS) (o : Nat) (kx174 : gD → Int32 → Int32 → Option (Unit × gD)) (kb : gD → Int32 → Int32 → Int32 → Int32 → Option (Unit × gD)) (d : gD) (v1 : Int32) (v2 : Int32) (v3 : Int32) (v4 : Int32) (v5 : Int32) (v6 : Int32) : Option (Unit × gD) :=
  kd S o 10 <|
  lt_ (dI d o 31) fun x2 =>
  if x2 ≤ v6 then (
    bdD (f_R_add S d o v5) fun _ d5 =>
    f_R_describe_J168 S o kx174 kb d5 v1 v2 v3 v4)
  else (
    bdD (f_R_merge S d o v6 v5) fun _ d8 =>
    f_R_describe_J168 S o kx174 kb d8 v1 v2 v3 v4)
set_option maxRecDepth 100000 in
set_option maxHeartbeats 4000000 in
theorem w_R_describe_J142 {X : GX} (hE : gE X b_R_describe 7 "StandInMillModel" none "describe" 5 119) {S : gS} {o : Nat} {r : Unit} {d' : gD} {kb : gD → Int32 → Int32 → Int32 → Int32 → Option (Unit × gD)} {kx174 : gD → Int32 → Int32 → Option (Unit × gD)} (hkb : ∀ (d : gD) (v1 : Int32) (v2 : Int32) (v3 : Int32) (v4 : Int32), kb d v1 v2 v3 v4 = some (r, d') → gw X 0 0 (gQ X (none) S d' 0 0) S d 61 [some (va_rf (some o)), some (.int v1), some (.int v2), some (.int v3), some (.int v4), none, none] []) (hkx174 : ∀ (d : gD) (v1 : Int32) (v2 : Int32), kx174 d v1 v2 = some (r, d') → gw X 0 0 (gQ X (none) S d' 0 0) S d 174 [some (va_rf (some o)), some (.int v1), some (.int v2), none, none, none, none] []) :
    ∀ (d : gD) (v1 : Int32) (v2 : Int32) (v3 : Int32) (v4 : Int32) (v5 : Int32) (v6 : Int32), f_R_describe_J142 S o kx174 kb d v1 v2 v3 v4 v5 v6 = some (r, d') → gw X 0 0 (gQ X (none) S d' 0 0) S d 142 [some (va_rf (some o)), some (.int v1), some (.int v2), some (.int v3), some (.int v4), some (.int v5), some (.int v6)] [] := by
  intro d v1 v2 v3 v4 v5 v6 h
  unfold f_R_describe_J142 at h
  refine g_iload (i := 6) hE d_R_describe_142 rfl ?_
  refine g_aload_n (i := 0) hE d_R_describe_144 rfl rfl ?_
  obtain ⟨k1, h⟩ := kd_s h
  refine g_getI 31 hE kc_R k1 (Nat.le_of_ble_eq_true rfl) rfl m_408 d_R_describe_145 (fun x2 e => ?_)
  replace h := lt_i e h; clear e
  refine g_icmp_ge hE d_R_describe_148 (fun c9 => ?_) (fun c9 => ?_)
  · replace h := if_t c9 h
    refine g_aload_n (i := 0) hE d_R_describe_162 rfl rfl ?_
    refine g_iload (i := 5) hE d_R_describe_163 rfl ?_
    obtain ⟨x3, d5, e4, h⟩ := bdD_s h
    refine g_callV (av := [.inr (.inr (some o)), .inl v5]) (as := [.inl v5]) (stk := []) [] hE (c_R_add (xl X) (xG X) e4) ky_R_add ⟨Nat.le_of_ble_eq_true rfl, Nat.le_of_ble_eq_true rfl⟩ rfl kc_R k1 m_456 m_457 m_458 rfl d_R_describe_165 rfl rfl ct_0 (Nat.zero_le _) (Nat.zero_le _) ?_
    refine gw.cs (c2 := 0) (s2 := 0) rfl rfl ?_
    exact gw.less (lv' := [some (va_rf (some o)), some (.int v1), some (.int v2), some (.int v3), some (.int v4), none, none]) (And.intro rfl (And.intro rfl (And.intro rfl (And.intro rfl (And.intro rfl trivial))))) (w_R_describe_J168 hE hkb hkx174 d5 v1 v2 v3 v4 h)
  · replace h := if_f c9 h
    refine g_aload_n (i := 0) hE d_R_describe_151 rfl rfl ?_
    refine g_iload (i := 6) hE d_R_describe_152 rfl ?_
    refine g_iload (i := 5) hE d_R_describe_154 rfl ?_
    obtain ⟨x6, d8, e7, h⟩ := bdD_s h
    refine g_callV (av := [.inr (.inr (some o)), .inl v6, .inl v5]) (as := [.inl v6, .inl v5]) (stk := []) [] hE (c_R_merge (xl X) (xG X) e7) ky_R_merge ⟨Nat.le_of_ble_eq_true rfl, Nat.le_of_ble_eq_true rfl⟩ rfl kc_R k1 m_459 m_460 m_461 rfl d_R_describe_156 rfl rfl ct_0 (Nat.zero_le _) (Nat.zero_le _) ?_
    refine gw.cs (c2 := 0) (s2 := 0) rfl rfl ?_
    refine g_goto hE d_R_describe_159 ?_
    exact gw.less (lv' := [some (va_rf (some o)), some (.int v1), some (.int v2), some (.int v3), some (.int v4), none, none]) (And.intro rfl (And.intro rfl (And.intro rfl (And.intro rfl (And.intro rfl trivial))))) (w_R_describe_J168 hE hkb hkx174 d8 v1 v2 v3 v4 h)
def f_R_describe_B61 (S : gS) (o : Nat) (kx174 : gD → Int32 → Int32 → Option (Unit × gD)) (kb : gD → Int32 → Int32 → Int32 → Int32 → Option (Unit × gD)) (d : gD) (v1 : Int32) (v2 : Int32) (v3 : Int32) (v4 : Int32) : Option (Unit × gD) :=
  kd S o 10 <|
  lt_ (sP S o 30) fun x2 =>
  nn x2 fun a3 =>
  kd S a3 50 <|
  gi v3 (sN S a3) <|
  lt_ (dI d a3 v3.toNatClampNeg) fun x6 =>
  if x6 ≤ v4 then (
    kx174 d v1 v2)
  else (
    lt_ (sP S o 29) fun x7 =>
    nn x7 fun a8 =>
    kd S a8 50 <|
    gi ((72 * v3) + v4) (sN S a8) <|
    lt_ (dI d a8 ((72 * v3) + v4 : Int32).toNatClampNeg) fun x11 =>
    itr (f_R_describe_B89 S o (f_R_describe_J142 S o kx174 kb)) (fun _ _ _ _ _ _ _ => none) fu d v1 v2 v3 v4 x11 0)
set_option maxRecDepth 100000 in
set_option maxHeartbeats 4000000 in
theorem w_R_describe_B61 {X : GX} (hE : gE X b_R_describe 7 "StandInMillModel" none "describe" 5 119) {S : gS} {o : Nat} {r : Unit} {d' : gD} {kb : gD → Int32 → Int32 → Int32 → Int32 → Option (Unit × gD)} {kx174 : gD → Int32 → Int32 → Option (Unit × gD)} (hkb : ∀ (d : gD) (v1 : Int32) (v2 : Int32) (v3 : Int32) (v4 : Int32), kb d v1 v2 v3 v4 = some (r, d') → gw X 0 0 (gQ X (none) S d' 0 0) S d 61 [some (va_rf (some o)), some (.int v1), some (.int v2), some (.int v3), some (.int v4), none, none] []) (hkx174 : ∀ (d : gD) (v1 : Int32) (v2 : Int32), kx174 d v1 v2 = some (r, d') → gw X 0 0 (gQ X (none) S d' 0 0) S d 174 [some (va_rf (some o)), some (.int v1), some (.int v2), none, none, none, none] []) :
    ∀ (d : gD) (v1 : Int32) (v2 : Int32) (v3 : Int32) (v4 : Int32), f_R_describe_B61 S o kx174 kb d v1 v2 v3 v4 = some (r, d') → gw X 0 0 (gQ X (none) S d' 0 0) S d 61 [some (va_rf (some o)), some (.int v1), some (.int v2), some (.int v3), some (.int v4), none, none] [] := by
  intro d v1 v2 v3 v4 h
  unfold f_R_describe_B61 at h
  refine g_iload (i := 4) hE d_R_describe_61 rfl ?_
  refine g_aload_n (i := 0) hE d_R_describe_63 rfl rfl ?_
  obtain ⟨k1, h⟩ := kd_s h
  refine g_getR 30 hE kc_R k1 (Nat.le_of_ble_eq_true rfl) rfl m_407 d_R_describe_64 (fun x2 e => ?_)
  replace h := lt_i e h; clear e
  refine g_iload_n (i := 3) hE d_R_describe_67 rfl rfl ?_
  obtain ⟨a3, rfl, h⟩ := nn_s h
  obtain ⟨k4, h⟩ := kd_s h
  obtain ⟨g5, h⟩ := gi_s h
  refine g_iald hE k4 g5 d_R_describe_68 (fun x6 e => ?_)
  replace h := lt_i e h; clear e
  refine g_icmp_ge hE d_R_describe_69 (fun c12 => ?_) (fun c12 => ?_)
  · replace h := if_t c12 h
    exact gw.less (lv' := [some (va_rf (some o)), some (.int v1), some (.int v2), none, none, none, none]) (And.intro rfl (And.intro rfl (And.intro rfl trivial))) (hkx174 d v1 v2 h)
  · replace h := if_f c12 h
    refine g_aload_n (i := 0) hE d_R_describe_72 rfl rfl ?_
    refine g_getR 29 hE kc_R k1 (Nat.le_of_ble_eq_true rfl) rfl m_406 d_R_describe_73 (fun x7 e => ?_)
    replace h := lt_i e h; clear e
    refine g_bipush hE d_R_describe_76 kb_72 ?_
    refine g_iload_n (i := 3) hE d_R_describe_78 rfl rfl ?_
    refine g_imul hE d_R_describe_79 ?_
    refine g_iload (i := 4) hE d_R_describe_80 rfl ?_
    refine g_iadd hE d_R_describe_82 ?_
    obtain ⟨a8, rfl, h⟩ := nn_s h
    obtain ⟨k9, h⟩ := kd_s h
    obtain ⟨g10, h⟩ := gi_s h
    refine g_iald hE k9 g10 d_R_describe_83 (fun x11 e => ?_)
    replace h := lt_i e h; clear e
    refine g_istore (i := 5) (lv' := [some (va_rf (some o)), some (.int v1), some (.int v2), some (.int v3), some (.int v4), some (.int x11), none]) hE d_R_describe_84 (Nat.le_of_ble_eq_true rfl) ⟨rfl, Nat.le_of_ble_eq_true rfl⟩ (lvp_i rfl) ?_
    refine g_iconst hE d_R_describe_86 ki_0 ?_
    refine g_istore (i := 6) (lv' := [some (va_rf (some o)), some (.int v1), some (.int v2), some (.int v3), some (.int v4), some (.int x11), some (.int 0)]) hE d_R_describe_87 (Nat.le_of_ble_eq_true rfl) ⟨rfl, Nat.le_of_ble_eq_true rfl⟩ (lvp_i rfl) ?_
    exact gw.less (lv' := [some (va_rf (some o)), some (.int v1), some (.int v2), some (.int v3), some (.int v4), some (.int x11), some (.int 0)]) (And.intro rfl (And.intro rfl (And.intro rfl (And.intro rfl (And.intro rfl (And.intro rfl (And.intro rfl trivial))))))) (w_R_describe_L89 hE (w_R_describe_J142 hE hkb hkx174) fu d v1 v2 v3 v4 x11 0 h)
theorem w_R_describe_L61 {X : GX} (hE : gE X b_R_describe 7 "StandInMillModel" none "describe" 5 119) {S : gS} {o : Nat} {r : Unit} {d' : gD} {kx174 : gD → Int32 → Int32 → Option (Unit × gD)} (hkx174 : ∀ (d : gD) (v1 : Int32) (v2 : Int32), kx174 d v1 v2 = some (r, d') → gw X 0 0 (gQ X (none) S d' 0 0) S d 174 [some (va_rf (some o)), some (.int v1), some (.int v2), none, none, none, none] []) : ∀ (n : Nat) (d : gD) (v1 : Int32) (v2 : Int32) (v3 : Int32) (v4 : Int32), itr (f_R_describe_B61 S o kx174) (fun _ _ _ _ _ => none) n d v1 v2 v3 v4 = some (r, d') → gw X 0 0 (gQ X (none) S d' 0 0) S d 61 [some (va_rf (some o)), some (.int v1), some (.int v2), some (.int v3), some (.int v4), none, none] [] := by
  intro n
  induction n with
  | zero => intro d v1 v2 v3 v4 h; cases h
  | succ n ih => exact w_R_describe_B61 hE ih hkx174
def f_R_describe_J174 (S : gS) (o : Nat) (kx180 : gD → Option (Unit × gD)) (kb : gD → Int32 → Int32 → Option (Unit × gD)) (d : gD) (v1 : Int32) (v2 : Int32) : Option (Unit × gD) :=
  kb d v1 (v2 + 8)
set_option maxRecDepth 100000 in
set_option maxHeartbeats 4000000 in
theorem w_R_describe_J174 {X : GX} (hE : gE X b_R_describe 7 "StandInMillModel" none "describe" 5 119) {S : gS} {o : Nat} {r : Unit} {d' : gD} {kb : gD → Int32 → Int32 → Option (Unit × gD)} {kx180 : gD → Option (Unit × gD)} (hkb : ∀ (d : gD) (v1 : Int32) (v2 : Int32), kb d v1 v2 = some (r, d') → gw X 0 0 (gQ X (none) S d' 0 0) S d 31 [some (va_rf (some o)), some (.int v1), some (.int v2), none, none, none, none] []) (hkx180 : ∀ (d : gD), kx180 d = some (r, d') → gw X 0 0 (gQ X (none) S d' 0 0) S d 180 [some (va_rf (some o)), none, none, none, none, none, none] []) :
    ∀ (d : gD) (v1 : Int32) (v2 : Int32), f_R_describe_J174 S o kx180 kb d v1 v2 = some (r, d') → gw X 0 0 (gQ X (none) S d' 0 0) S d 174 [some (va_rf (some o)), some (.int v1), some (.int v2), none, none, none, none] [] := by
  intro d v1 v2 h
  unfold f_R_describe_J174 at h
  refine g_iinc (i := 2) (lv' := [some (va_rf (some o)), some (.int v1), some (.int (v2 + 8)), none, none, none, none]) hE d_R_describe_174 ki_8 rfl (Nat.le_of_ble_eq_true rfl) ⟨rfl, Nat.le_of_ble_eq_true rfl⟩ (lvp_i rfl) ?_
  refine g_goto hE d_R_describe_177 ?_
  exact gw.less (lv' := [some (va_rf (some o)), some (.int v1), some (.int (v2 + 8)), none, none, none, none]) (And.intro rfl (And.intro rfl (And.intro rfl trivial))) (hkb d v1 (v2 + 8) h)
def f_R_describe_B31 (S : gS) (o : Nat) (kx180 : gD → Option (Unit × gD)) (kb : gD → Int32 → Int32 → Option (Unit × gD)) (d : gD) (v1 : Int32) (v2 : Int32) : Option (Unit × gD) :=
  if 32 ≤ v2 then (
    kx180 d)
  else (
    if ((v1 >>> (v2 &&& 31)) &&& 255) = 0 then (
      kx180 d)
    else (
      itr (f_R_describe_B61 S o (f_R_describe_J174 S o kx180 kb)) (fun _ _ _ _ _ => none) fu d v1 v2 (((v1 >>> (v2 &&& 31)) &&& 255) - 24) 0))
set_option maxRecDepth 100000 in
set_option maxHeartbeats 4000000 in
theorem w_R_describe_B31 {X : GX} (hE : gE X b_R_describe 7 "StandInMillModel" none "describe" 5 119) {S : gS} {o : Nat} {r : Unit} {d' : gD} {kb : gD → Int32 → Int32 → Option (Unit × gD)} {kx180 : gD → Option (Unit × gD)} (hkb : ∀ (d : gD) (v1 : Int32) (v2 : Int32), kb d v1 v2 = some (r, d') → gw X 0 0 (gQ X (none) S d' 0 0) S d 31 [some (va_rf (some o)), some (.int v1), some (.int v2), none, none, none, none] []) (hkx180 : ∀ (d : gD), kx180 d = some (r, d') → gw X 0 0 (gQ X (none) S d' 0 0) S d 180 [some (va_rf (some o)), none, none, none, none, none, none] []) :
    ∀ (d : gD) (v1 : Int32) (v2 : Int32), f_R_describe_B31 S o kx180 kb d v1 v2 = some (r, d') → gw X 0 0 (gQ X (none) S d' 0 0) S d 31 [some (va_rf (some o)), some (.int v1), some (.int v2), none, none, none, none] [] := by
  intro d v1 v2 h
  unfold f_R_describe_B31 at h
  refine g_iload_n (i := 2) hE d_R_describe_31 rfl rfl ?_
  refine g_bipush hE d_R_describe_32 kb_32 ?_
  refine g_icmp_ge hE d_R_describe_34 (fun c2 => ?_) (fun c2 => ?_)
  · replace h := if_t c2 h
    exact gw.less (lv' := [some (va_rf (some o)), none, none, none, none, none, none]) (And.intro rfl trivial) (hkx180 d h)
  · replace h := if_f c2 h
    refine g_iload_n (i := 1) hE d_R_describe_37 rfl rfl ?_
    refine g_iload_n (i := 2) hE d_R_describe_38 rfl rfl ?_
    refine g_ishr hE d_R_describe_39 ?_
    refine g_sipush hE d_R_describe_40 ks_255 ?_
    refine g_iand hE d_R_describe_43 ?_
    refine g_if_eq hE d_R_describe_44 (fun c1 => ?_) (fun c1 => ?_)
    · replace h := if_t c1 h
      exact gw.less (lv' := [some (va_rf (some o)), none, none, none, none, none, none]) (And.intro rfl trivial) (hkx180 d h)
    · replace h := if_f c1 h
      refine g_iload_n (i := 1) hE d_R_describe_47 rfl rfl ?_
      refine g_iload_n (i := 2) hE d_R_describe_48 rfl rfl ?_
      refine g_ishr hE d_R_describe_49 ?_
      refine g_sipush hE d_R_describe_50 ks_255 ?_
      refine g_iand hE d_R_describe_53 ?_
      refine g_bipush hE d_R_describe_54 kb_24 ?_
      refine g_isub hE d_R_describe_56 ?_
      refine g_istore_n (i := 3) (lv' := [some (va_rf (some o)), some (.int v1), some (.int v2), some (.int (((v1 >>> (v2 &&& 31)) &&& 255) - 24)), none, none, none]) hE d_R_describe_57 rfl (Nat.le_of_ble_eq_true rfl) ⟨rfl, Nat.le_of_ble_eq_true rfl⟩ (lvp_i rfl) ?_
      refine g_iconst hE d_R_describe_58 ki_0 ?_
      refine g_istore (i := 4) (lv' := [some (va_rf (some o)), some (.int v1), some (.int v2), some (.int (((v1 >>> (v2 &&& 31)) &&& 255) - 24)), some (.int 0), none, none]) hE d_R_describe_59 (Nat.le_of_ble_eq_true rfl) ⟨rfl, Nat.le_of_ble_eq_true rfl⟩ (lvp_i rfl) ?_
      exact gw.less (lv' := [some (va_rf (some o)), some (.int v1), some (.int v2), some (.int (((v1 >>> (v2 &&& 31)) &&& 255) - 24)), some (.int 0), none, none]) (And.intro rfl (And.intro rfl (And.intro rfl (And.intro rfl (And.intro rfl trivial))))) (w_R_describe_L61 hE (w_R_describe_J174 hE hkb hkx180) fu d v1 v2 (((v1 >>> (v2 &&& 31)) &&& 255) - 24) 0 h)
theorem w_R_describe_L31 {X : GX} (hE : gE X b_R_describe 7 "StandInMillModel" none "describe" 5 119) {S : gS} {o : Nat} {r : Unit} {d' : gD} {kx180 : gD → Option (Unit × gD)} (hkx180 : ∀ (d : gD), kx180 d = some (r, d') → gw X 0 0 (gQ X (none) S d' 0 0) S d 180 [some (va_rf (some o)), none, none, none, none, none, none] []) : ∀ (n : Nat) (d : gD) (v1 : Int32) (v2 : Int32), itr (f_R_describe_B31 S o kx180) (fun _ _ _ => none) n d v1 v2 = some (r, d') → gw X 0 0 (gQ X (none) S d' 0 0) S d 31 [some (va_rf (some o)), some (.int v1), some (.int v2), none, none, none, none] [] := by
  intro n
  induction n with
  | zero => intro d v1 v2 h; cases h
  | succ n ih => exact w_R_describe_B31 hE ih hkx180
def f_R_describe_J227 (S : gS) (o : Nat) (kx233 : gD → Int32 → Int32 → Int32 → Option (Unit × gD)) (kb : gD → Int32 → Int32 → Int32 → Int32 → Option (Unit × gD)) (d : gD) (v2 : Int32) (v3 : Int32) (v4 : Int32) (v5 : Int32) : Option (Unit × gD) :=
  kb d v2 v3 v4 (v5 + 1)
set_option maxRecDepth 100000 in
set_option maxHeartbeats 4000000 in
theorem w_R_describe_J227 {X : GX} (hE : gE X b_R_describe 7 "StandInMillModel" none "describe" 5 119) {S : gS} {o : Nat} {r : Unit} {d' : gD} {kb : gD → Int32 → Int32 → Int32 → Int32 → Option (Unit × gD)} {kx233 : gD → Int32 → Int32 → Int32 → Option (Unit × gD)} (hkb : ∀ (d : gD) (v2 : Int32) (v3 : Int32) (v4 : Int32) (v5 : Int32), kb d v2 v3 v4 v5 = some (r, d') → gw X 0 0 (gQ X (none) S d' 0 0) S d 198 [some (va_rf (some o)), none, some (.int v2), some (.int v3), some (.int v4), some (.int v5), none] []) (hkx233 : ∀ (d : gD) (v2 : Int32) (v3 : Int32) (v4 : Int32), kx233 d v2 v3 v4 = some (r, d') → gw X 0 0 (gQ X (none) S d' 0 0) S d 233 [some (va_rf (some o)), none, some (.int v2), some (.int v3), some (.int v4), none, none] []) :
    ∀ (d : gD) (v2 : Int32) (v3 : Int32) (v4 : Int32) (v5 : Int32), f_R_describe_J227 S o kx233 kb d v2 v3 v4 v5 = some (r, d') → gw X 0 0 (gQ X (none) S d' 0 0) S d 227 [some (va_rf (some o)), none, some (.int v2), some (.int v3), some (.int v4), some (.int v5), none] [] := by
  intro d v2 v3 v4 v5 h
  unfold f_R_describe_J227 at h
  refine g_iinc (i := 5) (lv' := [some (va_rf (some o)), none, some (.int v2), some (.int v3), some (.int v4), some (.int (v5 + 1)), none]) hE d_R_describe_227 ki_1 rfl (Nat.le_of_ble_eq_true rfl) ⟨rfl, Nat.le_of_ble_eq_true rfl⟩ (lvp_i rfl) ?_
  refine g_goto hE d_R_describe_230 ?_
  exact gw.less (lv' := [some (va_rf (some o)), none, some (.int v2), some (.int v3), some (.int v4), some (.int (v5 + 1)), none]) (And.intro rfl (And.intro rfl (And.intro rfl (And.intro rfl (And.intro rfl trivial))))) (hkb d v2 v3 v4 (v5 + 1) h)
def f_R_describe_B198 (S : gS) (o : Nat) (kx233 : gD → Int32 → Int32 → Int32 → Option (Unit × gD)) (kb : gD → Int32 → Int32 → Int32 → Int32 → Option (Unit × gD)) (d : gD) (v2 : Int32) (v3 : Int32) (v4 : Int32) (v5 : Int32) : Option (Unit × gD) :=
  if v3 ≤ v5 then (
    kx233 d v2 v3 v4)
  else (
    kd S o 10 <|
    lt_ (sP S o 32) fun x2 =>
    nn x2 fun a3 =>
    kd S a3 50 <|
    gi v3 (sN S a3) <|
    lt_ (dI d a3 v3.toNatClampNeg) fun x6 =>
    lt_ (sP S o 32) fun x7 =>
    nn x7 fun a8 =>
    kd S a8 50 <|
    gi v5 (sN S a8) <|
    lt_ (dI d a8 v5.toNatClampNeg) fun x11 =>
    bd (f_R_sameSignature S d o x6 x11) fun x12 =>
    if x12 = 0 then (
      f_R_describe_J227 S o kx233 kb d v2 v3 v4 v5)
    else (
      f_R_describe_J227 S o kx233 kb d v2 v3 0 v5))
set_option maxRecDepth 100000 in
set_option maxHeartbeats 4000000 in
theorem w_R_describe_B198 {X : GX} (hE : gE X b_R_describe 7 "StandInMillModel" none "describe" 5 119) {S : gS} {o : Nat} {r : Unit} {d' : gD} {kb : gD → Int32 → Int32 → Int32 → Int32 → Option (Unit × gD)} {kx233 : gD → Int32 → Int32 → Int32 → Option (Unit × gD)} (hkb : ∀ (d : gD) (v2 : Int32) (v3 : Int32) (v4 : Int32) (v5 : Int32), kb d v2 v3 v4 v5 = some (r, d') → gw X 0 0 (gQ X (none) S d' 0 0) S d 198 [some (va_rf (some o)), none, some (.int v2), some (.int v3), some (.int v4), some (.int v5), none] []) (hkx233 : ∀ (d : gD) (v2 : Int32) (v3 : Int32) (v4 : Int32), kx233 d v2 v3 v4 = some (r, d') → gw X 0 0 (gQ X (none) S d' 0 0) S d 233 [some (va_rf (some o)), none, some (.int v2), some (.int v3), some (.int v4), none, none] []) :
    ∀ (d : gD) (v2 : Int32) (v3 : Int32) (v4 : Int32) (v5 : Int32), f_R_describe_B198 S o kx233 kb d v2 v3 v4 v5 = some (r, d') → gw X 0 0 (gQ X (none) S d' 0 0) S d 198 [some (va_rf (some o)), none, some (.int v2), some (.int v3), some (.int v4), some (.int v5), none] [] := by
  intro d v2 v3 v4 v5 h
  unfold f_R_describe_B198 at h
  refine g_iload (i := 5) hE d_R_describe_198 rfl ?_
  refine g_iload_n (i := 3) hE d_R_describe_200 rfl rfl ?_
  refine g_icmp_ge hE d_R_describe_201 (fun c15 => ?_) (fun c15 => ?_)
  · replace h := if_t c15 h
    exact gw.less (lv' := [some (va_rf (some o)), none, some (.int v2), some (.int v3), some (.int v4), none, none]) (And.intro rfl (And.intro rfl (And.intro rfl (And.intro rfl trivial)))) (hkx233 d v2 v3 v4 h)
  · replace h := if_f c15 h
    refine g_aload_n (i := 0) hE d_R_describe_204 rfl rfl ?_
    refine g_aload_n (i := 0) hE d_R_describe_205 rfl rfl ?_
    obtain ⟨k1, h⟩ := kd_s h
    refine g_getR 32 hE kc_R k1 (Nat.le_of_ble_eq_true rfl) rfl m_409 d_R_describe_206 (fun x2 e => ?_)
    replace h := lt_i e h; clear e
    refine g_iload_n (i := 3) hE d_R_describe_209 rfl rfl ?_
    obtain ⟨a3, rfl, h⟩ := nn_s h
    obtain ⟨k4, h⟩ := kd_s h
    obtain ⟨g5, h⟩ := gi_s h
    refine g_iald hE k4 g5 d_R_describe_210 (fun x6 e => ?_)
    replace h := lt_i e h; clear e
    refine g_aload_n (i := 0) hE d_R_describe_211 rfl rfl ?_
    refine g_getR 32 hE kc_R k1 (Nat.le_of_ble_eq_true rfl) rfl m_409 d_R_describe_212 (fun x7 e => ?_)
    replace h := lt_i e h; clear e
    refine g_iload (i := 5) hE d_R_describe_215 rfl ?_
    obtain ⟨a8, rfl, h⟩ := nn_s h
    obtain ⟨k9, h⟩ := kd_s h
    obtain ⟨g10, h⟩ := gi_s h
    refine g_iald hE k9 g10 d_R_describe_217 (fun x11 e => ?_)
    replace h := lt_i e h; clear e
    obtain ⟨x12, e13, h⟩ := bd_s h
    refine g_callV (av := [.inr (.inr (some o)), .inl x6, .inl x11]) (as := [.inl x6, .inl x11]) (stk := [.int x12]) [] hE (c_R_sameSignature (xl X) (xG X) e13) ky_R_sameSignature ⟨Nat.le_of_ble_eq_true rfl, Nat.le_of_ble_eq_true rfl⟩ rfl kc_R k1 m_444 m_445 m_446 rfl d_R_describe_218 rfl rfl ct_0 (Nat.zero_le _) (Nat.zero_le _) ?_
    refine gw.cs (c2 := 0) (s2 := 0) rfl rfl ?_
    refine g_if_eq hE d_R_describe_221 (fun c14 => ?_) (fun c14 => ?_)
    · replace h := if_t c14 h
      exact gw.less (lv' := [some (va_rf (some o)), none, some (.int v2), some (.int v3), some (.int v4), some (.int v5), none]) (And.intro rfl (And.intro rfl (And.intro rfl (And.intro rfl (And.intro rfl trivial))))) (w_R_describe_J227 hE hkb hkx233 d v2 v3 v4 v5 h)
    · replace h := if_f c14 h
      refine g_iconst hE d_R_describe_224 ki_0 ?_
      refine g_istore (i := 4) (lv' := [some (va_rf (some o)), none, some (.int v2), some (.int v3), some (.int 0), some (.int v5), none]) hE d_R_describe_225 (Nat.le_of_ble_eq_true rfl) ⟨rfl, Nat.le_of_ble_eq_true rfl⟩ (lvp_i rfl) ?_
      exact gw.less (lv' := [some (va_rf (some o)), none, some (.int v2), some (.int v3), some (.int 0), some (.int v5), none]) (And.intro rfl (And.intro rfl (And.intro rfl (And.intro rfl (And.intro rfl trivial))))) (w_R_describe_J227 hE hkb hkx233 d v2 v3 0 v5 h)
theorem w_R_describe_L198 {X : GX} (hE : gE X b_R_describe 7 "StandInMillModel" none "describe" 5 119) {S : gS} {o : Nat} {r : Unit} {d' : gD} {kx233 : gD → Int32 → Int32 → Int32 → Option (Unit × gD)} (hkx233 : ∀ (d : gD) (v2 : Int32) (v3 : Int32) (v4 : Int32), kx233 d v2 v3 v4 = some (r, d') → gw X 0 0 (gQ X (none) S d' 0 0) S d 233 [some (va_rf (some o)), none, some (.int v2), some (.int v3), some (.int v4), none, none] []) : ∀ (n : Nat) (d : gD) (v2 : Int32) (v3 : Int32) (v4 : Int32) (v5 : Int32), itr (f_R_describe_B198 S o kx233) (fun _ _ _ _ _ => none) n d v2 v3 v4 v5 = some (r, d') → gw X 0 0 (gQ X (none) S d' 0 0) S d 198 [some (va_rf (some o)), none, some (.int v2), some (.int v3), some (.int v4), some (.int v5), none] [] := by
  intro n
  induction n with
  | zero => intro d v2 v3 v4 v5 h; cases h
  | succ n ih => exact w_R_describe_B198 hE ih hkx233
def f_R_describe_J287 (S : gS) (o : Nat) (kb : gD → Int32 → Int32 → Option (Unit × gD)) (d : gD) (v2 : Int32) (v3 : Int32) : Option (Unit × gD) :=
  kb d v2 (v3 + 1)
set_option maxRecDepth 100000 in
set_option maxHeartbeats 4000000 in
theorem w_R_describe_J287 {X : GX} (hE : gE X b_R_describe 7 "StandInMillModel" none "describe" 5 119) {S : gS} {o : Nat} {r : Unit} {d' : gD} {kb : gD → Int32 → Int32 → Option (Unit × gD)} (hkb : ∀ (d : gD) (v2 : Int32) (v3 : Int32), kb d v2 v3 = some (r, d') → gw X 0 0 (gQ X (none) S d' 0 0) S d 184 [some (va_rf (some o)), none, some (.int v2), some (.int v3), none, none, none] []) :
    ∀ (d : gD) (v2 : Int32) (v3 : Int32), f_R_describe_J287 S o kb d v2 v3 = some (r, d') → gw X 0 0 (gQ X (none) S d' 0 0) S d 287 [some (va_rf (some o)), none, some (.int v2), some (.int v3), none, none, none] [] := by
  intro d v2 v3 h
  unfold f_R_describe_J287 at h
  refine g_iinc (i := 3) (lv' := [some (va_rf (some o)), none, some (.int v2), some (.int (v3 + 1)), none, none, none]) hE d_R_describe_287 ki_1 rfl (Nat.le_of_ble_eq_true rfl) ⟨rfl, Nat.le_of_ble_eq_true rfl⟩ (lvp_i rfl) ?_
  refine g_goto hE d_R_describe_290 ?_
  exact gw.less (lv' := [some (va_rf (some o)), none, some (.int v2), some (.int (v3 + 1)), none, none, none]) (And.intro rfl (And.intro rfl (And.intro rfl trivial))) (hkb d v2 (v3 + 1) h)
def f_R_describe_J281 (S : gS) (o : Nat) (kx287 : gD → Int32 → Int32 → Option (Unit × gD)) (kb : gD → Int32 → Int32 → Int32 → Option (Unit × gD)) (d : gD) (v2 : Int32) (v3 : Int32) (v5 : Int32) : Option (Unit × gD) :=
  kb d v2 v3 (v5 + 1)
set_option maxRecDepth 100000 in
set_option maxHeartbeats 4000000 in
theorem w_R_describe_J281 {X : GX} (hE : gE X b_R_describe 7 "StandInMillModel" none "describe" 5 119) {S : gS} {o : Nat} {r : Unit} {d' : gD} {kb : gD → Int32 → Int32 → Int32 → Option (Unit × gD)} {kx287 : gD → Int32 → Int32 → Option (Unit × gD)} (hkb : ∀ (d : gD) (v2 : Int32) (v3 : Int32) (v5 : Int32), kb d v2 v3 v5 = some (r, d') → gw X 0 0 (gQ X (none) S d' 0 0) S d 241 [some (va_rf (some o)), none, some (.int v2), some (.int v3), none, some (.int v5), none] []) (hkx287 : ∀ (d : gD) (v2 : Int32) (v3 : Int32), kx287 d v2 v3 = some (r, d') → gw X 0 0 (gQ X (none) S d' 0 0) S d 287 [some (va_rf (some o)), none, some (.int v2), some (.int v3), none, none, none] []) :
    ∀ (d : gD) (v2 : Int32) (v3 : Int32) (v5 : Int32), f_R_describe_J281 S o kx287 kb d v2 v3 v5 = some (r, d') → gw X 0 0 (gQ X (none) S d' 0 0) S d 281 [some (va_rf (some o)), none, some (.int v2), some (.int v3), none, some (.int v5), none] [] := by
  intro d v2 v3 v5 h
  unfold f_R_describe_J281 at h
  refine g_iinc (i := 5) (lv' := [some (va_rf (some o)), none, some (.int v2), some (.int v3), none, some (.int (v5 + 1)), none]) hE d_R_describe_281 ki_1 rfl (Nat.le_of_ble_eq_true rfl) ⟨rfl, Nat.le_of_ble_eq_true rfl⟩ (lvp_n rfl) ?_
  refine g_goto hE d_R_describe_284 ?_
  exact gw.less (lv' := [some (va_rf (some o)), none, some (.int v2), some (.int v3), none, some (.int (v5 + 1)), none]) (And.intro rfl (And.intro rfl (And.intro rfl (And.intro rfl trivial)))) (hkb d v2 v3 (v5 + 1) h)
def f_R_describe_B241 (S : gS) (o : Nat) (kx287 : gD → Int32 → Int32 → Option (Unit × gD)) (kb : gD → Int32 → Int32 → Int32 → Option (Unit × gD)) (d : gD) (v2 : Int32) (v3 : Int32) (v5 : Int32) : Option (Unit × gD) :=
  kd S o 10 <|
  lt_ (dI d o 31) fun x2 =>
  if x2 ≤ v5 then (
    kx287 d v2 v3)
  else (
    lt_ (sP S o 32) fun x3 =>
    nn x3 fun a4 =>
    kd S a4 50 <|
    gi v3 (sN S a4) <|
    lt_ (dI d a4 v3.toNatClampNeg) fun x7 =>
    lt_ (sP S o 32) fun x8 =>
    nn x8 fun a9 =>
    kd S a9 50 <|
    gi v5 (sN S a9) <|
    lt_ (dI d a9 v5.toNatClampNeg) fun x12 =>
    bd (f_R_sameSignature S d o x7 x12) fun x13 =>
    if x13 = 0 then (
      f_R_describe_J281 S o kx287 kb d v2 v3 v5)
    else (
      lt_ (sP S o 36) fun x15 =>
      nn x15 fun a16 =>
      kd S a16 50 <|
      gi v2 (sN S a16) <|
      lt_ (wI d a16 v2.toNatClampNeg v5) fun d19 =>
      f_R_describe_J281 S o kx287 kb d19 (v2 + 1) v3 v5))
set_option maxRecDepth 100000 in
set_option maxHeartbeats 4000000 in
theorem w_R_describe_B241 {X : GX} (hE : gE X b_R_describe 7 "StandInMillModel" none "describe" 5 119) {S : gS} {o : Nat} {r : Unit} {d' : gD} {kb : gD → Int32 → Int32 → Int32 → Option (Unit × gD)} {kx287 : gD → Int32 → Int32 → Option (Unit × gD)} (hkb : ∀ (d : gD) (v2 : Int32) (v3 : Int32) (v5 : Int32), kb d v2 v3 v5 = some (r, d') → gw X 0 0 (gQ X (none) S d' 0 0) S d 241 [some (va_rf (some o)), none, some (.int v2), some (.int v3), none, some (.int v5), none] []) (hkx287 : ∀ (d : gD) (v2 : Int32) (v3 : Int32), kx287 d v2 v3 = some (r, d') → gw X 0 0 (gQ X (none) S d' 0 0) S d 287 [some (va_rf (some o)), none, some (.int v2), some (.int v3), none, none, none] []) :
    ∀ (d : gD) (v2 : Int32) (v3 : Int32) (v5 : Int32), f_R_describe_B241 S o kx287 kb d v2 v3 v5 = some (r, d') → gw X 0 0 (gQ X (none) S d' 0 0) S d 241 [some (va_rf (some o)), none, some (.int v2), some (.int v3), none, some (.int v5), none] [] := by
  intro d v2 v3 v5 h
  unfold f_R_describe_B241 at h
  refine g_iload (i := 5) hE d_R_describe_241 rfl ?_
  refine g_aload_n (i := 0) hE d_R_describe_243 rfl rfl ?_
  obtain ⟨k1, h⟩ := kd_s h
  refine g_getI 31 hE kc_R k1 (Nat.le_of_ble_eq_true rfl) rfl m_408 d_R_describe_244 (fun x2 e => ?_)
  replace h := lt_i e h; clear e
  refine g_icmp_ge hE d_R_describe_247 (fun c21 => ?_) (fun c21 => ?_)
  · replace h := if_t c21 h
    exact gw.less (lv' := [some (va_rf (some o)), none, some (.int v2), some (.int v3), none, none, none]) (And.intro rfl (And.intro rfl (And.intro rfl trivial))) (hkx287 d v2 v3 h)
  · replace h := if_f c21 h
    refine g_aload_n (i := 0) hE d_R_describe_250 rfl rfl ?_
    refine g_aload_n (i := 0) hE d_R_describe_251 rfl rfl ?_
    refine g_getR 32 hE kc_R k1 (Nat.le_of_ble_eq_true rfl) rfl m_409 d_R_describe_252 (fun x3 e => ?_)
    replace h := lt_i e h; clear e
    refine g_iload_n (i := 3) hE d_R_describe_255 rfl rfl ?_
    obtain ⟨a4, rfl, h⟩ := nn_s h
    obtain ⟨k5, h⟩ := kd_s h
    obtain ⟨g6, h⟩ := gi_s h
    refine g_iald hE k5 g6 d_R_describe_256 (fun x7 e => ?_)
    replace h := lt_i e h; clear e
    refine g_aload_n (i := 0) hE d_R_describe_257 rfl rfl ?_
    refine g_getR 32 hE kc_R k1 (Nat.le_of_ble_eq_true rfl) rfl m_409 d_R_describe_258 (fun x8 e => ?_)
    replace h := lt_i e h; clear e
    refine g_iload (i := 5) hE d_R_describe_261 rfl ?_
    obtain ⟨a9, rfl, h⟩ := nn_s h
    obtain ⟨k10, h⟩ := kd_s h
    obtain ⟨g11, h⟩ := gi_s h
    refine g_iald hE k10 g11 d_R_describe_263 (fun x12 e => ?_)
    replace h := lt_i e h; clear e
    obtain ⟨x13, e14, h⟩ := bd_s h
    refine g_callV (av := [.inr (.inr (some o)), .inl x7, .inl x12]) (as := [.inl x7, .inl x12]) (stk := [.int x13]) [] hE (c_R_sameSignature (xl X) (xG X) e14) ky_R_sameSignature ⟨Nat.le_of_ble_eq_true rfl, Nat.le_of_ble_eq_true rfl⟩ rfl kc_R k1 m_444 m_445 m_446 rfl d_R_describe_264 rfl rfl ct_0 (Nat.zero_le _) (Nat.zero_le _) ?_
    refine gw.cs (c2 := 0) (s2 := 0) rfl rfl ?_
    refine g_if_eq hE d_R_describe_267 (fun c20 => ?_) (fun c20 => ?_)
    · replace h := if_t c20 h
      exact gw.less (lv' := [some (va_rf (some o)), none, some (.int v2), some (.int v3), none, some (.int v5), none]) (And.intro rfl (And.intro rfl (And.intro rfl (And.intro rfl trivial)))) (w_R_describe_J281 hE hkb hkx287 d v2 v3 v5 h)
    · replace h := if_f c20 h
      refine g_aload_n (i := 0) hE d_R_describe_270 rfl rfl ?_
      refine g_getR 36 hE kc_R k1 (Nat.le_of_ble_eq_true rfl) rfl m_413 d_R_describe_271 (fun x15 e => ?_)
      replace h := lt_i e h; clear e
      refine g_iload_n (i := 2) hE d_R_describe_274 rfl rfl ?_
      refine g_iload (i := 5) hE d_R_describe_275 rfl ?_
      obtain ⟨a16, rfl, h⟩ := nn_s h
      obtain ⟨k17, h⟩ := kd_s h
      obtain ⟨g18, h⟩ := gi_s h
      refine g_iast hE k17 g18 d_R_describe_277 (fun d19 e => ?_)
      replace h := lt_i e h; clear e
      refine g_iinc (i := 2) (lv' := [some (va_rf (some o)), none, some (.int (v2 + 1)), some (.int v3), none, some (.int v5), none]) hE d_R_describe_278 ki_1 rfl (Nat.le_of_ble_eq_true rfl) ⟨rfl, Nat.le_of_ble_eq_true rfl⟩ (lvp_n rfl) ?_
      exact gw.less (lv' := [some (va_rf (some o)), none, some (.int (v2 + 1)), some (.int v3), none, some (.int v5), none]) (And.intro rfl (And.intro rfl (And.intro rfl (And.intro rfl trivial)))) (w_R_describe_J281 hE hkb hkx287 d19 (v2 + 1) v3 v5 h)
theorem w_R_describe_L241 {X : GX} (hE : gE X b_R_describe 7 "StandInMillModel" none "describe" 5 119) {S : gS} {o : Nat} {r : Unit} {d' : gD} {kx287 : gD → Int32 → Int32 → Option (Unit × gD)} (hkx287 : ∀ (d : gD) (v2 : Int32) (v3 : Int32), kx287 d v2 v3 = some (r, d') → gw X 0 0 (gQ X (none) S d' 0 0) S d 287 [some (va_rf (some o)), none, some (.int v2), some (.int v3), none, none, none] []) : ∀ (n : Nat) (d : gD) (v2 : Int32) (v3 : Int32) (v5 : Int32), itr (f_R_describe_B241 S o kx287) (fun _ _ _ _ => none) n d v2 v3 v5 = some (r, d') → gw X 0 0 (gQ X (none) S d' 0 0) S d 241 [some (va_rf (some o)), none, some (.int v2), some (.int v3), none, some (.int v5), none] [] := by
  intro n
  induction n with
  | zero => intro d v2 v3 v5 h; cases h
  | succ n ih => exact w_R_describe_B241 hE ih hkx287
def f_R_describe_J233 (S : gS) (o : Nat) (kb : gD → Int32 → Int32 → Option (Unit × gD)) (d : gD) (v2 : Int32) (v3 : Int32) (v4 : Int32) : Option (Unit × gD) :=
  if v4 = 0 then (
    f_R_describe_J287 S o kb d v2 v3)
  else (
    itr (f_R_describe_B241 S o (f_R_describe_J287 S o kb)) (fun _ _ _ _ => none) fu d v2 v3 v3)
set_option maxRecDepth 100000 in
set_option maxHeartbeats 4000000 in
theorem w_R_describe_J233 {X : GX} (hE : gE X b_R_describe 7 "StandInMillModel" none "describe" 5 119) {S : gS} {o : Nat} {r : Unit} {d' : gD} {kb : gD → Int32 → Int32 → Option (Unit × gD)} (hkb : ∀ (d : gD) (v2 : Int32) (v3 : Int32), kb d v2 v3 = some (r, d') → gw X 0 0 (gQ X (none) S d' 0 0) S d 184 [some (va_rf (some o)), none, some (.int v2), some (.int v3), none, none, none] []) :
    ∀ (d : gD) (v2 : Int32) (v3 : Int32) (v4 : Int32), f_R_describe_J233 S o kb d v2 v3 v4 = some (r, d') → gw X 0 0 (gQ X (none) S d' 0 0) S d 233 [some (va_rf (some o)), none, some (.int v2), some (.int v3), some (.int v4), none, none] [] := by
  intro d v2 v3 v4 h
  unfold f_R_describe_J233 at h
  refine g_iload (i := 4) hE d_R_describe_233 rfl ?_
  refine g_if_eq hE d_R_describe_235 (fun c1 => ?_) (fun c1 => ?_)
  · replace h := if_t c1 h
    exact gw.less (lv' := [some (va_rf (some o)), none, some (.int v2), some (.int v3), none, none, none]) (And.intro rfl (And.intro rfl (And.intro rfl trivial))) (w_R_describe_J287 hE hkb d v2 v3 h)
  · replace h := if_f c1 h
    refine g_iload_n (i := 3) hE d_R_describe_238 rfl rfl ?_
    refine g_istore (i := 5) (lv' := [some (va_rf (some o)), none, some (.int v2), some (.int v3), some (.int v4), some (.int v3), none]) hE d_R_describe_239 (Nat.le_of_ble_eq_true rfl) ⟨rfl, Nat.le_of_ble_eq_true rfl⟩ (lvp_i rfl) ?_
    exact gw.less (lv' := [some (va_rf (some o)), none, some (.int v2), some (.int v3), none, some (.int v3), none]) (And.intro rfl (And.intro rfl (And.intro rfl (And.intro rfl trivial)))) (w_R_describe_L241 hE (w_R_describe_J287 hE hkb) fu d v2 v3 v3 h)
def f_R_describe_B184 (S : gS) (o : Nat) (kb : gD → Int32 → Int32 → Option (Unit × gD)) (d : gD) (v2 : Int32) (v3 : Int32) : Option (Unit × gD) :=
  kd S o 10 <|
  lt_ (dI d o 31) fun x2 =>
  if x2 ≤ v3 then (
    some ((), d))
  else (
    itr (f_R_describe_B198 S o (f_R_describe_J233 S o kb)) (fun _ _ _ _ _ => none) fu d v2 v3 1 0)
set_option maxRecDepth 100000 in
set_option maxHeartbeats 4000000 in
theorem w_R_describe_B184 {X : GX} (hE : gE X b_R_describe 7 "StandInMillModel" none "describe" 5 119) {S : gS} {o : Nat} {r : Unit} {d' : gD} {kb : gD → Int32 → Int32 → Option (Unit × gD)} (hkb : ∀ (d : gD) (v2 : Int32) (v3 : Int32), kb d v2 v3 = some (r, d') → gw X 0 0 (gQ X (none) S d' 0 0) S d 184 [some (va_rf (some o)), none, some (.int v2), some (.int v3), none, none, none] []) :
    ∀ (d : gD) (v2 : Int32) (v3 : Int32), f_R_describe_B184 S o kb d v2 v3 = some (r, d') → gw X 0 0 (gQ X (none) S d' 0 0) S d 184 [some (va_rf (some o)), none, some (.int v2), some (.int v3), none, none, none] [] := by
  intro d v2 v3 h
  unfold f_R_describe_B184 at h
  refine g_iload_n (i := 3) hE d_R_describe_184 rfl rfl ?_
  refine g_aload_n (i := 0) hE d_R_describe_185 rfl rfl ?_
  obtain ⟨k1, h⟩ := kd_s h
  refine g_getI 31 hE kc_R k1 (Nat.le_of_ble_eq_true rfl) rfl m_408 d_R_describe_186 (fun x2 e => ?_)
  replace h := lt_i e h; clear e
  refine g_icmp_ge hE d_R_describe_189 (fun c3 => ?_) (fun c3 => ?_)
  · replace h := if_t c3 h
    cases h
    exact g_vret hE d_R_describe_293 rfl rfl
  · replace h := if_f c3 h
    refine g_iconst hE d_R_describe_192 ki_1 ?_
    refine g_istore (i := 4) (lv' := [some (va_rf (some o)), none, some (.int v2), some (.int v3), some (.int 1), none, none]) hE d_R_describe_193 (Nat.le_of_ble_eq_true rfl) ⟨rfl, Nat.le_of_ble_eq_true rfl⟩ (lvp_i rfl) ?_
    refine g_iconst hE d_R_describe_195 ki_0 ?_
    refine g_istore (i := 5) (lv' := [some (va_rf (some o)), none, some (.int v2), some (.int v3), some (.int 1), some (.int 0), none]) hE d_R_describe_196 (Nat.le_of_ble_eq_true rfl) ⟨rfl, Nat.le_of_ble_eq_true rfl⟩ (lvp_i rfl) ?_
    exact gw.less (lv' := [some (va_rf (some o)), none, some (.int v2), some (.int v3), some (.int 1), some (.int 0), none]) (And.intro rfl (And.intro rfl (And.intro rfl (And.intro rfl (And.intro rfl trivial))))) (w_R_describe_L198 hE (w_R_describe_J233 hE hkb) fu d v2 v3 1 0 h)
theorem w_R_describe_L184 {X : GX} (hE : gE X b_R_describe 7 "StandInMillModel" none "describe" 5 119) {S : gS} {o : Nat} {r : Unit} {d' : gD} : ∀ (n : Nat) (d : gD) (v2 : Int32) (v3 : Int32), itr (f_R_describe_B184 S o) (fun _ _ _ => none) n d v2 v3 = some (r, d') → gw X 0 0 (gQ X (none) S d' 0 0) S d 184 [some (va_rf (some o)), none, some (.int v2), some (.int v3), none, none, none] [] := by
  intro n
  induction n with
  | zero => intro d v2 v3 h; cases h
  | succ n ih => exact w_R_describe_B184 hE ih
def f_R_describe_J180 (S : gS) (o : Nat) (d : gD) : Option (Unit × gD) :=
  itr (f_R_describe_B184 S o) (fun _ _ _ => none) fu d 0 0
set_option maxRecDepth 100000 in
set_option maxHeartbeats 4000000 in
theorem w_R_describe_J180 {X : GX} (hE : gE X b_R_describe 7 "StandInMillModel" none "describe" 5 119) {S : gS} {o : Nat} {r : Unit} {d' : gD} :
    ∀ (d : gD), f_R_describe_J180 S o d = some (r, d') → gw X 0 0 (gQ X (none) S d' 0 0) S d 180 [some (va_rf (some o)), none, none, none, none, none, none] [] := by
  intro d h
  unfold f_R_describe_J180 at h
  refine g_iconst hE d_R_describe_180 ki_0 ?_
  refine g_istore_n (i := 2) (lv' := [some (va_rf (some o)), none, some (.int 0), none, none, none, none]) hE d_R_describe_181 rfl (Nat.le_of_ble_eq_true rfl) ⟨rfl, Nat.le_of_ble_eq_true rfl⟩ (lvp_n rfl) ?_
  refine g_iconst hE d_R_describe_182 ki_0 ?_
  refine g_istore_n (i := 3) (lv' := [some (va_rf (some o)), none, some (.int 0), some (.int 0), none, none, none]) hE d_R_describe_183 rfl (Nat.le_of_ble_eq_true rfl) ⟨rfl, Nat.le_of_ble_eq_true rfl⟩ (lvp_i rfl) ?_
  exact gw.less (lv' := [some (va_rf (some o)), none, some (.int 0), some (.int 0), none, none, none]) (And.intro rfl (And.intro rfl (And.intro rfl trivial))) (w_R_describe_L184 hE fu d 0 0 h)
def f_R_describe_J29 (S : gS) (o : Nat) (d : gD) (v1 : Int32) : Option (Unit × gD) :=
  itr (f_R_describe_B31 S o (f_R_describe_J180 S o)) (fun _ _ _ => none) fu d v1 0
set_option maxRecDepth 100000 in
set_option maxHeartbeats 4000000 in
theorem w_R_describe_J29 {X : GX} (hE : gE X b_R_describe 7 "StandInMillModel" none "describe" 5 119) {S : gS} {o : Nat} {r : Unit} {d' : gD} :
    ∀ (d : gD) (v1 : Int32), f_R_describe_J29 S o d v1 = some (r, d') → gw X 0 0 (gQ X (none) S d' 0 0) S d 29 [some (va_rf (some o)), some (.int v1), none, none, none, none, none] [] := by
  intro d v1 h
  unfold f_R_describe_J29 at h
  refine g_iconst hE d_R_describe_29 ki_0 ?_
  refine g_istore_n (i := 2) (lv' := [some (va_rf (some o)), some (.int v1), some (.int 0), none, none, none, none]) hE d_R_describe_30 rfl (Nat.le_of_ble_eq_true rfl) ⟨rfl, Nat.le_of_ble_eq_true rfl⟩ (lvp_i rfl) ?_
  exact gw.less (lv' := [some (va_rf (some o)), some (.int v1), some (.int 0), none, none, none, none]) (And.intro rfl (And.intro rfl (And.intro rfl trivial))) (w_R_describe_L31 hE (w_R_describe_J180 hE) fu d v1 0 h)
set_option maxRecDepth 100000 in
def f_R_describe (S : gS) (d : gD) (o : Nat) (v1 : Int32) : Option (Unit × gD) :=
  kd S o 10 <|
  bdD (f_R_listMethods S d o) fun _ d4 =>
  lt_ (wI d4 o 31 0) fun d5 =>
  itr (f_R_describe_B12 S o (f_R_describe_J29 S o)) (fun _ _ _ => none) fu d5 v1 72
set_option maxRecDepth 100000 in
set_option maxHeartbeats 4000000 in
theorem c_R_describe (l : Launch) (G : gG) {S : gS} {d : gD} {o : Nat} {v1 : Int32} {r : Unit} {d' : gD} (h : f_R_describe S d o v1 = some (r, d')) : GM l G y_R_describe b_R_describe 7 none 5 119 0 0 [.inr (.inr (some o)), .inl v1] S d (none) S d' := by
  refine GM.of (by decide) (Nat.le_of_ble_eq_true rfl) ?_
  intro X hl0 hG0 hR0 hE0
  have hE : gE X b_R_describe 7 "StandInMillModel" none "describe" 5 119 := hE0
  unfold f_R_describe at h
  refine gw.less (lv' := [some (va_rf (some o)), some (.int v1), none, none, none, none, none]) (And.intro rfl (And.intro rfl trivial)) ?_
  refine g_aload_n (i := 0) hE d_R_describe_0 rfl rfl ?_
  obtain ⟨k1, h⟩ := kd_s h
  obtain ⟨x2, d4, e3, h⟩ := bdD_s h
  refine g_callV (av := [.inr (.inr (some o))]) (as := []) (stk := []) [] hE (c_R_listMethods (xl X) (xG X) e3) ky_R_listMethods ⟨Nat.le_of_ble_eq_true rfl, Nat.le_of_ble_eq_true rfl⟩ rfl kc_R k1 m_453 m_454 m_455 rfl d_R_describe_1 rfl rfl ct_0 (Nat.zero_le _) (Nat.zero_le _) ?_
  refine gw.cs (c2 := 0) (s2 := 0) rfl rfl ?_
  refine g_aload_n (i := 0) hE d_R_describe_4 rfl rfl ?_
  refine g_iconst hE d_R_describe_5 ki_0 ?_
  refine g_putI 31 hE kc_R k1 (Nat.le_of_ble_eq_true rfl) rfl m_408 rfl (by decide +kernel) d_R_describe_6 (fun d5 e => ?_)
  replace h := lt_i e h; clear e
  refine g_bipush hE d_R_describe_9 kb_72 ?_
  refine g_istore_n (i := 2) (lv' := [some (va_rf (some o)), some (.int v1), some (.int 72), none, none, none, none]) hE d_R_describe_11 rfl (Nat.le_of_ble_eq_true rfl) ⟨rfl, Nat.le_of_ble_eq_true rfl⟩ (lvp_i rfl) ?_
  exact gw.less (lv' := [some (va_rf (some o)), some (.int v1), some (.int 72), none, none, none, none]) (And.intro rfl (And.intro rfl (And.intro rfl trivial))) (w_R_describe_L12 hE (w_R_describe_J29 hE) fu d5 v1 72 h)
