theorem d_R_method_0 : dc b_R_method 0 (.aload_n 0) 1 1 := ⟨by decide +kernel, rfl⟩
theorem d_R_method_1 : dc b_R_method 1 (.iconst 0) 1 2 := ⟨by decide +kernel, rfl⟩
theorem d_R_method_2 : dc b_R_method 2 (.putfield 7) 3 5 := ⟨by decide +kernel, rfl⟩
theorem d_R_method_5 : dc b_R_method 5 (.aload_n 0) 1 6 := ⟨by decide +kernel, rfl⟩
theorem d_R_method_6 : dc b_R_method 6 (.iload_n 1) 1 7 := ⟨by decide +kernel, rfl⟩
theorem d_R_method_7 : dc b_R_method 7 (.invokevirtual 164) 3 10 := ⟨by decide +kernel, rfl⟩
theorem d_R_method_10 : db b_R_method 10 (.ifCond .eq 20) 20 30 13 := ⟨by decide +kernel, by decide, rfl⟩
theorem d_R_method_13 : dc b_R_method 13 (.iload_n 2) 1 14 := ⟨by decide +kernel, rfl⟩
theorem d_R_method_14 : db b_R_method 14 (.ifCond .lt 16) 16 30 17 := ⟨by decide +kernel, by decide, rfl⟩
theorem d_R_method_17 : dc b_R_method 17 (.iload_n 2) 1 18 := ⟨by decide +kernel, rfl⟩
theorem d_R_method_18 : dc b_R_method 18 (.bipush 28) 2 20 := ⟨by decide +kernel, rfl⟩
theorem d_R_method_20 : db b_R_method 20 (.if_icmp .gt 10) 10 30 23 := ⟨by decide +kernel, by decide, rfl⟩
theorem d_R_method_23 : dc b_R_method 23 (.aload_n 0) 1 24 := ⟨by decide +kernel, rfl⟩
theorem d_R_method_24 : dc b_R_method 24 (.getfield 76) 3 27 := ⟨by decide +kernel, rfl⟩
theorem d_R_method_27 : db b_R_method 27 (.ifCond .le 5) 5 32 30 := ⟨by decide +kernel, by decide, rfl⟩
theorem d_R_method_30 : dc b_R_method 30 (.iconst (-1)) 1 31 := ⟨by decide +kernel, rfl⟩
theorem d_R_method_31 : dc b_R_method 31 (.ireturn) 1 32 := ⟨by decide +kernel, rfl⟩
theorem d_R_method_32 : dc b_R_method 32 (.iload_n 1) 1 33 := ⟨by decide +kernel, rfl⟩
theorem d_R_method_33 : dc b_R_method 33 (.bipush 24) 2 35 := ⟨by decide +kernel, rfl⟩
theorem d_R_method_35 : dc b_R_method 35 (.isub) 1 36 := ⟨by decide +kernel, rfl⟩
theorem d_R_method_36 : dc b_R_method 36 (.istore 4) 2 38 := ⟨by decide +kernel, rfl⟩
theorem d_R_method_38 : dc b_R_method 38 (.iload_n 3) 1 39 := ⟨by decide +kernel, rfl⟩
theorem d_R_method_39 : dc b_R_method 39 (.sipush 255) 3 42 := ⟨by decide +kernel, rfl⟩
theorem d_R_method_42 : dc b_R_method 42 (.iand) 1 43 := ⟨by decide +kernel, rfl⟩
theorem d_R_method_43 : dc b_R_method 43 (.istore 5) 2 45 := ⟨by decide +kernel, rfl⟩
theorem d_R_method_45 : dc b_R_method 45 (.iload 5) 2 47 := ⟨by decide +kernel, rfl⟩
theorem d_R_method_47 : db b_R_method 47 (.ifCond .eq 12) 12 59 50 := ⟨by decide +kernel, by decide, rfl⟩
theorem d_R_method_50 : dc b_R_method 50 (.aload_n 0) 1 51 := ⟨by decide +kernel, rfl⟩
theorem d_R_method_51 : dc b_R_method 51 (.iload 5) 2 53 := ⟨by decide +kernel, rfl⟩
theorem d_R_method_53 : dc b_R_method 53 (.invokevirtual 170) 3 56 := ⟨by decide +kernel, rfl⟩
theorem d_R_method_56 : db b_R_method 56 (.ifCond .eq 15) 15 71 59 := ⟨by decide +kernel, by decide, rfl⟩
theorem d_R_method_59 : dc b_R_method 59 (.aload_n 0) 1 60 := ⟨by decide +kernel, rfl⟩
theorem d_R_method_60 : dc b_R_method 60 (.getfield 48) 3 63 := ⟨by decide +kernel, rfl⟩
theorem d_R_method_63 : dc b_R_method 63 (.iload 4) 2 65 := ⟨by decide +kernel, rfl⟩
theorem d_R_method_65 : dc b_R_method 65 (.iaload) 1 66 := ⟨by decide +kernel, rfl⟩
theorem d_R_method_66 : dc b_R_method 66 (.bipush 6) 2 68 := ⟨by decide +kernel, rfl⟩
theorem d_R_method_68 : db b_R_method 68 (.if_icmp .ne 5) 5 73 71 := ⟨by decide +kernel, by decide, rfl⟩
theorem d_R_method_71 : dc b_R_method 71 (.iconst (-1)) 1 72 := ⟨by decide +kernel, rfl⟩
theorem d_R_method_72 : dc b_R_method 72 (.ireturn) 1 73 := ⟨by decide +kernel, rfl⟩
theorem d_R_method_73 : dc b_R_method 73 (.bipush 6) 2 75 := ⟨by decide +kernel, rfl⟩
theorem d_R_method_75 : dc b_R_method 75 (.iload 4) 2 77 := ⟨by decide +kernel, rfl⟩
theorem d_R_method_77 : dc b_R_method 77 (.imul) 1 78 := ⟨by decide +kernel, rfl⟩
theorem d_R_method_78 : dc b_R_method 78 (.aload_n 0) 1 79 := ⟨by decide +kernel, rfl⟩
theorem d_R_method_79 : dc b_R_method 79 (.getfield 48) 3 82 := ⟨by decide +kernel, rfl⟩
theorem d_R_method_82 : dc b_R_method 82 (.iload 4) 2 84 := ⟨by decide +kernel, rfl⟩
theorem d_R_method_84 : dc b_R_method 84 (.iaload) 1 85 := ⟨by decide +kernel, rfl⟩
theorem d_R_method_85 : dc b_R_method 85 (.iadd) 1 86 := ⟨by decide +kernel, rfl⟩
theorem d_R_method_86 : dc b_R_method 86 (.istore 6) 2 88 := ⟨by decide +kernel, rfl⟩
theorem d_R_method_88 : dc b_R_method 88 (.aload_n 0) 1 89 := ⟨by decide +kernel, rfl⟩
theorem d_R_method_89 : dc b_R_method 89 (.getfield 51) 3 92 := ⟨by decide +kernel, rfl⟩
theorem d_R_method_92 : dc b_R_method 92 (.iload 6) 2 94 := ⟨by decide +kernel, rfl⟩
theorem d_R_method_94 : dc b_R_method 94 (.iload_n 2) 1 95 := ⟨by decide +kernel, rfl⟩
theorem d_R_method_95 : dc b_R_method 95 (.iastore) 1 96 := ⟨by decide +kernel, rfl⟩
theorem d_R_method_96 : dc b_R_method 96 (.aload_n 0) 1 97 := ⟨by decide +kernel, rfl⟩
theorem d_R_method_97 : dc b_R_method 97 (.getfield 54) 3 100 := ⟨by decide +kernel, rfl⟩
theorem d_R_method_100 : dc b_R_method 100 (.iload 6) 2 102 := ⟨by decide +kernel, rfl⟩
theorem d_R_method_102 : dc b_R_method 102 (.iload 5) 2 104 := ⟨by decide +kernel, rfl⟩
theorem d_R_method_104 : dc b_R_method 104 (.iastore) 1 105 := ⟨by decide +kernel, rfl⟩
theorem d_R_method_105 : dc b_R_method 105 (.iconst 1) 1 106 := ⟨by decide +kernel, rfl⟩
theorem d_R_method_106 : dc b_R_method 106 (.istore 7) 2 108 := ⟨by decide +kernel, rfl⟩
theorem d_R_method_108 : dc b_R_method 108 (.iconst 0) 1 109 := ⟨by decide +kernel, rfl⟩
theorem d_R_method_109 : dc b_R_method 109 (.istore 8) 2 111 := ⟨by decide +kernel, rfl⟩
theorem d_R_method_111 : dc b_R_method 111 (.iload 8) 2 113 := ⟨by decide +kernel, rfl⟩
theorem d_R_method_113 : dc b_R_method 113 (.iconst 3) 1 114 := ⟨by decide +kernel, rfl⟩
theorem d_R_method_114 : db b_R_method 114 (.if_icmp .ge 72) 72 186 117 := ⟨by decide +kernel, by decide, rfl⟩
theorem d_R_method_117 : dc b_R_method 117 (.iload_n 3) 1 118 := ⟨by decide +kernel, rfl⟩
theorem d_R_method_118 : dc b_R_method 118 (.bipush 8) 2 120 := ⟨by decide +kernel, rfl⟩
theorem d_R_method_120 : dc b_R_method 120 (.iload 8) 2 122 := ⟨by decide +kernel, rfl⟩
theorem d_R_method_122 : dc b_R_method 122 (.imul) 1 123 := ⟨by decide +kernel, rfl⟩
theorem d_R_method_123 : dc b_R_method 123 (.bipush 8) 2 125 := ⟨by decide +kernel, rfl⟩
theorem d_R_method_125 : dc b_R_method 125 (.iadd) 1 126 := ⟨by decide +kernel, rfl⟩
theorem d_R_method_126 : dc b_R_method 126 (.ishr) 1 127 := ⟨by decide +kernel, rfl⟩
theorem d_R_method_127 : dc b_R_method 127 (.sipush 255) 3 130 := ⟨by decide +kernel, rfl⟩
theorem d_R_method_130 : dc b_R_method 130 (.iand) 1 131 := ⟨by decide +kernel, rfl⟩
theorem d_R_method_131 : dc b_R_method 131 (.istore 9) 2 133 := ⟨by decide +kernel, rfl⟩
theorem d_R_method_133 : dc b_R_method 133 (.iload 9) 2 135 := ⟨by decide +kernel, rfl⟩
theorem d_R_method_135 : db b_R_method 135 (.ifCond .ne 6) 6 141 138 := ⟨by decide +kernel, by decide, rfl⟩
theorem d_R_method_138 : dc b_R_method 138 (.iconst 0) 1 139 := ⟨by decide +kernel, rfl⟩
theorem d_R_method_139 : dc b_R_method 139 (.istore 7) 2 141 := ⟨by decide +kernel, rfl⟩
theorem d_R_method_141 : dc b_R_method 141 (.aload_n 0) 1 142 := ⟨by decide +kernel, rfl⟩
theorem d_R_method_142 : dc b_R_method 142 (.getfield 57) 3 145 := ⟨by decide +kernel, rfl⟩
theorem d_R_method_145 : dc b_R_method 145 (.iconst 3) 1 146 := ⟨by decide +kernel, rfl⟩
theorem d_R_method_146 : dc b_R_method 146 (.iload 6) 2 148 := ⟨by decide +kernel, rfl⟩
theorem d_R_method_148 : dc b_R_method 148 (.imul) 1 149 := ⟨by decide +kernel, rfl⟩
theorem d_R_method_149 : dc b_R_method 149 (.iload 8) 2 151 := ⟨by decide +kernel, rfl⟩
theorem d_R_method_151 : dc b_R_method 151 (.iadd) 1 152 := ⟨by decide +kernel, rfl⟩
theorem d_R_method_152 : dc b_R_method 152 (.iload 7) 2 154 := ⟨by decide +kernel, rfl⟩
theorem d_R_method_154 : db b_R_method 154 (.ifCond .eq 8) 8 162 157 := ⟨by decide +kernel, by decide, rfl⟩
theorem d_R_method_157 : dc b_R_method 157 (.iload 9) 2 159 := ⟨by decide +kernel, rfl⟩
theorem d_R_method_159 : db b_R_method 159 (.goto 4) 4 163 162 := ⟨by decide +kernel, by decide, rfl⟩
theorem d_R_method_162 : dc b_R_method 162 (.iconst 0) 1 163 := ⟨by decide +kernel, rfl⟩
theorem d_R_method_163 : dc b_R_method 163 (.iastore) 1 164 := ⟨by decide +kernel, rfl⟩
theorem d_R_method_164 : dc b_R_method 164 (.iload 7) 2 166 := ⟨by decide +kernel, rfl⟩
theorem d_R_method_166 : db b_R_method 166 (.ifCond .eq 14) 14 180 169 := ⟨by decide +kernel, by decide, rfl⟩
theorem d_R_method_169 : dc b_R_method 169 (.aload_n 0) 1 170 := ⟨by decide +kernel, rfl⟩
theorem d_R_method_170 : dc b_R_method 170 (.iload 9) 2 172 := ⟨by decide +kernel, rfl⟩
theorem d_R_method_172 : dc b_R_method 172 (.invokevirtual 170) 3 175 := ⟨by decide +kernel, rfl⟩
theorem d_R_method_175 : db b_R_method 175 (.ifCond .ne 5) 5 180 178 := ⟨by decide +kernel, by decide, rfl⟩
theorem d_R_method_178 : dc b_R_method 178 (.iconst (-1)) 1 179 := ⟨by decide +kernel, rfl⟩
theorem d_R_method_179 : dc b_R_method 179 (.ireturn) 1 180 := ⟨by decide +kernel, rfl⟩
theorem d_R_method_180 : dc b_R_method 180 (.iinc 8 1) 3 183 := ⟨by decide +kernel, rfl⟩
theorem d_R_method_183 : db b_R_method 183 (.goto (-72)) (-72) 111 186 := ⟨by decide +kernel, by decide, rfl⟩
theorem d_R_method_186 : dc b_R_method 186 (.bipush 6) 2 188 := ⟨by decide +kernel, rfl⟩
theorem d_R_method_188 : dc b_R_method 188 (.iload 4) 2 190 := ⟨by decide +kernel, rfl⟩
theorem d_R_method_190 : dc b_R_method 190 (.imul) 1 191 := ⟨by decide +kernel, rfl⟩
theorem d_R_method_191 : dc b_R_method 191 (.istore 8) 2 193 := ⟨by decide +kernel, rfl⟩
theorem d_R_method_193 : dc b_R_method 193 (.iload 8) 2 195 := ⟨by decide +kernel, rfl⟩
theorem d_R_method_195 : dc b_R_method 195 (.iload 6) 2 197 := ⟨by decide +kernel, rfl⟩
theorem d_R_method_197 : db b_R_method 197 (.if_icmp .ge 22) 22 219 200 := ⟨by decide +kernel, by decide, rfl⟩
theorem d_R_method_200 : dc b_R_method 200 (.aload_n 0) 1 201 := ⟨by decide +kernel, rfl⟩
theorem d_R_method_201 : dc b_R_method 201 (.iload 8) 2 203 := ⟨by decide +kernel, rfl⟩
theorem d_R_method_203 : dc b_R_method 203 (.iload 6) 2 205 := ⟨by decide +kernel, rfl⟩
theorem d_R_method_205 : dc b_R_method 205 (.invokevirtual 180) 3 208 := ⟨by decide +kernel, rfl⟩
theorem d_R_method_208 : db b_R_method 208 (.ifCond .eq 5) 5 213 211 := ⟨by decide +kernel, by decide, rfl⟩
theorem d_R_method_211 : dc b_R_method 211 (.iconst (-1)) 1 212 := ⟨by decide +kernel, rfl⟩
theorem d_R_method_212 : dc b_R_method 212 (.ireturn) 1 213 := ⟨by decide +kernel, rfl⟩
theorem d_R_method_213 : dc b_R_method 213 (.iinc 8 1) 3 216 := ⟨by decide +kernel, rfl⟩
theorem d_R_method_216 : db b_R_method 216 (.goto (-23)) (-23) 193 219 := ⟨by decide +kernel, by decide, rfl⟩
theorem d_R_method_219 : dc b_R_method 219 (.aload_n 0) 1 220 := ⟨by decide +kernel, rfl⟩
theorem d_R_method_220 : dc b_R_method 220 (.getfield 60) 3 223 := ⟨by decide +kernel, rfl⟩
theorem d_R_method_223 : dc b_R_method 223 (.iload 6) 2 225 := ⟨by decide +kernel, rfl⟩
theorem d_R_method_225 : dc b_R_method 225 (.iconst 0) 1 226 := ⟨by decide +kernel, rfl⟩
theorem d_R_method_226 : dc b_R_method 226 (.iastore) 1 227 := ⟨by decide +kernel, rfl⟩
theorem d_R_method_227 : dc b_R_method 227 (.aload_n 0) 1 228 := ⟨by decide +kernel, rfl⟩
theorem d_R_method_228 : dc b_R_method 228 (.getfield 48) 3 231 := ⟨by decide +kernel, rfl⟩
theorem d_R_method_231 : dc b_R_method 231 (.iload 4) 2 233 := ⟨by decide +kernel, rfl⟩
theorem d_R_method_233 : dc b_R_method 233 (.aload_n 0) 1 234 := ⟨by decide +kernel, rfl⟩
theorem d_R_method_234 : dc b_R_method 234 (.getfield 48) 3 237 := ⟨by decide +kernel, rfl⟩
theorem d_R_method_237 : dc b_R_method 237 (.iload 4) 2 239 := ⟨by decide +kernel, rfl⟩
theorem d_R_method_239 : dc b_R_method 239 (.iaload) 1 240 := ⟨by decide +kernel, rfl⟩
theorem d_R_method_240 : dc b_R_method 240 (.iconst 1) 1 241 := ⟨by decide +kernel, rfl⟩
theorem d_R_method_241 : dc b_R_method 241 (.iadd) 1 242 := ⟨by decide +kernel, rfl⟩
theorem d_R_method_242 : dc b_R_method 242 (.iastore) 1 243 := ⟨by decide +kernel, rfl⟩
theorem d_R_method_243 : dc b_R_method 243 (.aload_n 0) 1 244 := ⟨by decide +kernel, rfl⟩
theorem d_R_method_244 : dc b_R_method 244 (.getfield 48) 3 247 := ⟨by decide +kernel, rfl⟩
theorem d_R_method_247 : dc b_R_method 247 (.iload 4) 2 249 := ⟨by decide +kernel, rfl⟩
theorem d_R_method_249 : dc b_R_method 249 (.iaload) 1 250 := ⟨by decide +kernel, rfl⟩
theorem d_R_method_250 : dc b_R_method 250 (.iconst 1) 1 251 := ⟨by decide +kernel, rfl⟩
theorem d_R_method_251 : dc b_R_method 251 (.isub) 1 252 := ⟨by decide +kernel, rfl⟩
theorem d_R_method_252 : dc b_R_method 252 (.ireturn) 1 253 := ⟨by decide +kernel, rfl⟩
def f_R_method_J180 (S : gS) (o : Nat) (kx186 : gD → Int32 → Int32 → Option (Int32 × gD)) (kb : gD → Int32 → Int32 → Int32 → Int32 → Int32 → Option (Int32 × gD)) (d : gD) (v3 : Int32) (v4 : Int32) (v6 : Int32) (v7 : Int32) (v8 : Int32) : Option (Int32 × gD) :=
  kb d v3 v4 v6 v7 (v8 + 1)
set_option maxRecDepth 100000 in
set_option maxHeartbeats 4000000 in
theorem w_R_method_J180 {X : GX} (hE : gE X b_R_method 10 "StandInMillModel" (some (.int)) "method" 2 42) {S : gS} {o : Nat} {r : Int32} {d' : gD} {kb : gD → Int32 → Int32 → Int32 → Int32 → Int32 → Option (Int32 × gD)} {kx186 : gD → Int32 → Int32 → Option (Int32 × gD)} (hkb : ∀ (d : gD) (v3 : Int32) (v4 : Int32) (v6 : Int32) (v7 : Int32) (v8 : Int32), kb d v3 v4 v6 v7 v8 = some (r, d') → gw X 0 0 (gQ X (some (.int r)) S d' 0 0) S d 111 [some (va_rf (some o)), none, none, some (.int v3), some (.int v4), none, some (.int v6), some (.int v7), some (.int v8), none] []) (hkx186 : ∀ (d : gD) (v4 : Int32) (v6 : Int32), kx186 d v4 v6 = some (r, d') → gw X 0 0 (gQ X (some (.int r)) S d' 0 0) S d 186 [some (va_rf (some o)), none, none, none, some (.int v4), none, some (.int v6), none, none, none] []) :
    ∀ (d : gD) (v3 : Int32) (v4 : Int32) (v6 : Int32) (v7 : Int32) (v8 : Int32), f_R_method_J180 S o kx186 kb d v3 v4 v6 v7 v8 = some (r, d') → gw X 0 0 (gQ X (some (.int r)) S d' 0 0) S d 180 [some (va_rf (some o)), none, none, some (.int v3), some (.int v4), none, some (.int v6), some (.int v7), some (.int v8), none] [] := by
  intro d v3 v4 v6 v7 v8 h
  unfold f_R_method_J180 at h
  refine g_iinc (i := 8) (lv' := [some (va_rf (some o)), none, none, some (.int v3), some (.int v4), none, some (.int v6), some (.int v7), some (.int (v8 + 1)), none]) hE d_R_method_180 ki_1 rfl (Nat.le_of_ble_eq_true rfl) ⟨rfl, Nat.le_of_ble_eq_true rfl⟩ (lvp_i rfl) ?_
  refine g_goto hE d_R_method_183 ?_
  exact gw.less (lv' := [some (va_rf (some o)), none, none, some (.int v3), some (.int v4), none, some (.int v6), some (.int v7), some (.int (v8 + 1)), none]) (And.intro rfl (And.intro rfl (And.intro rfl (And.intro rfl (And.intro rfl (And.intro rfl trivial)))))) (hkb d v3 v4 v6 v7 (v8 + 1) h)
def f_R_method_J163 (S : gS) (o : Nat) (kx186 : gD → Int32 → Int32 → Option (Int32 × gD)) (kb : gD → Int32 → Int32 → Int32 → Int32 → Int32 → Option (Int32 × gD)) (d : gD) (v3 : Int32) (v4 : Int32) (v6 : Int32) (v7 : Int32) (v8 : Int32) (v9 : Int32) (u0 : Option Nat) (u1 : Int32) (u2 : Int32) : Option (Int32 × gD) :=
  nn u0 fun a1 =>
  kd S a1 50 <|
  gi u1 (sN S a1) <|
  lt_ (wI d a1 u1.toNatClampNeg u2) fun d4 =>
  if v7 = 0 then (
    f_R_method_J180 S o kx186 kb d4 v3 v4 v6 v7 v8)
  else (
    kd S o 10 <|
    bd (f_R_there S d4 o v9) fun x6 =>
    if x6 = 0 then (
      some ((-1), d4))
    else (
      f_R_method_J180 S o kx186 kb d4 v3 v4 v6 v7 v8))
set_option maxRecDepth 100000 in
set_option maxHeartbeats 4000000 in
theorem w_R_method_J163 {X : GX} (hE : gE X b_R_method 10 "StandInMillModel" (some (.int)) "method" 2 42) {S : gS} {o : Nat} {r : Int32} {d' : gD} {kb : gD → Int32 → Int32 → Int32 → Int32 → Int32 → Option (Int32 × gD)} {kx186 : gD → Int32 → Int32 → Option (Int32 × gD)} (hkb : ∀ (d : gD) (v3 : Int32) (v4 : Int32) (v6 : Int32) (v7 : Int32) (v8 : Int32), kb d v3 v4 v6 v7 v8 = some (r, d') → gw X 0 0 (gQ X (some (.int r)) S d' 0 0) S d 111 [some (va_rf (some o)), none, none, some (.int v3), some (.int v4), none, some (.int v6), some (.int v7), some (.int v8), none] []) (hkx186 : ∀ (d : gD) (v4 : Int32) (v6 : Int32), kx186 d v4 v6 = some (r, d') → gw X 0 0 (gQ X (some (.int r)) S d' 0 0) S d 186 [some (va_rf (some o)), none, none, none, some (.int v4), none, some (.int v6), none, none, none] []) :
    ∀ (d : gD) (v3 : Int32) (v4 : Int32) (v6 : Int32) (v7 : Int32) (v8 : Int32) (v9 : Int32) (u0 : Option Nat) (u1 : Int32) (u2 : Int32), f_R_method_J163 S o kx186 kb d v3 v4 v6 v7 v8 v9 u0 u1 u2 = some (r, d') → gw X 0 0 (gQ X (some (.int r)) S d' 0 0) S d 163 [some (va_rf (some o)), none, none, some (.int v3), some (.int v4), none, some (.int v6), some (.int v7), some (.int v8), some (.int v9)] [.int u2, .int u1, va_rf u0] := by
  intro d v3 v4 v6 v7 v8 v9 u0 u1 u2 h
  unfold f_R_method_J163 at h
  obtain ⟨a1, rfl, h⟩ := nn_s h
  obtain ⟨k2, h⟩ := kd_s h
  obtain ⟨g3, h⟩ := gi_s h
  refine g_iast hE k2 g3 d_R_method_163 (fun d4 e => ?_)
  replace h := lt_i e h; clear e
  refine g_iload (i := 7) hE d_R_method_164 rfl ?_
  refine g_if_eq hE d_R_method_166 (fun c9 => ?_) (fun c9 => ?_)
  · replace h := if_t c9 h
    exact gw.less (lv' := [some (va_rf (some o)), none, none, some (.int v3), some (.int v4), none, some (.int v6), some (.int v7), some (.int v8), none]) (And.intro rfl (And.intro rfl (And.intro rfl (And.intro rfl (And.intro rfl (And.intro rfl trivial)))))) (w_R_method_J180 hE hkb hkx186 d4 v3 v4 v6 v7 v8 h)
  · replace h := if_f c9 h
    refine g_aload_n (i := 0) hE d_R_method_169 rfl rfl ?_
    refine g_iload (i := 9) hE d_R_method_170 rfl ?_
    obtain ⟨k5, h⟩ := kd_s h
    obtain ⟨x6, e7, h⟩ := bd_s h
    refine g_callV (av := [.inr (.inr (some o)), .inl v9]) (as := [.inl v9]) (stk := [.int x6]) [] hE (c_R_there (xl X) (xG X) e7) ky_R_there ⟨Nat.le_of_ble_eq_true rfl, Nat.le_of_ble_eq_true rfl⟩ rfl kc_R k5 m_435 m_436 m_437 rfl d_R_method_172 rfl rfl ct_0 (Nat.zero_le _) (Nat.zero_le _) ?_
    refine gw.cs (c2 := 0) (s2 := 0) rfl rfl ?_
    refine g_if_ne hE d_R_method_175 (fun c8 => ?_) (fun c8 => ?_)
    · replace h := if_f c8 h
      exact gw.less (lv' := [some (va_rf (some o)), none, none, some (.int v3), some (.int v4), none, some (.int v6), some (.int v7), some (.int v8), none]) (And.intro rfl (And.intro rfl (And.intro rfl (And.intro rfl (And.intro rfl (And.intro rfl trivial)))))) (w_R_method_J180 hE hkb hkx186 d4 v3 v4 v6 v7 v8 h)
    · replace h := if_t c8 h
      refine g_iconst hE d_R_method_178 ki_m1 ?_
      cases h
      exact g_iret hE d_R_method_179 rfl rfl
def f_R_method_J141 (S : gS) (o : Nat) (kx186 : gD → Int32 → Int32 → Option (Int32 × gD)) (kb : gD → Int32 → Int32 → Int32 → Int32 → Int32 → Option (Int32 × gD)) (d : gD) (v3 : Int32) (v4 : Int32) (v6 : Int32) (v7 : Int32) (v8 : Int32) (v9 : Int32) : Option (Int32 × gD) :=
  kd S o 10 <|
  lt_ (sP S o 15) fun x2 =>
  if v7 = 0 then (
    f_R_method_J163 S o kx186 kb d v3 v4 v6 v7 v8 v9 x2 ((3 * v6) + v8) 0)
  else (
    f_R_method_J163 S o kx186 kb d v3 v4 v6 v7 v8 v9 x2 ((3 * v6) + v8) v9)
set_option maxRecDepth 100000 in
set_option maxHeartbeats 4000000 in
theorem w_R_method_J141 {X : GX} (hE : gE X b_R_method 10 "StandInMillModel" (some (.int)) "method" 2 42) {S : gS} {o : Nat} {r : Int32} {d' : gD} {kb : gD → Int32 → Int32 → Int32 → Int32 → Int32 → Option (Int32 × gD)} {kx186 : gD → Int32 → Int32 → Option (Int32 × gD)} (hkb : ∀ (d : gD) (v3 : Int32) (v4 : Int32) (v6 : Int32) (v7 : Int32) (v8 : Int32), kb d v3 v4 v6 v7 v8 = some (r, d') → gw X 0 0 (gQ X (some (.int r)) S d' 0 0) S d 111 [some (va_rf (some o)), none, none, some (.int v3), some (.int v4), none, some (.int v6), some (.int v7), some (.int v8), none] []) (hkx186 : ∀ (d : gD) (v4 : Int32) (v6 : Int32), kx186 d v4 v6 = some (r, d') → gw X 0 0 (gQ X (some (.int r)) S d' 0 0) S d 186 [some (va_rf (some o)), none, none, none, some (.int v4), none, some (.int v6), none, none, none] []) :
    ∀ (d : gD) (v3 : Int32) (v4 : Int32) (v6 : Int32) (v7 : Int32) (v8 : Int32) (v9 : Int32), f_R_method_J141 S o kx186 kb d v3 v4 v6 v7 v8 v9 = some (r, d') → gw X 0 0 (gQ X (some (.int r)) S d' 0 0) S d 141 [some (va_rf (some o)), none, none, some (.int v3), some (.int v4), none, some (.int v6), some (.int v7), some (.int v8), some (.int v9)] [] := by
  intro d v3 v4 v6 v7 v8 v9 h
  unfold f_R_method_J141 at h
  refine g_aload_n (i := 0) hE d_R_method_141 rfl rfl ?_
  obtain ⟨k1, h⟩ := kd_s h
  refine g_getR 15 hE kc_R k1 (Nat.le_of_ble_eq_true rfl) rfl m_392 d_R_method_142 (fun x2 e => ?_)
  replace h := lt_i e h; clear e
  refine g_iconst hE d_R_method_145 ki_3 ?_
  refine g_iload (i := 6) hE d_R_method_146 rfl ?_
  refine g_imul hE d_R_method_148 ?_
  refine g_iload (i := 8) hE d_R_method_149 rfl ?_
  refine g_iadd hE d_R_method_151 ?_
  refine g_iload (i := 7) hE d_R_method_152 rfl ?_
  refine g_if_eq hE d_R_method_154 (fun c3 => ?_) (fun c3 => ?_)
  · replace h := if_t c3 h
    refine g_iconst hE d_R_method_162 ki_0 ?_
    exact gw.less (lv' := [some (va_rf (some o)), none, none, some (.int v3), some (.int v4), none, some (.int v6), some (.int v7), some (.int v8), some (.int v9)]) (And.intro rfl (And.intro rfl (And.intro rfl (And.intro rfl (And.intro rfl (And.intro rfl (And.intro rfl trivial))))))) (w_R_method_J163 hE hkb hkx186 d v3 v4 v6 v7 v8 v9 x2 ((3 * v6) + v8) 0 h)
  · replace h := if_f c3 h
    refine g_iload (i := 9) hE d_R_method_157 rfl ?_
    refine g_goto hE d_R_method_159 ?_
    exact gw.less (lv' := [some (va_rf (some o)), none, none, some (.int v3), some (.int v4), none, some (.int v6), some (.int v7), some (.int v8), some (.int v9)]) (And.intro rfl (And.intro rfl (And.intro rfl (And.intro rfl (And.intro rfl (And.intro rfl (And.intro rfl trivial))))))) (w_R_method_J163 hE hkb hkx186 d v3 v4 v6 v7 v8 v9 x2 ((3 * v6) + v8) v9 h)
def f_R_method_B111 (S : gS) (o : Nat) (kx186 : gD → Int32 → Int32 → Option (Int32 × gD)) (kb : gD → Int32 → Int32 → Int32 → Int32 → Int32 → Option (Int32 × gD)) (d : gD) (v3 : Int32) (v4 : Int32) (v6 : Int32) (v7 : Int32) (v8 : Int32) : Option (Int32 × gD) :=
  if 3 ≤ v8 then (
    kx186 d v4 v6)
  else (
    if ((v3 >>> (((8 * v8) + 8) &&& 31)) &&& 255) = 0 then (
      f_R_method_J141 S o kx186 kb d v3 v4 v6 0 v8 ((v3 >>> (((8 * v8) + 8) &&& 31)) &&& 255))
    else (
      f_R_method_J141 S o kx186 kb d v3 v4 v6 v7 v8 ((v3 >>> (((8 * v8) + 8) &&& 31)) &&& 255)))
set_option maxRecDepth 100000 in
set_option maxHeartbeats 4000000 in
theorem w_R_method_B111 {X : GX} (hE : gE X b_R_method 10 "StandInMillModel" (some (.int)) "method" 2 42) {S : gS} {o : Nat} {r : Int32} {d' : gD} {kb : gD → Int32 → Int32 → Int32 → Int32 → Int32 → Option (Int32 × gD)} {kx186 : gD → Int32 → Int32 → Option (Int32 × gD)} (hkb : ∀ (d : gD) (v3 : Int32) (v4 : Int32) (v6 : Int32) (v7 : Int32) (v8 : Int32), kb d v3 v4 v6 v7 v8 = some (r, d') → gw X 0 0 (gQ X (some (.int r)) S d' 0 0) S d 111 [some (va_rf (some o)), none, none, some (.int v3), some (.int v4), none, some (.int v6), some (.int v7), some (.int v8), none] []) (hkx186 : ∀ (d : gD) (v4 : Int32) (v6 : Int32), kx186 d v4 v6 = some (r, d') → gw X 0 0 (gQ X (some (.int r)) S d' 0 0) S d 186 [some (va_rf (some o)), none, none, none, some (.int v4), none, some (.int v6), none, none, none] []) :
    ∀ (d : gD) (v3 : Int32) (v4 : Int32) (v6 : Int32) (v7 : Int32) (v8 : Int32), f_R_method_B111 S o kx186 kb d v3 v4 v6 v7 v8 = some (r, d') → gw X 0 0 (gQ X (some (.int r)) S d' 0 0) S d 111 [some (va_rf (some o)), none, none, some (.int v3), some (.int v4), none, some (.int v6), some (.int v7), some (.int v8), none] [] := by
  intro d v3 v4 v6 v7 v8 h
  unfold f_R_method_B111 at h
  refine g_iload (i := 8) hE d_R_method_111 rfl ?_
  refine g_iconst hE d_R_method_113 ki_3 ?_
  refine g_icmp_ge hE d_R_method_114 (fun c2 => ?_) (fun c2 => ?_)
  · replace h := if_t c2 h
    exact gw.less (lv' := [some (va_rf (some o)), none, none, none, some (.int v4), none, some (.int v6), none, none, none]) (And.intro rfl (And.intro rfl (And.intro rfl trivial))) (hkx186 d v4 v6 h)
  · replace h := if_f c2 h
    refine g_iload_n (i := 3) hE d_R_method_117 rfl rfl ?_
    refine g_bipush hE d_R_method_118 kb_8 ?_
    refine g_iload (i := 8) hE d_R_method_120 rfl ?_
    refine g_imul hE d_R_method_122 ?_
    refine g_bipush hE d_R_method_123 kb_8 ?_
    refine g_iadd hE d_R_method_125 ?_
    refine g_ishr hE d_R_method_126 ?_
    refine g_sipush hE d_R_method_127 ks_255 ?_
    refine g_iand hE d_R_method_130 ?_
    refine g_istore (i := 9) (lv' := [some (va_rf (some o)), none, none, some (.int v3), some (.int v4), none, some (.int v6), some (.int v7), some (.int v8), some (.int ((v3 >>> (((8 * v8) + 8) &&& 31)) &&& 255))]) hE d_R_method_131 (Nat.le_of_ble_eq_true rfl) ⟨rfl, Nat.le_of_ble_eq_true rfl⟩ (lvp_i rfl) ?_
    refine g_iload (i := 9) hE d_R_method_133 rfl ?_
    refine g_if_ne hE d_R_method_135 (fun c1 => ?_) (fun c1 => ?_)
    · replace h := if_f c1 h
      exact gw.less (lv' := [some (va_rf (some o)), none, none, some (.int v3), some (.int v4), none, some (.int v6), some (.int v7), some (.int v8), some (.int ((v3 >>> (((8 * v8) + 8) &&& 31)) &&& 255))]) (And.intro rfl (And.intro rfl (And.intro rfl (And.intro rfl (And.intro rfl (And.intro rfl (And.intro rfl trivial))))))) (w_R_method_J141 hE hkb hkx186 d v3 v4 v6 v7 v8 ((v3 >>> (((8 * v8) + 8) &&& 31)) &&& 255) h)
    · replace h := if_t c1 h
      refine g_iconst hE d_R_method_138 ki_0 ?_
      refine g_istore (i := 7) (lv' := [some (va_rf (some o)), none, none, some (.int v3), some (.int v4), none, some (.int v6), some (.int 0), some (.int v8), some (.int ((v3 >>> (((8 * v8) + 8) &&& 31)) &&& 255))]) hE d_R_method_139 (Nat.le_of_ble_eq_true rfl) ⟨rfl, Nat.le_of_ble_eq_true rfl⟩ (lvp_i rfl) ?_
      exact gw.less (lv' := [some (va_rf (some o)), none, none, some (.int v3), some (.int v4), none, some (.int v6), some (.int 0), some (.int v8), some (.int ((v3 >>> (((8 * v8) + 8) &&& 31)) &&& 255))]) (And.intro rfl (And.intro rfl (And.intro rfl (And.intro rfl (And.intro rfl (And.intro rfl (And.intro rfl trivial))))))) (w_R_method_J141 hE hkb hkx186 d v3 v4 v6 0 v8 ((v3 >>> (((8 * v8) + 8) &&& 31)) &&& 255) h)
theorem w_R_method_L111 {X : GX} (hE : gE X b_R_method 10 "StandInMillModel" (some (.int)) "method" 2 42) {S : gS} {o : Nat} {r : Int32} {d' : gD} {kx186 : gD → Int32 → Int32 → Option (Int32 × gD)} (hkx186 : ∀ (d : gD) (v4 : Int32) (v6 : Int32), kx186 d v4 v6 = some (r, d') → gw X 0 0 (gQ X (some (.int r)) S d' 0 0) S d 186 [some (va_rf (some o)), none, none, none, some (.int v4), none, some (.int v6), none, none, none] []) : ∀ (n : Nat) (d : gD) (v3 : Int32) (v4 : Int32) (v6 : Int32) (v7 : Int32) (v8 : Int32), itr (f_R_method_B111 S o kx186) (fun _ _ _ _ _ _ => none) n d v3 v4 v6 v7 v8 = some (r, d') → gw X 0 0 (gQ X (some (.int r)) S d' 0 0) S d 111 [some (va_rf (some o)), none, none, some (.int v3), some (.int v4), none, some (.int v6), some (.int v7), some (.int v8), none] [] := by
  intro n
  induction n with
  | zero => intro d v3 v4 v6 v7 v8 h; cases h
  | succ n ih => exact w_R_method_B111 hE ih hkx186
def f_R_method_B193 (S : gS) (o : Nat) (kx219 : gD → Int32 → Int32 → Option (Int32 × gD)) (kb : gD → Int32 → Int32 → Int32 → Option (Int32 × gD)) (d : gD) (v4 : Int32) (v6 : Int32) (v8 : Int32) : Option (Int32 × gD) :=
  if v6 ≤ v8 then (
    kx219 d v4 v6)
  else (
    kd S o 10 <|
    bd (f_R_sameSignature S d o v8 v6) fun x2 =>
    if x2 = 0 then (
      kb d v4 v6 (v8 + 1))
    else (
      some ((-1), d)))
set_option maxRecDepth 100000 in
set_option maxHeartbeats 4000000 in
theorem w_R_method_B193 {X : GX} (hE : gE X b_R_method 10 "StandInMillModel" (some (.int)) "method" 2 42) {S : gS} {o : Nat} {r : Int32} {d' : gD} {kb : gD → Int32 → Int32 → Int32 → Option (Int32 × gD)} {kx219 : gD → Int32 → Int32 → Option (Int32 × gD)} (hkb : ∀ (d : gD) (v4 : Int32) (v6 : Int32) (v8 : Int32), kb d v4 v6 v8 = some (r, d') → gw X 0 0 (gQ X (some (.int r)) S d' 0 0) S d 193 [some (va_rf (some o)), none, none, none, some (.int v4), none, some (.int v6), none, some (.int v8), none] []) (hkx219 : ∀ (d : gD) (v4 : Int32) (v6 : Int32), kx219 d v4 v6 = some (r, d') → gw X 0 0 (gQ X (some (.int r)) S d' 0 0) S d 219 [some (va_rf (some o)), none, none, none, some (.int v4), none, some (.int v6), none, none, none] []) :
    ∀ (d : gD) (v4 : Int32) (v6 : Int32) (v8 : Int32), f_R_method_B193 S o kx219 kb d v4 v6 v8 = some (r, d') → gw X 0 0 (gQ X (some (.int r)) S d' 0 0) S d 193 [some (va_rf (some o)), none, none, none, some (.int v4), none, some (.int v6), none, some (.int v8), none] [] := by
  intro d v4 v6 v8 h
  unfold f_R_method_B193 at h
  refine g_iload (i := 8) hE d_R_method_193 rfl ?_
  refine g_iload (i := 6) hE d_R_method_195 rfl ?_
  refine g_icmp_ge hE d_R_method_197 (fun c5 => ?_) (fun c5 => ?_)
  · replace h := if_t c5 h
    exact gw.less (lv' := [some (va_rf (some o)), none, none, none, some (.int v4), none, some (.int v6), none, none, none]) (And.intro rfl (And.intro rfl (And.intro rfl trivial))) (hkx219 d v4 v6 h)
  · replace h := if_f c5 h
    refine g_aload_n (i := 0) hE d_R_method_200 rfl rfl ?_
    refine g_iload (i := 8) hE d_R_method_201 rfl ?_
    refine g_iload (i := 6) hE d_R_method_203 rfl ?_
    obtain ⟨k1, h⟩ := kd_s h
    obtain ⟨x2, e3, h⟩ := bd_s h
    refine g_callV (av := [.inr (.inr (some o)), .inl v8, .inl v6]) (as := [.inl v8, .inl v6]) (stk := [.int x2]) [] hE (c_R_sameSignature (xl X) (xG X) e3) ky_R_sameSignature ⟨Nat.le_of_ble_eq_true rfl, Nat.le_of_ble_eq_true rfl⟩ rfl kc_R k1 m_444 m_445 m_446 rfl d_R_method_205 rfl rfl ct_0 (Nat.zero_le _) (Nat.zero_le _) ?_
    refine gw.cs (c2 := 0) (s2 := 0) rfl rfl ?_
    refine g_if_eq hE d_R_method_208 (fun c4 => ?_) (fun c4 => ?_)
    · replace h := if_t c4 h
      refine g_iinc (i := 8) (lv' := [some (va_rf (some o)), none, none, none, some (.int v4), none, some (.int v6), none, some (.int (v8 + 1)), none]) hE d_R_method_213 ki_1 rfl (Nat.le_of_ble_eq_true rfl) ⟨rfl, Nat.le_of_ble_eq_true rfl⟩ (lvp_n rfl) ?_
      refine g_goto hE d_R_method_216 ?_
      exact gw.less (lv' := [some (va_rf (some o)), none, none, none, some (.int v4), none, some (.int v6), none, some (.int (v8 + 1)), none]) (And.intro rfl (And.intro rfl (And.intro rfl (And.intro rfl trivial)))) (hkb d v4 v6 (v8 + 1) h)
    · replace h := if_f c4 h
      refine g_iconst hE d_R_method_211 ki_m1 ?_
      cases h
      exact g_iret hE d_R_method_212 rfl rfl
theorem w_R_method_L193 {X : GX} (hE : gE X b_R_method 10 "StandInMillModel" (some (.int)) "method" 2 42) {S : gS} {o : Nat} {r : Int32} {d' : gD} {kx219 : gD → Int32 → Int32 → Option (Int32 × gD)} (hkx219 : ∀ (d : gD) (v4 : Int32) (v6 : Int32), kx219 d v4 v6 = some (r, d') → gw X 0 0 (gQ X (some (.int r)) S d' 0 0) S d 219 [some (va_rf (some o)), none, none, none, some (.int v4), none, some (.int v6), none, none, none] []) : ∀ (n : Nat) (d : gD) (v4 : Int32) (v6 : Int32) (v8 : Int32), itr (f_R_method_B193 S o kx219) (fun _ _ _ _ => none) n d v4 v6 v8 = some (r, d') → gw X 0 0 (gQ X (some (.int r)) S d' 0 0) S d 193 [some (va_rf (some o)), none, none, none, some (.int v4), none, some (.int v6), none, some (.int v8), none] [] := by
  intro n
  induction n with
  | zero => intro d v4 v6 v8 h; cases h
  | succ n ih => exact w_R_method_B193 hE ih hkx219
def f_R_method_J219 (S : gS) (o : Nat) (d : gD) (v4 : Int32) (v6 : Int32) : Option (Int32 × gD) :=
  kd S o 10 <|
  lt_ (sP S o 16) fun x2 =>
  nn x2 fun a3 =>
  kd S a3 50 <|
  gi v6 (sN S a3) <|
  lt_ (wI d a3 v6.toNatClampNeg 0) fun d6 =>
  lt_ (sP S o 12) fun x7 =>
  lt_ (sP S o 12) fun x8 =>
  nn x8 fun a9 =>
  kd S a9 50 <|
  gi v4 (sN S a9) <|
  lt_ (dI d6 a9 v4.toNatClampNeg) fun x12 =>
  nn x7 fun a13 =>
  kd S a13 50 <|
  gi v4 (sN S a13) <|
  lt_ (wI d6 a13 v4.toNatClampNeg (x12 + 1)) fun d16 =>
  lt_ (sP S o 12) fun x17 =>
  nn x17 fun a18 =>
  kd S a18 50 <|
  gi v4 (sN S a18) <|
  lt_ (dI d16 a18 v4.toNatClampNeg) fun x21 =>
  some (x21 - 1, d16)
set_option maxRecDepth 100000 in
set_option maxHeartbeats 4000000 in
theorem w_R_method_J219 {X : GX} (hE : gE X b_R_method 10 "StandInMillModel" (some (.int)) "method" 2 42) {S : gS} {o : Nat} {r : Int32} {d' : gD} :
    ∀ (d : gD) (v4 : Int32) (v6 : Int32), f_R_method_J219 S o d v4 v6 = some (r, d') → gw X 0 0 (gQ X (some (.int r)) S d' 0 0) S d 219 [some (va_rf (some o)), none, none, none, some (.int v4), none, some (.int v6), none, none, none] [] := by
  intro d v4 v6 h
  unfold f_R_method_J219 at h
  refine g_aload_n (i := 0) hE d_R_method_219 rfl rfl ?_
  obtain ⟨k1, h⟩ := kd_s h
  refine g_getR 16 hE kc_R k1 (Nat.le_of_ble_eq_true rfl) rfl m_393 d_R_method_220 (fun x2 e => ?_)
  replace h := lt_i e h; clear e
  refine g_iload (i := 6) hE d_R_method_223 rfl ?_
  refine g_iconst hE d_R_method_225 ki_0 ?_
  obtain ⟨a3, rfl, h⟩ := nn_s h
  obtain ⟨k4, h⟩ := kd_s h
  obtain ⟨g5, h⟩ := gi_s h
  refine g_iast hE k4 g5 d_R_method_226 (fun d6 e => ?_)
  replace h := lt_i e h; clear e
  refine g_aload_n (i := 0) hE d_R_method_227 rfl rfl ?_
  refine g_getR 12 hE kc_R k1 (Nat.le_of_ble_eq_true rfl) rfl m_389 d_R_method_228 (fun x7 e => ?_)
  replace h := lt_i e h; clear e
  refine g_iload (i := 4) hE d_R_method_231 rfl ?_
  refine g_aload_n (i := 0) hE d_R_method_233 rfl rfl ?_
  refine g_getR 12 hE kc_R k1 (Nat.le_of_ble_eq_true rfl) rfl m_389 d_R_method_234 (fun x8 e => ?_)
  replace h := lt_i e h; clear e
  refine g_iload (i := 4) hE d_R_method_237 rfl ?_
  obtain ⟨a9, rfl, h⟩ := nn_s h
  obtain ⟨k10, h⟩ := kd_s h
  obtain ⟨g11, h⟩ := gi_s h
  refine g_iald hE k10 g11 d_R_method_239 (fun x12 e => ?_)
  replace h := lt_i e h; clear e
  refine g_iconst hE d_R_method_240 ki_1 ?_
  refine g_iadd hE d_R_method_241 ?_
  obtain ⟨a13, rfl, h⟩ := nn_s h
  obtain ⟨k14, h⟩ := kd_s h
  obtain ⟨g15, h⟩ := gi_s h
  refine g_iast hE k14 g15 d_R_method_242 (fun d16 e => ?_)
  replace h := lt_i e h; clear e
  refine g_aload_n (i := 0) hE d_R_method_243 rfl rfl ?_
  refine g_getR 12 hE kc_R k1 (Nat.le_of_ble_eq_true rfl) rfl m_389 d_R_method_244 (fun x17 e => ?_)
  replace h := lt_i e h; clear e
  refine g_iload (i := 4) hE d_R_method_247 rfl ?_
  obtain ⟨a18, rfl, h⟩ := nn_s h
  obtain ⟨k19, h⟩ := kd_s h
  obtain ⟨g20, h⟩ := gi_s h
  refine g_iald hE k19 g20 d_R_method_249 (fun x21 e => ?_)
  replace h := lt_i e h; clear e
  refine g_iconst hE d_R_method_250 ki_1 ?_
  refine g_isub hE d_R_method_251 ?_
  cases h
  exact g_iret hE d_R_method_252 rfl rfl
def f_R_method_J186 (S : gS) (o : Nat) (d : gD) (v4 : Int32) (v6 : Int32) : Option (Int32 × gD) :=
  itr (f_R_method_B193 S o (f_R_method_J219 S o)) (fun _ _ _ _ => none) fu d v4 v6 (6 * v4)
set_option maxRecDepth 100000 in
set_option maxHeartbeats 4000000 in
theorem w_R_method_J186 {X : GX} (hE : gE X b_R_method 10 "StandInMillModel" (some (.int)) "method" 2 42) {S : gS} {o : Nat} {r : Int32} {d' : gD} :
    ∀ (d : gD) (v4 : Int32) (v6 : Int32), f_R_method_J186 S o d v4 v6 = some (r, d') → gw X 0 0 (gQ X (some (.int r)) S d' 0 0) S d 186 [some (va_rf (some o)), none, none, none, some (.int v4), none, some (.int v6), none, none, none] [] := by
  intro d v4 v6 h
  unfold f_R_method_J186 at h
  refine g_bipush hE d_R_method_186 kb_6 ?_
  refine g_iload (i := 4) hE d_R_method_188 rfl ?_
  refine g_imul hE d_R_method_190 ?_
  refine g_istore (i := 8) (lv' := [some (va_rf (some o)), none, none, none, some (.int v4), none, some (.int v6), none, some (.int (6 * v4)), none]) hE d_R_method_191 (Nat.le_of_ble_eq_true rfl) ⟨rfl, Nat.le_of_ble_eq_true rfl⟩ (lvp_n rfl) ?_
  exact gw.less (lv' := [some (va_rf (some o)), none, none, none, some (.int v4), none, some (.int v6), none, some (.int (6 * v4)), none]) (And.intro rfl (And.intro rfl (And.intro rfl (And.intro rfl trivial)))) (w_R_method_L193 hE (w_R_method_J219 hE) fu d v4 v6 (6 * v4) h)
def f_R_method_J59 (S : gS) (o : Nat) (d : gD) (v2 : Int32) (v3 : Int32) (v4 : Int32) (v5 : Int32) : Option (Int32 × gD) :=
  kd S o 10 <|
  lt_ (sP S o 12) fun x2 =>
  nn x2 fun a3 =>
  kd S a3 50 <|
  gi v4 (sN S a3) <|
  lt_ (dI d a3 v4.toNatClampNeg) fun x6 =>
  if x6 = 6 then (
    some ((-1), d))
  else (
    lt_ (sP S o 12) fun x7 =>
    nn x7 fun a8 =>
    kd S a8 50 <|
    gi v4 (sN S a8) <|
    lt_ (dI d a8 v4.toNatClampNeg) fun x11 =>
    lt_ (sP S o 13) fun x12 =>
    nn x12 fun a13 =>
    kd S a13 50 <|
    gi ((6 * v4) + x11) (sN S a13) <|
    lt_ (wI d a13 ((6 * v4) + x11 : Int32).toNatClampNeg v2) fun d16 =>
    lt_ (sP S o 14) fun x17 =>
    nn x17 fun a18 =>
    kd S a18 50 <|
    gi ((6 * v4) + x11) (sN S a18) <|
    lt_ (wI d16 a18 ((6 * v4) + x11 : Int32).toNatClampNeg v5) fun d21 =>
    itr (f_R_method_B111 S o (f_R_method_J186 S o)) (fun _ _ _ _ _ _ => none) fu d21 v3 v4 ((6 * v4) + x11) 1 0)
set_option maxRecDepth 100000 in
set_option maxHeartbeats 4000000 in
theorem w_R_method_J59 {X : GX} (hE : gE X b_R_method 10 "StandInMillModel" (some (.int)) "method" 2 42) {S : gS} {o : Nat} {r : Int32} {d' : gD} :
    ∀ (d : gD) (v2 : Int32) (v3 : Int32) (v4 : Int32) (v5 : Int32), f_R_method_J59 S o d v2 v3 v4 v5 = some (r, d') → gw X 0 0 (gQ X (some (.int r)) S d' 0 0) S d 59 [some (va_rf (some o)), none, some (.int v2), some (.int v3), some (.int v4), some (.int v5), none, none, none, none] [] := by
  intro d v2 v3 v4 v5 h
  unfold f_R_method_J59 at h
  refine g_aload_n (i := 0) hE d_R_method_59 rfl rfl ?_
  obtain ⟨k1, h⟩ := kd_s h
  refine g_getR 12 hE kc_R k1 (Nat.le_of_ble_eq_true rfl) rfl m_389 d_R_method_60 (fun x2 e => ?_)
  replace h := lt_i e h; clear e
  refine g_iload (i := 4) hE d_R_method_63 rfl ?_
  obtain ⟨a3, rfl, h⟩ := nn_s h
  obtain ⟨k4, h⟩ := kd_s h
  obtain ⟨g5, h⟩ := gi_s h
  refine g_iald hE k4 g5 d_R_method_65 (fun x6 e => ?_)
  replace h := lt_i e h; clear e
  refine g_bipush hE d_R_method_66 kb_6 ?_
  refine g_icmp_ne hE d_R_method_68 (fun c22 => ?_) (fun c22 => ?_)
  · replace h := if_f c22 h
    refine g_bipush hE d_R_method_73 kb_6 ?_
    refine g_iload (i := 4) hE d_R_method_75 rfl ?_
    refine g_imul hE d_R_method_77 ?_
    refine g_aload_n (i := 0) hE d_R_method_78 rfl rfl ?_
    refine g_getR 12 hE kc_R k1 (Nat.le_of_ble_eq_true rfl) rfl m_389 d_R_method_79 (fun x7 e => ?_)
    replace h := lt_i e h; clear e
    refine g_iload (i := 4) hE d_R_method_82 rfl ?_
    obtain ⟨a8, rfl, h⟩ := nn_s h
    obtain ⟨k9, h⟩ := kd_s h
    obtain ⟨g10, h⟩ := gi_s h
    refine g_iald hE k9 g10 d_R_method_84 (fun x11 e => ?_)
    replace h := lt_i e h; clear e
    refine g_iadd hE d_R_method_85 ?_
    refine g_istore (i := 6) (lv' := [some (va_rf (some o)), none, some (.int v2), some (.int v3), some (.int v4), some (.int v5), some (.int ((6 * v4) + x11)), none, none, none]) hE d_R_method_86 (Nat.le_of_ble_eq_true rfl) ⟨rfl, Nat.le_of_ble_eq_true rfl⟩ (lvp_i rfl) ?_
    refine g_aload_n (i := 0) hE d_R_method_88 rfl rfl ?_
    refine g_getR 13 hE kc_R k1 (Nat.le_of_ble_eq_true rfl) rfl m_390 d_R_method_89 (fun x12 e => ?_)
    replace h := lt_i e h; clear e
    refine g_iload (i := 6) hE d_R_method_92 rfl ?_
    refine g_iload_n (i := 2) hE d_R_method_94 rfl rfl ?_
    obtain ⟨a13, rfl, h⟩ := nn_s h
    obtain ⟨k14, h⟩ := kd_s h
    obtain ⟨g15, h⟩ := gi_s h
    refine g_iast hE k14 g15 d_R_method_95 (fun d16 e => ?_)
    replace h := lt_i e h; clear e
    refine g_aload_n (i := 0) hE d_R_method_96 rfl rfl ?_
    refine g_getR 14 hE kc_R k1 (Nat.le_of_ble_eq_true rfl) rfl m_391 d_R_method_97 (fun x17 e => ?_)
    replace h := lt_i e h; clear e
    refine g_iload (i := 6) hE d_R_method_100 rfl ?_
    refine g_iload (i := 5) hE d_R_method_102 rfl ?_
    obtain ⟨a18, rfl, h⟩ := nn_s h
    obtain ⟨k19, h⟩ := kd_s h
    obtain ⟨g20, h⟩ := gi_s h
    refine g_iast hE k19 g20 d_R_method_104 (fun d21 e => ?_)
    replace h := lt_i e h; clear e
    refine g_iconst hE d_R_method_105 ki_1 ?_
    refine g_istore (i := 7) (lv' := [some (va_rf (some o)), none, some (.int v2), some (.int v3), some (.int v4), some (.int v5), some (.int ((6 * v4) + x11)), some (.int 1), none, none]) hE d_R_method_106 (Nat.le_of_ble_eq_true rfl) ⟨rfl, Nat.le_of_ble_eq_true rfl⟩ (lvp_i rfl) ?_
    refine g_iconst hE d_R_method_108 ki_0 ?_
    refine g_istore (i := 8) (lv' := [some (va_rf (some o)), none, some (.int v2), some (.int v3), some (.int v4), some (.int v5), some (.int ((6 * v4) + x11)), some (.int 1), some (.int 0), none]) hE d_R_method_109 (Nat.le_of_ble_eq_true rfl) ⟨rfl, Nat.le_of_ble_eq_true rfl⟩ (lvp_i rfl) ?_
    exact gw.less (lv' := [some (va_rf (some o)), none, none, some (.int v3), some (.int v4), none, some (.int ((6 * v4) + x11)), some (.int 1), some (.int 0), none]) (And.intro rfl (And.intro rfl (And.intro rfl (And.intro rfl (And.intro rfl (And.intro rfl trivial)))))) (w_R_method_L111 hE (w_R_method_J186 hE) fu d21 v3 v4 ((6 * v4) + x11) 1 0 h)
  · replace h := if_t c22 h
    refine g_iconst hE d_R_method_71 ki_m1 ?_
    cases h
    exact g_iret hE d_R_method_72 rfl rfl
set_option maxRecDepth 100000 in
def f_R_method (S : gS) (d : gD) (o : Nat) (v1 : Int32) (v2 : Int32) (v3 : Int32) : Option (Int32 × gD) :=
  kd S o 10 <|
  lt_ (wI d o 0 0) fun d2 =>
  bd (f_R_isFace S d2 o v1) fun x3 =>
  if x3 = 0 then (
    some ((-1), d2))
  else (
    if v2 < 0 then (
      some ((-1), d2))
    else (
      if 28 < v2 then (
        some ((-1), d2))
      else (
        lt_ (dI d2 o 21) fun x5 =>
        if x5 ≤ 0 then (
          if (v3 &&& 255) = 0 then (
            f_R_method_J59 S o d2 v2 v3 (v1 - 24) (v3 &&& 255))
          else (
            bd (f_R_there S d2 o (v3 &&& 255)) fun x6 =>
            if x6 = 0 then (
              some ((-1), d2))
            else (
              f_R_method_J59 S o d2 v2 v3 (v1 - 24) (v3 &&& 255))))
        else (
          some ((-1), d2)))))
set_option maxRecDepth 100000 in
set_option maxHeartbeats 4000000 in
theorem c_R_method (l : Launch) (G : gG) {S : gS} {d : gD} {o : Nat} {v1 : Int32} {v2 : Int32} {v3 : Int32} {r : Int32} {d' : gD} (h : f_R_method S d o v1 v2 v3 = some (r, d')) : GM l G y_R_method b_R_method 10 (some (.int)) 2 42 0 0 [.inr (.inr (some o)), .inl v1, .inl v2, .inl v3] S d (some (.int r)) S d' := by
  refine GM.of (by decide) (Nat.le_of_ble_eq_true rfl) ?_
  intro X hl0 hG0 hR0 hE0
  have hE : gE X b_R_method 10 "StandInMillModel" (some (.int)) "method" 2 42 := hE0
  unfold f_R_method at h
  refine gw.less (lv' := [some (va_rf (some o)), some (.int v1), some (.int v2), some (.int v3), none, none, none, none, none, none]) (And.intro rfl (And.intro rfl (And.intro rfl (And.intro rfl trivial)))) ?_
  refine g_aload_n (i := 0) hE d_R_method_0 rfl rfl ?_
  refine g_iconst hE d_R_method_1 ki_0 ?_
  obtain ⟨k1, h⟩ := kd_s h
  refine g_putI 0 hE kc_R k1 (Nat.le_of_ble_eq_true rfl) rfl m_376 rfl (by decide +kernel) d_R_method_2 (fun d2 e => ?_)
  replace h := lt_i e h; clear e
  refine g_aload_n (i := 0) hE d_R_method_5 rfl rfl ?_
  refine g_iload_n (i := 1) hE d_R_method_6 rfl rfl ?_
  obtain ⟨x3, e4, h⟩ := bd_s h
  refine g_callV (av := [.inr (.inr (some o)), .inl v1]) (as := [.inl v1]) (stk := [.int x3]) [] hE (c_R_isFace (xl X) (xG X) e4) ky_R_isFace ⟨Nat.le_of_ble_eq_true rfl, Nat.le_of_ble_eq_true rfl⟩ rfl kc_R k1 m_430 m_431 m_432 rfl d_R_method_7 rfl rfl ct_0 (Nat.zero_le _) (Nat.zero_le _) ?_
  refine gw.cs (c2 := 0) (s2 := 0) rfl rfl ?_
  refine g_if_eq hE d_R_method_10 (fun c13 => ?_) (fun c13 => ?_)
  · replace h := if_t c13 h
    refine g_iconst hE d_R_method_30 ki_m1 ?_
    cases h
    exact g_iret hE d_R_method_31 rfl rfl
  · replace h := if_f c13 h
    refine g_iload_n (i := 2) hE d_R_method_13 rfl rfl ?_
    refine g_if_lt hE d_R_method_14 (fun c12 => ?_) (fun c12 => ?_)
    · replace h := if_t c12 h
      refine g_iconst hE d_R_method_30 ki_m1 ?_
      cases h
      exact g_iret hE d_R_method_31 rfl rfl
    · replace h := if_f c12 h
      refine g_iload_n (i := 2) hE d_R_method_17 rfl rfl ?_
      refine g_bipush hE d_R_method_18 kb_28 ?_
      refine g_icmp_gt hE d_R_method_20 (fun c11 => ?_) (fun c11 => ?_)
      · replace h := if_t c11 h
        refine g_iconst hE d_R_method_30 ki_m1 ?_
        cases h
        exact g_iret hE d_R_method_31 rfl rfl
      · replace h := if_f c11 h
        refine g_aload_n (i := 0) hE d_R_method_23 rfl rfl ?_
        refine g_getI 21 hE kc_R k1 (Nat.le_of_ble_eq_true rfl) rfl m_398 d_R_method_24 (fun x5 e => ?_)
        replace h := lt_i e h; clear e
        refine g_if_le hE d_R_method_27 (fun c10 => ?_) (fun c10 => ?_)
        · replace h := if_t c10 h
          refine g_iload_n (i := 1) hE d_R_method_32 rfl rfl ?_
          refine g_bipush hE d_R_method_33 kb_24 ?_
          refine g_isub hE d_R_method_35 ?_
          refine g_istore (i := 4) (lv' := [some (va_rf (some o)), some (.int v1), some (.int v2), some (.int v3), some (.int (v1 - 24)), none, none, none, none, none]) hE d_R_method_36 (Nat.le_of_ble_eq_true rfl) ⟨rfl, Nat.le_of_ble_eq_true rfl⟩ (lvp_i rfl) ?_
          refine g_iload_n (i := 3) hE d_R_method_38 rfl rfl ?_
          refine g_sipush hE d_R_method_39 ks_255 ?_
          refine g_iand hE d_R_method_42 ?_
          refine g_istore (i := 5) (lv' := [some (va_rf (some o)), some (.int v1), some (.int v2), some (.int v3), some (.int (v1 - 24)), some (.int (v3 &&& 255)), none, none, none, none]) hE d_R_method_43 (Nat.le_of_ble_eq_true rfl) ⟨rfl, Nat.le_of_ble_eq_true rfl⟩ (lvp_i rfl) ?_
          refine g_iload (i := 5) hE d_R_method_45 rfl ?_
          refine g_if_eq hE d_R_method_47 (fun c9 => ?_) (fun c9 => ?_)
          · replace h := if_t c9 h
            exact gw.less (lv' := [some (va_rf (some o)), none, some (.int v2), some (.int v3), some (.int (v1 - 24)), some (.int (v3 &&& 255)), none, none, none, none]) (And.intro rfl (And.intro rfl (And.intro rfl (And.intro rfl (And.intro rfl trivial))))) (w_R_method_J59 hE d2 v2 v3 (v1 - 24) (v3 &&& 255) h)
          · replace h := if_f c9 h
            refine g_aload_n (i := 0) hE d_R_method_50 rfl rfl ?_
            refine g_iload (i := 5) hE d_R_method_51 rfl ?_
            obtain ⟨x6, e7, h⟩ := bd_s h
            refine g_callV (av := [.inr (.inr (some o)), .inl (v3 &&& 255)]) (as := [.inl (v3 &&& 255)]) (stk := [.int x6]) [] hE (c_R_there (xl X) (xG X) e7) ky_R_there ⟨Nat.le_of_ble_eq_true rfl, Nat.le_of_ble_eq_true rfl⟩ rfl kc_R k1 m_435 m_436 m_437 rfl d_R_method_53 rfl rfl ct_0 (Nat.zero_le _) (Nat.zero_le _) ?_
            refine gw.cs (c2 := 0) (s2 := 0) rfl rfl ?_
            refine g_if_eq hE d_R_method_56 (fun c8 => ?_) (fun c8 => ?_)
            · replace h := if_t c8 h
              refine g_iconst hE d_R_method_71 ki_m1 ?_
              cases h
              exact g_iret hE d_R_method_72 rfl rfl
            · replace h := if_f c8 h
              exact gw.less (lv' := [some (va_rf (some o)), none, some (.int v2), some (.int v3), some (.int (v1 - 24)), some (.int (v3 &&& 255)), none, none, none, none]) (And.intro rfl (And.intro rfl (And.intro rfl (And.intro rfl (And.intro rfl trivial))))) (w_R_method_J59 hE d2 v2 v3 (v1 - 24) (v3 &&& 255) h)
        · replace h := if_f c10 h
          refine g_iconst hE d_R_method_30 ki_m1 ?_
          cases h
          exact g_iret hE d_R_method_31 rfl rfl
