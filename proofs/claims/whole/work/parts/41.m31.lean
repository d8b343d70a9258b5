theorem d_R_sayCode_0 : dc b_R_sayCode 0 (.aload_n 0) 1 1 := ⟨by decide +kernel, rfl⟩
theorem d_R_sayCode_1 : dc b_R_sayCode 1 (.iconst 1) 1 2 := ⟨by decide +kernel, rfl⟩
theorem d_R_sayCode_2 : dc b_R_sayCode 2 (.invokevirtual 210) 3 5 := ⟨by decide +kernel, rfl⟩
theorem d_R_sayCode_5 : dc b_R_sayCode 5 (.aload_n 0) 1 6 := ⟨by decide +kernel, rfl⟩
theorem d_R_sayCode_6 : dc b_R_sayCode 6 (.iconst 2) 1 7 := ⟨by decide +kernel, rfl⟩
theorem d_R_sayCode_7 : dc b_R_sayCode 7 (.invokevirtual 210) 3 10 := ⟨by decide +kernel, rfl⟩
theorem d_R_sayCode_10 : dc b_R_sayCode 10 (.aload_n 0) 1 11 := ⟨by decide +kernel, rfl⟩
theorem d_R_sayCode_11 : dc b_R_sayCode 11 (.iconst 3) 1 12 := ⟨by decide +kernel, rfl⟩
theorem d_R_sayCode_12 : dc b_R_sayCode 12 (.invokevirtual 210) 3 15 := ⟨by decide +kernel, rfl⟩
theorem d_R_sayCode_15 : dc b_R_sayCode 15 (.aload_n 0) 1 16 := ⟨by decide +kernel, rfl⟩
theorem d_R_sayCode_16 : dc b_R_sayCode 16 (.aload_n 0) 1 17 := ⟨by decide +kernel, rfl⟩
theorem d_R_sayCode_17 : dc b_R_sayCode 17 (.iconst 2) 1 18 := ⟨by decide +kernel, rfl⟩
theorem d_R_sayCode_18 : dc b_R_sayCode 18 (.iload_n 1) 1 19 := ⟨by decide +kernel, rfl⟩
theorem d_R_sayCode_19 : dc b_R_sayCode 19 (.invokestatic 213) 3 22 := ⟨by decide +kernel, rfl⟩
theorem d_R_sayCode_22 : dc b_R_sayCode 22 (.iload_n 1) 1 23 := ⟨by decide +kernel, rfl⟩
theorem d_R_sayCode_23 : dc b_R_sayCode 23 (.invokestatic 217) 3 26 := ⟨by decide +kernel, rfl⟩
theorem d_R_sayCode_26 : dc b_R_sayCode 26 (.invokevirtual 220) 3 29 := ⟨by decide +kernel, rfl⟩
theorem d_R_sayCode_29 : dc b_R_sayCode 29 (.invokevirtual 210) 3 32 := ⟨by decide +kernel, rfl⟩
theorem d_R_sayCode_32 : dc b_R_sayCode 32 (.aload_n 0) 1 33 := ⟨by decide +kernel, rfl⟩
theorem d_R_sayCode_33 : dc b_R_sayCode 33 (.iload_n 1) 1 34 := ⟨by decide +kernel, rfl⟩
theorem d_R_sayCode_34 : dc b_R_sayCode 34 (.invokevirtual 223) 3 37 := ⟨by decide +kernel, rfl⟩
theorem d_R_sayCode_37 : dc b_R_sayCode 37 (.istore_n 2) 1 38 := ⟨by decide +kernel, rfl⟩
theorem d_R_sayCode_38 : dc b_R_sayCode 38 (.iconst 1) 1 39 := ⟨by decide +kernel, rfl⟩
theorem d_R_sayCode_39 : dc b_R_sayCode 39 (.istore_n 3) 1 40 := ⟨by decide +kernel, rfl⟩
theorem d_R_sayCode_40 : dc b_R_sayCode 40 (.iload_n 2) 1 41 := ⟨by decide +kernel, rfl⟩
theorem d_R_sayCode_41 : db b_R_sayCode 41 (.ifCond .ne 11) 11 52 44 := ⟨by decide +kernel, by decide, rfl⟩
theorem d_R_sayCode_44 : dc b_R_sayCode 44 (.aload_n 0) 1 45 := ⟨by decide +kernel, rfl⟩
theorem d_R_sayCode_45 : dc b_R_sayCode 45 (.iconst 4) 1 46 := ⟨by decide +kernel, rfl⟩
theorem d_R_sayCode_46 : dc b_R_sayCode 46 (.invokevirtual 210) 3 49 := ⟨by decide +kernel, rfl⟩
theorem d_R_sayCode_49 : db b_R_sayCode 49 (.goto 13) 13 62 52 := ⟨by decide +kernel, by decide, rfl⟩
theorem d_R_sayCode_52 : dc b_R_sayCode 52 (.aload_n 0) 1 53 := ⟨by decide +kernel, rfl⟩
theorem d_R_sayCode_53 : dc b_R_sayCode 53 (.iconst 5) 1 54 := ⟨by decide +kernel, rfl⟩
theorem d_R_sayCode_54 : dc b_R_sayCode 54 (.invokevirtual 210) 3 57 := ⟨by decide +kernel, rfl⟩
theorem d_R_sayCode_57 : dc b_R_sayCode 57 (.aload_n 0) 1 58 := ⟨by decide +kernel, rfl⟩
theorem d_R_sayCode_58 : dc b_R_sayCode 58 (.iload_n 2) 1 59 := ⟨by decide +kernel, rfl⟩
theorem d_R_sayCode_59 : dc b_R_sayCode 59 (.invokevirtual 210) 3 62 := ⟨by decide +kernel, rfl⟩
theorem d_R_sayCode_62 : dc b_R_sayCode 62 (.iconst 0) 1 63 := ⟨by decide +kernel, rfl⟩
theorem d_R_sayCode_63 : dc b_R_sayCode 63 (.istore 4) 2 65 := ⟨by decide +kernel, rfl⟩
theorem d_R_sayCode_65 : dc b_R_sayCode 65 (.iload 4) 2 67 := ⟨by decide +kernel, rfl⟩
theorem d_R_sayCode_67 : dc b_R_sayCode 67 (.iload_n 2) 1 68 := ⟨by decide +kernel, rfl⟩
theorem d_R_sayCode_68 : db b_R_sayCode 68 (.if_icmp .ge 92) 92 160 71 := ⟨by decide +kernel, by decide, rfl⟩
theorem d_R_sayCode_71 : dc b_R_sayCode 71 (.aload_n 0) 1 72 := ⟨by decide +kernel, rfl⟩
theorem d_R_sayCode_72 : dc b_R_sayCode 72 (.getfield 57) 3 75 := ⟨by decide +kernel, rfl⟩
theorem d_R_sayCode_75 : dc b_R_sayCode 75 (.iconst 3) 1 76 := ⟨by decide +kernel, rfl⟩
theorem d_R_sayCode_76 : dc b_R_sayCode 76 (.iload_n 1) 1 77 := ⟨by decide +kernel, rfl⟩
theorem d_R_sayCode_77 : dc b_R_sayCode 77 (.imul) 1 78 := ⟨by decide +kernel, rfl⟩
theorem d_R_sayCode_78 : dc b_R_sayCode 78 (.iload 4) 2 80 := ⟨by decide +kernel, rfl⟩
theorem d_R_sayCode_80 : dc b_R_sayCode 80 (.iadd) 1 81 := ⟨by decide +kernel, rfl⟩
theorem d_R_sayCode_81 : dc b_R_sayCode 81 (.iaload) 1 82 := ⟨by decide +kernel, rfl⟩
theorem d_R_sayCode_82 : dc b_R_sayCode 82 (.istore 5) 2 84 := ⟨by decide +kernel, rfl⟩
theorem d_R_sayCode_84 : dc b_R_sayCode 84 (.aload_n 0) 1 85 := ⟨by decide +kernel, rfl⟩
theorem d_R_sayCode_85 : dc b_R_sayCode 85 (.bipush 6) 2 87 := ⟨by decide +kernel, rfl⟩
theorem d_R_sayCode_87 : dc b_R_sayCode 87 (.invokevirtual 210) 3 90 := ⟨by decide +kernel, rfl⟩
theorem d_R_sayCode_90 : dc b_R_sayCode 90 (.aload_n 0) 1 91 := ⟨by decide +kernel, rfl⟩
theorem d_R_sayCode_91 : dc b_R_sayCode 91 (.bipush 7) 2 93 := ⟨by decide +kernel, rfl⟩
theorem d_R_sayCode_93 : dc b_R_sayCode 93 (.invokevirtual 210) 3 96 := ⟨by decide +kernel, rfl⟩
theorem d_R_sayCode_96 : dc b_R_sayCode 96 (.aload_n 0) 1 97 := ⟨by decide +kernel, rfl⟩
theorem d_R_sayCode_97 : dc b_R_sayCode 97 (.iload 4) 2 99 := ⟨by decide +kernel, rfl⟩
theorem d_R_sayCode_99 : dc b_R_sayCode 99 (.invokevirtual 210) 3 102 := ⟨by decide +kernel, rfl⟩
theorem d_R_sayCode_102 : dc b_R_sayCode 102 (.aload_n 0) 1 103 := ⟨by decide +kernel, rfl⟩
theorem d_R_sayCode_103 : dc b_R_sayCode 103 (.bipush 8) 2 105 := ⟨by decide +kernel, rfl⟩
theorem d_R_sayCode_105 : dc b_R_sayCode 105 (.invokevirtual 210) 3 108 := ⟨by decide +kernel, rfl⟩
theorem d_R_sayCode_108 : dc b_R_sayCode 108 (.aload_n 0) 1 109 := ⟨by decide +kernel, rfl⟩
theorem d_R_sayCode_109 : dc b_R_sayCode 109 (.iload_n 3) 1 110 := ⟨by decide +kernel, rfl⟩
theorem d_R_sayCode_110 : dc b_R_sayCode 110 (.invokevirtual 210) 3 113 := ⟨by decide +kernel, rfl⟩
theorem d_R_sayCode_113 : dc b_R_sayCode 113 (.iload 5) 2 115 := ⟨by decide +kernel, rfl⟩
theorem d_R_sayCode_115 : dc b_R_sayCode 115 (.invokestatic 157) 3 118 := ⟨by decide +kernel, rfl⟩
theorem d_R_sayCode_118 : db b_R_sayCode 118 (.ifCond .eq 15) 15 133 121 := ⟨by decide +kernel, by decide, rfl⟩
theorem d_R_sayCode_121 : dc b_R_sayCode 121 (.aload_n 0) 1 122 := ⟨by decide +kernel, rfl⟩
theorem d_R_sayCode_122 : dc b_R_sayCode 122 (.bipush 9) 2 124 := ⟨by decide +kernel, rfl⟩
theorem d_R_sayCode_124 : dc b_R_sayCode 124 (.invokevirtual 210) 3 127 := ⟨by decide +kernel, rfl⟩
theorem d_R_sayCode_127 : dc b_R_sayCode 127 (.aload_n 0) 1 128 := ⟨by decide +kernel, rfl⟩
theorem d_R_sayCode_128 : dc b_R_sayCode 128 (.iload 5) 2 130 := ⟨by decide +kernel, rfl⟩
theorem d_R_sayCode_130 : dc b_R_sayCode 130 (.invokevirtual 210) 3 133 := ⟨by decide +kernel, rfl⟩
theorem d_R_sayCode_133 : dc b_R_sayCode 133 (.aload_n 0) 1 134 := ⟨by decide +kernel, rfl⟩
theorem d_R_sayCode_134 : dc b_R_sayCode 134 (.bipush 10) 2 136 := ⟨by decide +kernel, rfl⟩
theorem d_R_sayCode_136 : dc b_R_sayCode 136 (.invokevirtual 210) 3 139 := ⟨by decide +kernel, rfl⟩
theorem d_R_sayCode_139 : dc b_R_sayCode 139 (.iload_n 3) 1 140 := ⟨by decide +kernel, rfl⟩
theorem d_R_sayCode_140 : dc b_R_sayCode 140 (.iload 5) 2 142 := ⟨by decide +kernel, rfl⟩
theorem d_R_sayCode_142 : dc b_R_sayCode 142 (.bipush 6) 2 144 := ⟨by decide +kernel, rfl⟩
theorem d_R_sayCode_144 : db b_R_sayCode 144 (.if_icmp .ne 7) 7 151 147 := ⟨by decide +kernel, by decide, rfl⟩
theorem d_R_sayCode_147 : dc b_R_sayCode 147 (.iconst 2) 1 148 := ⟨by decide +kernel, rfl⟩
theorem d_R_sayCode_148 : db b_R_sayCode 148 (.goto 4) 4 152 151 := ⟨by decide +kernel, by decide, rfl⟩
theorem d_R_sayCode_151 : dc b_R_sayCode 151 (.iconst 1) 1 152 := ⟨by decide +kernel, rfl⟩
theorem d_R_sayCode_152 : dc b_R_sayCode 152 (.iadd) 1 153 := ⟨by decide +kernel, rfl⟩
theorem d_R_sayCode_153 : dc b_R_sayCode 153 (.istore_n 3) 1 154 := ⟨by decide +kernel, rfl⟩
theorem d_R_sayCode_154 : dc b_R_sayCode 154 (.iinc 4 1) 3 157 := ⟨by decide +kernel, rfl⟩
theorem d_R_sayCode_157 : db b_R_sayCode 157 (.goto (-92)) (-92) 65 160 := ⟨by decide +kernel, by decide, rfl⟩
theorem d_R_sayCode_160 : dc b_R_sayCode 160 (.aload_n 0) 1 161 := ⟨by decide +kernel, rfl⟩
theorem d_R_sayCode_161 : dc b_R_sayCode 161 (.bipush 11) 2 163 := ⟨by decide +kernel, rfl⟩
theorem d_R_sayCode_163 : dc b_R_sayCode 163 (.invokevirtual 210) 3 166 := ⟨by decide +kernel, rfl⟩
theorem d_R_sayCode_166 : dc b_R_sayCode 166 (.aload_n 0) 1 167 := ⟨by decide +kernel, rfl⟩
theorem d_R_sayCode_167 : dc b_R_sayCode 167 (.getfield 54) 3 170 := ⟨by decide +kernel, rfl⟩
theorem d_R_sayCode_170 : dc b_R_sayCode 170 (.iload_n 1) 1 171 := ⟨by decide +kernel, rfl⟩
theorem d_R_sayCode_171 : dc b_R_sayCode 171 (.iaload) 1 172 := ⟨by decide +kernel, rfl⟩
theorem d_R_sayCode_172 : dc b_R_sayCode 172 (.istore 4) 2 174 := ⟨by decide +kernel, rfl⟩
theorem d_R_sayCode_174 : dc b_R_sayCode 174 (.iload 4) 2 176 := ⟨by decide +kernel, rfl⟩
theorem d_R_sayCode_176 : db b_R_sayCode 176 (.ifCond .ne 16) 16 192 179 := ⟨by decide +kernel, by decide, rfl⟩
theorem d_R_sayCode_179 : dc b_R_sayCode 179 (.aload_n 0) 1 180 := ⟨by decide +kernel, rfl⟩
theorem d_R_sayCode_180 : dc b_R_sayCode 180 (.bipush 12) 2 182 := ⟨by decide +kernel, rfl⟩
theorem d_R_sayCode_182 : dc b_R_sayCode 182 (.invokevirtual 210) 3 185 := ⟨by decide +kernel, rfl⟩
theorem d_R_sayCode_185 : dc b_R_sayCode 185 (.aload_n 0) 1 186 := ⟨by decide +kernel, rfl⟩
theorem d_R_sayCode_186 : dc b_R_sayCode 186 (.bipush 16) 2 188 := ⟨by decide +kernel, rfl⟩
theorem d_R_sayCode_188 : dc b_R_sayCode 188 (.invokevirtual 210) 3 191 := ⟨by decide +kernel, rfl⟩
theorem d_R_sayCode_191 : dc b_R_sayCode 191 (.return_) 1 192 := ⟨by decide +kernel, rfl⟩
theorem d_R_sayCode_192 : dc b_R_sayCode 192 (.aload_n 0) 1 193 := ⟨by decide +kernel, rfl⟩
theorem d_R_sayCode_193 : dc b_R_sayCode 193 (.bipush 13) 2 195 := ⟨by decide +kernel, rfl⟩
theorem d_R_sayCode_195 : dc b_R_sayCode 195 (.invokevirtual 210) 3 198 := ⟨by decide +kernel, rfl⟩
theorem d_R_sayCode_198 : dc b_R_sayCode 198 (.aload_n 0) 1 199 := ⟨by decide +kernel, rfl⟩
theorem d_R_sayCode_199 : dc b_R_sayCode 199 (.aload_n 0) 1 200 := ⟨by decide +kernel, rfl⟩
theorem d_R_sayCode_200 : dc b_R_sayCode 200 (.iconst 1) 1 201 := ⟨by decide +kernel, rfl⟩
theorem d_R_sayCode_201 : dc b_R_sayCode 201 (.iload 4) 2 203 := ⟨by decide +kernel, rfl⟩
theorem d_R_sayCode_203 : dc b_R_sayCode 203 (.invokestatic 157) 3 206 := ⟨by decide +kernel, rfl⟩
theorem d_R_sayCode_206 : db b_R_sayCode 206 (.ifCond .eq 11) 11 217 209 := ⟨by decide +kernel, by decide, rfl⟩
theorem d_R_sayCode_209 : dc b_R_sayCode 209 (.bipush 40) 2 211 := ⟨by decide +kernel, rfl⟩
theorem d_R_sayCode_211 : dc b_R_sayCode 211 (.iload 4) 2 213 := ⟨by decide +kernel, rfl⟩
theorem d_R_sayCode_213 : dc b_R_sayCode 213 (.iadd) 1 214 := ⟨by decide +kernel, rfl⟩
theorem d_R_sayCode_214 : db b_R_sayCode 214 (.goto 5) 5 219 217 := ⟨by decide +kernel, by decide, rfl⟩
theorem d_R_sayCode_217 : dc b_R_sayCode 217 (.iload 4) 2 219 := ⟨by decide +kernel, rfl⟩
theorem d_R_sayCode_219 : dc b_R_sayCode 219 (.iconst 0) 1 220 := ⟨by decide +kernel, rfl⟩
theorem d_R_sayCode_220 : dc b_R_sayCode 220 (.invokevirtual 220) 3 223 := ⟨by decide +kernel, rfl⟩
theorem d_R_sayCode_223 : dc b_R_sayCode 223 (.invokevirtual 210) 3 226 := ⟨by decide +kernel, rfl⟩
theorem d_R_sayCode_226 : dc b_R_sayCode 226 (.iload 4) 2 228 := ⟨by decide +kernel, rfl⟩
theorem d_R_sayCode_228 : dc b_R_sayCode 228 (.invokestatic 157) 3 231 := ⟨by decide +kernel, rfl⟩
theorem d_R_sayCode_231 : db b_R_sayCode 231 (.ifCond .eq 15) 15 246 234 := ⟨by decide +kernel, by decide, rfl⟩
theorem d_R_sayCode_234 : dc b_R_sayCode 234 (.aload_n 0) 1 235 := ⟨by decide +kernel, rfl⟩
theorem d_R_sayCode_235 : dc b_R_sayCode 235 (.bipush 14) 2 237 := ⟨by decide +kernel, rfl⟩
theorem d_R_sayCode_237 : dc b_R_sayCode 237 (.invokevirtual 210) 3 240 := ⟨by decide +kernel, rfl⟩
theorem d_R_sayCode_240 : dc b_R_sayCode 240 (.aload_n 0) 1 241 := ⟨by decide +kernel, rfl⟩
theorem d_R_sayCode_241 : dc b_R_sayCode 241 (.iload 4) 2 243 := ⟨by decide +kernel, rfl⟩
theorem d_R_sayCode_243 : dc b_R_sayCode 243 (.invokevirtual 210) 3 246 := ⟨by decide +kernel, rfl⟩
theorem d_R_sayCode_246 : dc b_R_sayCode 246 (.aload_n 0) 1 247 := ⟨by decide +kernel, rfl⟩
theorem d_R_sayCode_247 : dc b_R_sayCode 247 (.bipush 15) 2 249 := ⟨by decide +kernel, rfl⟩
theorem d_R_sayCode_249 : dc b_R_sayCode 249 (.invokevirtual 210) 3 252 := ⟨by decide +kernel, rfl⟩
theorem d_R_sayCode_252 : dc b_R_sayCode 252 (.return_) 1 253 := ⟨by decide +kernel, rfl⟩
def f_R_sayCode_J152 (S : gS) (o : Nat) (kx160 : gD → Int32 → Option (Unit × gD)) (kb : gD → Int32 → Int32 → Int32 → Int32 → Option (Unit × gD)) (d : gD) (v1 : Int32) (v2 : Int32) (v4 : Int32) (u0 : Int32) (u1 : Int32) : Option (Unit × gD) :=
  kb d v1 v2 (u0 + u1) (v4 + 1)
set_option maxRecDepth 100000 in
set_option maxHeartbeats 4000000 in
theorem w_R_sayCode_J152 {X : GX} (hE : gE X b_R_sayCode 6 "StandInMillModel" none "sayCode" 1 24) {S : gS} {o : Nat} {r : Unit} {d' : gD} {kb : gD → Int32 → Int32 → Int32 → Int32 → Option (Unit × gD)} {kx160 : gD → Int32 → Option (Unit × gD)} (hkb : ∀ (d : gD) (v1 : Int32) (v2 : Int32) (v3 : Int32) (v4 : Int32), kb d v1 v2 v3 v4 = some (r, d') → gw X 0 0 (gQ X (none) S d' 0 0) S d 65 [some (va_rf (some o)), some (.int v1), some (.int v2), some (.int v3), some (.int v4), none] []) (hkx160 : ∀ (d : gD) (v1 : Int32), kx160 d v1 = some (r, d') → gw X 0 0 (gQ X (none) S d' 0 0) S d 160 [some (va_rf (some o)), some (.int v1), none, none, none, none] []) :
    ∀ (d : gD) (v1 : Int32) (v2 : Int32) (v4 : Int32) (u0 : Int32) (u1 : Int32), f_R_sayCode_J152 S o kx160 kb d v1 v2 v4 u0 u1 = some (r, d') → gw X 0 0 (gQ X (none) S d' 0 0) S d 152 [some (va_rf (some o)), some (.int v1), some (.int v2), none, some (.int v4), none] [.int u1, .int u0] := by
  intro d v1 v2 v4 u0 u1 h
  unfold f_R_sayCode_J152 at h
  refine g_iadd hE d_R_sayCode_152 ?_
  refine g_istore_n (i := 3) (lv' := [some (va_rf (some o)), some (.int v1), some (.int v2), some (.int (u0 + u1)), some (.int v4), none]) hE d_R_sayCode_153 rfl (Nat.le_of_ble_eq_true rfl) ⟨rfl, Nat.le_of_ble_eq_true rfl⟩ (lvp_i rfl) ?_
  refine g_iinc (i := 4) (lv' := [some (va_rf (some o)), some (.int v1), some (.int v2), some (.int (u0 + u1)), some (.int (v4 + 1)), none]) hE d_R_sayCode_154 ki_1 rfl (Nat.le_of_ble_eq_true rfl) ⟨rfl, Nat.le_of_ble_eq_true rfl⟩ (lvp_i rfl) ?_
  refine g_goto hE d_R_sayCode_157 ?_
  exact gw.less (lv' := [some (va_rf (some o)), some (.int v1), some (.int v2), some (.int (u0 + u1)), some (.int (v4 + 1)), none]) (And.intro rfl (And.intro rfl (And.intro rfl (And.intro rfl (And.intro rfl trivial))))) (hkb d v1 v2 (u0 + u1) (v4 + 1) h)
def f_R_sayCode_J133 (S : gS) (o : Nat) (kx160 : gD → Int32 → Option (Unit × gD)) (kb : gD → Int32 → Int32 → Int32 → Int32 → Option (Unit × gD)) (d : gD) (v1 : Int32) (v2 : Int32) (v3 : Int32) (v4 : Int32) (v5 : Int32) : Option (Unit × gD) :=
  kd S o 10 <|
  bdD (f_R_say S d o 10) fun _ d4 =>
  if v5 = 6 then (
    f_R_sayCode_J152 S o kx160 kb d4 v1 v2 v4 v3 2)
  else (
    f_R_sayCode_J152 S o kx160 kb d4 v1 v2 v4 v3 1)
set_option maxRecDepth 100000 in
set_option maxHeartbeats 4000000 in
theorem w_R_sayCode_J133 {X : GX} (hE : gE X b_R_sayCode 6 "StandInMillModel" none "sayCode" 1 24) {S : gS} {o : Nat} {r : Unit} {d' : gD} {kb : gD → Int32 → Int32 → Int32 → Int32 → Option (Unit × gD)} {kx160 : gD → Int32 → Option (Unit × gD)} (hkb : ∀ (d : gD) (v1 : Int32) (v2 : Int32) (v3 : Int32) (v4 : Int32), kb d v1 v2 v3 v4 = some (r, d') → gw X 0 0 (gQ X (none) S d' 0 0) S d 65 [some (va_rf (some o)), some (.int v1), some (.int v2), some (.int v3), some (.int v4), none] []) (hkx160 : ∀ (d : gD) (v1 : Int32), kx160 d v1 = some (r, d') → gw X 0 0 (gQ X (none) S d' 0 0) S d 160 [some (va_rf (some o)), some (.int v1), none, none, none, none] []) :
    ∀ (d : gD) (v1 : Int32) (v2 : Int32) (v3 : Int32) (v4 : Int32) (v5 : Int32), f_R_sayCode_J133 S o kx160 kb d v1 v2 v3 v4 v5 = some (r, d') → gw X 0 0 (gQ X (none) S d' 0 0) S d 133 [some (va_rf (some o)), some (.int v1), some (.int v2), some (.int v3), some (.int v4), some (.int v5)] [] := by
  intro d v1 v2 v3 v4 v5 h
  unfold f_R_sayCode_J133 at h
  refine g_aload_n (i := 0) hE d_R_sayCode_133 rfl rfl ?_
  refine g_bipush hE d_R_sayCode_134 kb_10 ?_
  obtain ⟨k1, h⟩ := kd_s h
  obtain ⟨x2, d4, e3, h⟩ := bdD_s h
  refine g_callV (av := [.inr (.inr (some o)), .inl 10]) (as := [.inl 10]) (stk := []) [] hE (c_R_say (xl X) (xG X) e3) ky_R_say ⟨Nat.le_of_ble_eq_true rfl, Nat.le_of_ble_eq_true rfl⟩ rfl kc_R k1 m_471 m_472 m_473 rfl d_R_sayCode_136 rfl rfl ct_0 (Nat.zero_le _) (Nat.zero_le _) ?_
  refine gw.cs (c2 := 0) (s2 := 0) rfl rfl ?_
  refine g_iload_n (i := 3) hE d_R_sayCode_139 rfl rfl ?_
  refine g_iload (i := 5) hE d_R_sayCode_140 rfl ?_
  refine g_bipush hE d_R_sayCode_142 kb_6 ?_
  refine g_icmp_ne hE d_R_sayCode_144 (fun c5 => ?_) (fun c5 => ?_)
  · replace h := if_f c5 h
    refine g_iconst hE d_R_sayCode_151 ki_1 ?_
    exact gw.less (lv' := [some (va_rf (some o)), some (.int v1), some (.int v2), none, some (.int v4), none]) (And.intro rfl (And.intro rfl (And.intro rfl (And.intro rfl trivial)))) (w_R_sayCode_J152 hE hkb hkx160 d4 v1 v2 v4 v3 1 h)
  · replace h := if_t c5 h
    refine g_iconst hE d_R_sayCode_147 ki_2 ?_
    refine g_goto hE d_R_sayCode_148 ?_
    exact gw.less (lv' := [some (va_rf (some o)), some (.int v1), some (.int v2), none, some (.int v4), none]) (And.intro rfl (And.intro rfl (And.intro rfl (And.intro rfl trivial)))) (w_R_sayCode_J152 hE hkb hkx160 d4 v1 v2 v4 v3 2 h)
def f_R_sayCode_B65 (S : gS) (o : Nat) (kx160 : gD → Int32 → Option (Unit × gD)) (kb : gD → Int32 → Int32 → Int32 → Int32 → Option (Unit × gD)) (d : gD) (v1 : Int32) (v2 : Int32) (v3 : Int32) (v4 : Int32) : Option (Unit × gD) :=
  if v2 ≤ v4 then (
    kx160 d v1)
  else (
    kd S o 10 <|
    lt_ (sP S o 15) fun x2 =>
    nn x2 fun a3 =>
    kd S a3 50 <|
    gi ((3 * v1) + v4) (sN S a3) <|
    lt_ (dI d a3 ((3 * v1) + v4 : Int32).toNatClampNeg) fun x6 =>
    bdD (f_R_say S d o 6) fun _ d9 =>
    bdD (f_R_say S d9 o 7) fun _ d12 =>
    bdD (f_R_say S d12 o v4) fun _ d15 =>
    bdD (f_R_say S d15 o 8) fun _ d18 =>
    bdD (f_R_say S d18 o v3) fun _ d21 =>
    bd (f_R_isPlain S d21 x6) fun x22 =>
    if x22 = 0 then (
      f_R_sayCode_J133 S o kx160 kb d21 v1 v2 v3 v4 x6)
    else (
      bdD (f_R_say S d21 o 9) fun _ d26 =>
      bdD (f_R_say S d26 o x6) fun _ d29 =>
      f_R_sayCode_J133 S o kx160 kb d29 v1 v2 v3 v4 x6))
set_option maxRecDepth 100000 in
set_option maxHeartbeats 4000000 in
theorem w_R_sayCode_B65 {X : GX} (hE : gE X b_R_sayCode 6 "StandInMillModel" none "sayCode" 1 24) {S : gS} {o : Nat} {r : Unit} {d' : gD} {kb : gD → Int32 → Int32 → Int32 → Int32 → Option (Unit × gD)} {kx160 : gD → Int32 → Option (Unit × gD)} (hkb : ∀ (d : gD) (v1 : Int32) (v2 : Int32) (v3 : Int32) (v4 : Int32), kb d v1 v2 v3 v4 = some (r, d') → gw X 0 0 (gQ X (none) S d' 0 0) S d 65 [some (va_rf (some o)), some (.int v1), some (.int v2), some (.int v3), some (.int v4), none] []) (hkx160 : ∀ (d : gD) (v1 : Int32), kx160 d v1 = some (r, d') → gw X 0 0 (gQ X (none) S d' 0 0) S d 160 [some (va_rf (some o)), some (.int v1), none, none, none, none] []) :
    ∀ (d : gD) (v1 : Int32) (v2 : Int32) (v3 : Int32) (v4 : Int32), f_R_sayCode_B65 S o kx160 kb d v1 v2 v3 v4 = some (r, d') → gw X 0 0 (gQ X (none) S d' 0 0) S d 65 [some (va_rf (some o)), some (.int v1), some (.int v2), some (.int v3), some (.int v4), none] [] := by
  intro d v1 v2 v3 v4 h
  unfold f_R_sayCode_B65 at h
  refine g_iload (i := 4) hE d_R_sayCode_65 rfl ?_
  refine g_iload_n (i := 2) hE d_R_sayCode_67 rfl rfl ?_
  refine g_icmp_ge hE d_R_sayCode_68 (fun c31 => ?_) (fun c31 => ?_)
  · replace h := if_t c31 h
    exact gw.less (lv' := [some (va_rf (some o)), some (.int v1), none, none, none, none]) (And.intro rfl (And.intro rfl trivial)) (hkx160 d v1 h)
  · replace h := if_f c31 h
    refine g_aload_n (i := 0) hE d_R_sayCode_71 rfl rfl ?_
    obtain ⟨k1, h⟩ := kd_s h
    refine g_getR 15 hE kc_R k1 (Nat.le_of_ble_eq_true rfl) rfl m_392 d_R_sayCode_72 (fun x2 e => ?_)
    replace h := lt_i e h; clear e
    refine g_iconst hE d_R_sayCode_75 ki_3 ?_
    refine g_iload_n (i := 1) hE d_R_sayCode_76 rfl rfl ?_
    refine g_imul hE d_R_sayCode_77 ?_
    refine g_iload (i := 4) hE d_R_sayCode_78 rfl ?_
    refine g_iadd hE d_R_sayCode_80 ?_
    obtain ⟨a3, rfl, h⟩ := nn_s h
    obtain ⟨k4, h⟩ := kd_s h
    obtain ⟨g5, h⟩ := gi_s h
    refine g_iald hE k4 g5 d_R_sayCode_81 (fun x6 e => ?_)
    replace h := lt_i e h; clear e
    refine g_istore (i := 5) (lv' := [some (va_rf (some o)), some (.int v1), some (.int v2), some (.int v3), some (.int v4), some (.int x6)]) hE d_R_sayCode_82 (Nat.le_of_ble_eq_true rfl) ⟨rfl, Nat.le_of_ble_eq_true rfl⟩ (lvp_i rfl) ?_
    refine g_aload_n (i := 0) hE d_R_sayCode_84 rfl rfl ?_
    refine g_bipush hE d_R_sayCode_85 kb_6 ?_
    obtain ⟨x7, d9, e8, h⟩ := bdD_s h
    refine g_callV (av := [.inr (.inr (some o)), .inl 6]) (as := [.inl 6]) (stk := []) [] hE (c_R_say (xl X) (xG X) e8) ky_R_say ⟨Nat.le_of_ble_eq_true rfl, Nat.le_of_ble_eq_true rfl⟩ rfl kc_R k1 m_471 m_472 m_473 rfl d_R_sayCode_87 rfl rfl ct_0 (Nat.zero_le _) (Nat.zero_le _) ?_
    refine gw.cs (c2 := 0) (s2 := 0) rfl rfl ?_
    refine g_aload_n (i := 0) hE d_R_sayCode_90 rfl rfl ?_
    refine g_bipush hE d_R_sayCode_91 kb_7 ?_
    obtain ⟨x10, d12, e11, h⟩ := bdD_s h
    refine g_callV (av := [.inr (.inr (some o)), .inl 7]) (as := [.inl 7]) (stk := []) [] hE (c_R_say (xl X) (xG X) e11) ky_R_say ⟨Nat.le_of_ble_eq_true rfl, Nat.le_of_ble_eq_true rfl⟩ rfl kc_R k1 m_471 m_472 m_473 rfl d_R_sayCode_93 rfl rfl ct_0 (Nat.zero_le _) (Nat.zero_le _) ?_
    refine gw.cs (c2 := 0) (s2 := 0) rfl rfl ?_
    refine g_aload_n (i := 0) hE d_R_sayCode_96 rfl rfl ?_
    refine g_iload (i := 4) hE d_R_sayCode_97 rfl ?_
    obtain ⟨x13, d15, e14, h⟩ := bdD_s h
    refine g_callV (av := [.inr (.inr (some o)), .inl v4]) (as := [.inl v4]) (stk := []) [] hE (c_R_say (xl X) (xG X) e14) ky_R_say ⟨Nat.le_of_ble_eq_true rfl, Nat.le_of_ble_eq_true rfl⟩ rfl kc_R k1 m_471 m_472 m_473 rfl d_R_sayCode_99 rfl rfl ct_0 (Nat.zero_le _) (Nat.zero_le _) ?_
    refine gw.cs (c2 := 0) (s2 := 0) rfl rfl ?_
    refine g_aload_n (i := 0) hE d_R_sayCode_102 rfl rfl ?_
    refine g_bipush hE d_R_sayCode_103 kb_8 ?_
    obtain ⟨x16, d18, e17, h⟩ := bdD_s h
    refine g_callV (av := [.inr (.inr (some o)), .inl 8]) (as := [.inl 8]) (stk := []) [] hE (c_R_say (xl X) (xG X) e17) ky_R_say ⟨Nat.le_of_ble_eq_true rfl, Nat.le_of_ble_eq_true rfl⟩ rfl kc_R k1 m_471 m_472 m_473 rfl d_R_sayCode_105 rfl rfl ct_0 (Nat.zero_le _) (Nat.zero_le _) ?_
    refine gw.cs (c2 := 0) (s2 := 0) rfl rfl ?_
    refine g_aload_n (i := 0) hE d_R_sayCode_108 rfl rfl ?_
    refine g_iload_n (i := 3) hE d_R_sayCode_109 rfl rfl ?_
    obtain ⟨x19, d21, e20, h⟩ := bdD_s h
    refine g_callV (av := [.inr (.inr (some o)), .inl v3]) (as := [.inl v3]) (stk := []) [] hE (c_R_say (xl X) (xG X) e20) ky_R_say ⟨Nat.le_of_ble_eq_true rfl, Nat.le_of_ble_eq_true rfl⟩ rfl kc_R k1 m_471 m_472 m_473 rfl d_R_sayCode_110 rfl rfl ct_0 (Nat.zero_le _) (Nat.zero_le _) ?_
    refine gw.cs (c2 := 0) (s2 := 0) rfl rfl ?_
    refine g_iload (i := 5) hE d_R_sayCode_113 rfl ?_
    obtain ⟨x22, e23, h⟩ := bd_s h
    refine g_callS (av := [.inl x6]) (stk := [.int x22]) [] hE (c_R_isPlain (xl X) (xG X) e23) ky_R_isPlain ⟨Nat.le_of_ble_eq_true rfl, Nat.le_of_ble_eq_true rfl⟩ m_425 m_426 rfl d_R_sayCode_115 rfl rfl ct_0 (Nat.zero_le _) (Nat.zero_le _) ?_
    refine gw.cs (c2 := 0) (s2 := 0) rfl rfl ?_
    refine g_if_eq hE d_R_sayCode_118 (fun c30 => ?_) (fun c30 => ?_)
    · replace h := if_t c30 h
      exact gw.less (lv' := [some (va_rf (some o)), some (.int v1), some (.int v2), some (.int v3), some (.int v4), some (.int x6)]) (And.intro rfl (And.intro rfl (And.intro rfl (And.intro rfl (And.intro rfl (And.intro rfl trivial)))))) (w_R_sayCode_J133 hE hkb hkx160 d21 v1 v2 v3 v4 x6 h)
    · replace h := if_f c30 h
      refine g_aload_n (i := 0) hE d_R_sayCode_121 rfl rfl ?_
      refine g_bipush hE d_R_sayCode_122 kb_9 ?_
      obtain ⟨x24, d26, e25, h⟩ := bdD_s h
      refine g_callV (av := [.inr (.inr (some o)), .inl 9]) (as := [.inl 9]) (stk := []) [] hE (c_R_say (xl X) (xG X) e25) ky_R_say ⟨Nat.le_of_ble_eq_true rfl, Nat.le_of_ble_eq_true rfl⟩ rfl kc_R k1 m_471 m_472 m_473 rfl d_R_sayCode_124 rfl rfl ct_0 (Nat.zero_le _) (Nat.zero_le _) ?_
      refine gw.cs (c2 := 0) (s2 := 0) rfl rfl ?_
      refine g_aload_n (i := 0) hE d_R_sayCode_127 rfl rfl ?_
      refine g_iload (i := 5) hE d_R_sayCode_128 rfl ?_
      obtain ⟨x27, d29, e28, h⟩ := bdD_s h
      refine g_callV (av := [.inr (.inr (some o)), .inl x6]) (as := [.inl x6]) (stk := []) [] hE (c_R_say (xl X) (xG X) e28) ky_R_say ⟨Nat.le_of_ble_eq_true rfl, Nat.le_of_ble_eq_true rfl⟩ rfl kc_R k1 m_471 m_472 m_473 rfl d_R_sayCode_130 rfl rfl ct_0 (Nat.zero_le _) (Nat.zero_le _) ?_
      refine gw.cs (c2 := 0) (s2 := 0) rfl rfl ?_
      exact gw.less (lv' := [some (va_rf (some o)), some (.int v1), some (.int v2), some (.int v3), some (.int v4), some (.int x6)]) (And.intro rfl (And.intro rfl (And.intro rfl (And.intro rfl (And.intro rfl (And.intro rfl trivial)))))) (w_R_sayCode_J133 hE hkb hkx160 d29 v1 v2 v3 v4 x6 h)
theorem w_R_sayCode_L65 {X : GX} (hE : gE X b_R_sayCode 6 "StandInMillModel" none "sayCode" 1 24) {S : gS} {o : Nat} {r : Unit} {d' : gD} {kx160 : gD → Int32 → Option (Unit × gD)} (hkx160 : ∀ (d : gD) (v1 : Int32), kx160 d v1 = some (r, d') → gw X 0 0 (gQ X (none) S d' 0 0) S d 160 [some (va_rf (some o)), some (.int v1), none, none, none, none] []) : ∀ (n : Nat) (d : gD) (v1 : Int32) (v2 : Int32) (v3 : Int32) (v4 : Int32), itr (f_R_sayCode_B65 S o kx160) (fun _ _ _ _ _ => none) n d v1 v2 v3 v4 = some (r, d') → gw X 0 0 (gQ X (none) S d' 0 0) S d 65 [some (va_rf (some o)), some (.int v1), some (.int v2), some (.int v3), some (.int v4), none] [] := by
  intro n
  induction n with
  | zero => intro d v1 v2 v3 v4 h; cases h
  | succ n ih => exact w_R_sayCode_B65 hE ih hkx160
def f_R_sayCode_J246 (S : gS) (o : Nat) (d : gD) : Option (Unit × gD) :=
  kd S o 10 <|
  bdD (f_R_say S d o 15) fun _ d4 =>
  some ((), d4)
set_option maxRecDepth 100000 in
set_option maxHeartbeats 4000000 in
theorem w_R_sayCode_J246 {X : GX} (hE : gE X b_R_sayCode 6 "StandInMillModel" none "sayCode" 1 24) {S : gS} {o : Nat} {r : Unit} {d' : gD} :
    ∀ (d : gD), f_R_sayCode_J246 S o d = some (r, d') → gw X 0 0 (gQ X (none) S d' 0 0) S d 246 [some (va_rf (some o)), none, none, none, none, none] [] := by
  intro d h
  unfold f_R_sayCode_J246 at h
  refine g_aload_n (i := 0) hE d_R_sayCode_246 rfl rfl ?_
  refine g_bipush hE d_R_sayCode_247 kb_15 ?_
  obtain ⟨k1, h⟩ := kd_s h
  obtain ⟨x2, d4, e3, h⟩ := bdD_s h
  refine g_callV (av := [.inr (.inr (some o)), .inl 15]) (as := [.inl 15]) (stk := []) [] hE (c_R_say (xl X) (xG X) e3) ky_R_say ⟨Nat.le_of_ble_eq_true rfl, Nat.le_of_ble_eq_true rfl⟩ rfl kc_R k1 m_471 m_472 m_473 rfl d_R_sayCode_249 rfl rfl ct_0 (Nat.zero_le _) (Nat.zero_le _) ?_
  refine gw.cs (c2 := 0) (s2 := 0) rfl rfl ?_
  cases h
  exact g_vret hE d_R_sayCode_252 rfl rfl
def f_R_sayCode_J219 (S : gS) (o : Nat) (d : gD) (v4 : Int32) (u0 : Option Nat) (u1 : Option Nat) (u2 : Int32) (u3 : Int32) : Option (Unit × gD) :=
  nn u1 fun a1 =>
  kd S a1 10 <|
  bdD (f_R_entry S d a1 u2 u3 0) fun x3 d5 =>
  nn u0 fun a6 =>
  kd S a6 10 <|
  bdD (f_R_say S d5 a6 x3) fun _ d10 =>
  bd (f_R_isPlain S d10 v4) fun x11 =>
  if x11 = 0 then (
    f_R_sayCode_J246 S o d10)
  else (
    kd S o 10 <|
    bdD (f_R_say S d10 o 14) fun _ d16 =>
    bdD (f_R_say S d16 o v4) fun _ d19 =>
    f_R_sayCode_J246 S o d19)
set_option maxRecDepth 100000 in
set_option maxHeartbeats 4000000 in
theorem w_R_sayCode_J219 {X : GX} (hE : gE X b_R_sayCode 6 "StandInMillModel" none "sayCode" 1 24) {S : gS} {o : Nat} {r : Unit} {d' : gD} :
    ∀ (d : gD) (v4 : Int32) (u0 : Option Nat) (u1 : Option Nat) (u2 : Int32) (u3 : Int32), f_R_sayCode_J219 S o d v4 u0 u1 u2 u3 = some (r, d') → gw X 0 0 (gQ X (none) S d' 0 0) S d 219 [some (va_rf (some o)), none, none, none, some (.int v4), none] [.int u3, .int u2, va_rf u1, va_rf u0] := by
  intro d v4 u0 u1 u2 u3 h
  unfold f_R_sayCode_J219 at h
  refine g_iconst hE d_R_sayCode_219 ki_0 ?_
  obtain ⟨a1, rfl, h⟩ := nn_s h
  obtain ⟨k2, h⟩ := kd_s h
  obtain ⟨x3, d5, e4, h⟩ := bdD_s h
  refine g_callV (av := [.inr (.inr (some a1)), .inl u2, .inl u3, .inl 0]) (as := [.inl u2, .inl u3, .inl 0]) (stk := [.int x3, va_rf u0]) [va_rf u0] hE (c_R_entry (xl X) (xG X) e4) ky_R_entry ⟨Nat.le_of_ble_eq_true rfl, Nat.le_of_ble_eq_true rfl⟩ rfl kc_R k2 m_478 m_479 m_480 rfl d_R_sayCode_220 rfl rfl (Nat.le_trans (ct_r ct_n) (Nat.le_of_ble_eq_true rfl)) (Nat.zero_le _) (Nat.zero_le _) ?_
  refine gw.cs (c2 := 0) (s2 := 0) rfl rfl ?_
  obtain ⟨a6, rfl, h⟩ := nn_s h
  obtain ⟨k7, h⟩ := kd_s h
  obtain ⟨x8, d10, e9, h⟩ := bdD_s h
  refine g_callV (av := [.inr (.inr (some a6)), .inl x3]) (as := [.inl x3]) (stk := []) [] hE (c_R_say (xl X) (xG X) e9) ky_R_say ⟨Nat.le_of_ble_eq_true rfl, Nat.le_of_ble_eq_true rfl⟩ rfl kc_R k7 m_471 m_472 m_473 rfl d_R_sayCode_223 rfl rfl ct_0 (Nat.zero_le _) (Nat.zero_le _) ?_
  refine gw.cs (c2 := 0) (s2 := 0) rfl rfl ?_
  refine g_iload (i := 4) hE d_R_sayCode_226 rfl ?_
  obtain ⟨x11, e12, h⟩ := bd_s h
  refine g_callS (av := [.inl v4]) (stk := [.int x11]) [] hE (c_R_isPlain (xl X) (xG X) e12) ky_R_isPlain ⟨Nat.le_of_ble_eq_true rfl, Nat.le_of_ble_eq_true rfl⟩ m_425 m_426 rfl d_R_sayCode_228 rfl rfl ct_0 (Nat.zero_le _) (Nat.zero_le _) ?_
  refine gw.cs (c2 := 0) (s2 := 0) rfl rfl ?_
  refine g_if_eq hE d_R_sayCode_231 (fun c20 => ?_) (fun c20 => ?_)
  · replace h := if_t c20 h
    exact gw.less (lv' := [some (va_rf (some o)), none, none, none, none, none]) (And.intro rfl trivial) (w_R_sayCode_J246 hE d10 h)
  · replace h := if_f c20 h
    refine g_aload_n (i := 0) hE d_R_sayCode_234 rfl rfl ?_
    refine g_bipush hE d_R_sayCode_235 kb_14 ?_
    obtain ⟨k13, h⟩ := kd_s h
    obtain ⟨x14, d16, e15, h⟩ := bdD_s h
    refine g_callV (av := [.inr (.inr (some o)), .inl 14]) (as := [.inl 14]) (stk := []) [] hE (c_R_say (xl X) (xG X) e15) ky_R_say ⟨Nat.le_of_ble_eq_true rfl, Nat.le_of_ble_eq_true rfl⟩ rfl kc_R k13 m_471 m_472 m_473 rfl d_R_sayCode_237 rfl rfl ct_0 (Nat.zero_le _) (Nat.zero_le _) ?_
    refine gw.cs (c2 := 0) (s2 := 0) rfl rfl ?_
    refine g_aload_n (i := 0) hE d_R_sayCode_240 rfl rfl ?_
    refine g_iload (i := 4) hE d_R_sayCode_241 rfl ?_
    obtain ⟨x17, d19, e18, h⟩ := bdD_s h
    refine g_callV (av := [.inr (.inr (some o)), .inl v4]) (as := [.inl v4]) (stk := []) [] hE (c_R_say (xl X) (xG X) e18) ky_R_say ⟨Nat.le_of_ble_eq_true rfl, Nat.le_of_ble_eq_true rfl⟩ rfl kc_R k13 m_471 m_472 m_473 rfl d_R_sayCode_243 rfl rfl ct_0 (Nat.zero_le _) (Nat.zero_le _) ?_
    refine gw.cs (c2 := 0) (s2 := 0) rfl rfl ?_
    exact gw.less (lv' := [some (va_rf (some o)), none, none, none, none, none]) (And.intro rfl trivial) (w_R_sayCode_J246 hE d19 h)
def f_R_sayCode_J160 (S : gS) (o : Nat) (d : gD) (v1 : Int32) : Option (Unit × gD) :=
  kd S o 10 <|
  bdD (f_R_say S d o 11) fun _ d4 =>
  lt_ (sP S o 14) fun x5 =>
  nn x5 fun a6 =>
  kd S a6 50 <|
  gi v1 (sN S a6) <|
  lt_ (dI d4 a6 v1.toNatClampNeg) fun x9 =>
  if x9 = 0 then (
    bdD (f_R_say S d4 o 12) fun _ d18 =>
    bdD (f_R_say S d18 o 16) fun _ d21 =>
    some ((), d21))
  else (
    bdD (f_R_say S d4 o 13) fun _ d12 =>
    bd (f_R_isPlain S d12 x9) fun x13 =>
    if x13 = 0 then (
      f_R_sayCode_J219 S o d12 x9 (some o) (some o) 1 x9)
    else (
      f_R_sayCode_J219 S o d12 x9 (some o) (some o) 1 (40 + x9)))
set_option maxRecDepth 100000 in
set_option maxHeartbeats 4000000 in
theorem w_R_sayCode_J160 {X : GX} (hE : gE X b_R_sayCode 6 "StandInMillModel" none "sayCode" 1 24) {S : gS} {o : Nat} {r : Unit} {d' : gD} :
    ∀ (d : gD) (v1 : Int32), f_R_sayCode_J160 S o d v1 = some (r, d') → gw X 0 0 (gQ X (none) S d' 0 0) S d 160 [some (va_rf (some o)), some (.int v1), none, none, none, none] [] := by
  intro d v1 h
  unfold f_R_sayCode_J160 at h
  refine g_aload_n (i := 0) hE d_R_sayCode_160 rfl rfl ?_
  refine g_bipush hE d_R_sayCode_161 kb_11 ?_
  obtain ⟨k1, h⟩ := kd_s h
  obtain ⟨x2, d4, e3, h⟩ := bdD_s h
  refine g_callV (av := [.inr (.inr (some o)), .inl 11]) (as := [.inl 11]) (stk := []) [] hE (c_R_say (xl X) (xG X) e3) ky_R_say ⟨Nat.le_of_ble_eq_true rfl, Nat.le_of_ble_eq_true rfl⟩ rfl kc_R k1 m_471 m_472 m_473 rfl d_R_sayCode_163 rfl rfl ct_0 (Nat.zero_le _) (Nat.zero_le _) ?_
  refine gw.cs (c2 := 0) (s2 := 0) rfl rfl ?_
  refine g_aload_n (i := 0) hE d_R_sayCode_166 rfl rfl ?_
  refine g_getR 14 hE kc_R k1 (Nat.le_of_ble_eq_true rfl) rfl m_391 d_R_sayCode_167 (fun x5 e => ?_)
  replace h := lt_i e h; clear e
  refine g_iload_n (i := 1) hE d_R_sayCode_170 rfl rfl ?_
  obtain ⟨a6, rfl, h⟩ := nn_s h
  obtain ⟨k7, h⟩ := kd_s h
  obtain ⟨g8, h⟩ := gi_s h
  refine g_iald hE k7 g8 d_R_sayCode_171 (fun x9 e => ?_)
  replace h := lt_i e h; clear e
  refine g_istore (i := 4) (lv' := [some (va_rf (some o)), some (.int v1), none, none, some (.int x9), none]) hE d_R_sayCode_172 (Nat.le_of_ble_eq_true rfl) ⟨rfl, Nat.le_of_ble_eq_true rfl⟩ (lvp_n rfl) ?_
  refine g_iload (i := 4) hE d_R_sayCode_174 rfl ?_
  refine g_if_ne hE d_R_sayCode_176 (fun c22 => ?_) (fun c22 => ?_)
  · replace h := if_f c22 h
    refine g_aload_n (i := 0) hE d_R_sayCode_192 rfl rfl ?_
    refine g_bipush hE d_R_sayCode_193 kb_13 ?_
    obtain ⟨x10, d12, e11, h⟩ := bdD_s h
    refine g_callV (av := [.inr (.inr (some o)), .inl 13]) (as := [.inl 13]) (stk := []) [] hE (c_R_say (xl X) (xG X) e11) ky_R_say ⟨Nat.le_of_ble_eq_true rfl, Nat.le_of_ble_eq_true rfl⟩ rfl kc_R k1 m_471 m_472 m_473 rfl d_R_sayCode_195 rfl rfl ct_0 (Nat.zero_le _) (Nat.zero_le _) ?_
    refine gw.cs (c2 := 0) (s2 := 0) rfl rfl ?_
    refine g_aload_n (i := 0) hE d_R_sayCode_198 rfl rfl ?_
    refine g_aload_n (i := 0) hE d_R_sayCode_199 rfl rfl ?_
    refine g_iconst hE d_R_sayCode_200 ki_1 ?_
    refine g_iload (i := 4) hE d_R_sayCode_201 rfl ?_
    obtain ⟨x13, e14, h⟩ := bd_s h
    refine g_callS (av := [.inl x9]) (stk := [.int x13, .int 1, va_rf (some o), va_rf (some o)]) [.int 1, va_rf (some o), va_rf (some o)] hE (c_R_isPlain (xl X) (xG X) e14) ky_R_isPlain ⟨Nat.le_of_ble_eq_true rfl, Nat.le_of_ble_eq_true rfl⟩ m_425 m_426 rfl d_R_sayCode_203 rfl rfl (Nat.le_trans (ct_i (ct_r (ct_r ct_n))) (Nat.le_of_ble_eq_true rfl)) (Nat.zero_le _) (Nat.zero_le _) ?_
    refine gw.cs (c2 := 0) (s2 := 0) rfl rfl ?_
    refine g_if_eq hE d_R_sayCode_206 (fun c15 => ?_) (fun c15 => ?_)
    · replace h := if_t c15 h
      refine g_iload (i := 4) hE d_R_sayCode_217 rfl ?_
      exact gw.less (lv' := [some (va_rf (some o)), none, none, none, some (.int x9), none]) (And.intro rfl (And.intro rfl trivial)) (w_R_sayCode_J219 hE d12 x9 (some o) (some o) 1 x9 h)
    · replace h := if_f c15 h
      refine g_bipush hE d_R_sayCode_209 kb_40 ?_
      refine g_iload (i := 4) hE d_R_sayCode_211 rfl ?_
      refine g_iadd hE d_R_sayCode_213 ?_
      refine g_goto hE d_R_sayCode_214 ?_
      exact gw.less (lv' := [some (va_rf (some o)), none, none, none, some (.int x9), none]) (And.intro rfl (And.intro rfl trivial)) (w_R_sayCode_J219 hE d12 x9 (some o) (some o) 1 (40 + x9) h)
  · replace h := if_t c22 h
    refine g_aload_n (i := 0) hE d_R_sayCode_179 rfl rfl ?_
    refine g_bipush hE d_R_sayCode_180 kb_12 ?_
    obtain ⟨x16, d18, e17, h⟩ := bdD_s h
    refine g_callV (av := [.inr (.inr (some o)), .inl 12]) (as := [.inl 12]) (stk := []) [] hE (c_R_say (xl X) (xG X) e17) ky_R_say ⟨Nat.le_of_ble_eq_true rfl, Nat.le_of_ble_eq_true rfl⟩ rfl kc_R k1 m_471 m_472 m_473 rfl d_R_sayCode_182 rfl rfl ct_0 (Nat.zero_le _) (Nat.zero_le _) ?_
    refine gw.cs (c2 := 0) (s2 := 0) rfl rfl ?_
    refine g_aload_n (i := 0) hE d_R_sayCode_185 rfl rfl ?_
    refine g_bipush hE d_R_sayCode_186 kb_16 ?_
    obtain ⟨x19, d21, e20, h⟩ := bdD_s h
    refine g_callV (av := [.inr (.inr (some o)), .inl 16]) (as := [.inl 16]) (stk := []) [] hE (c_R_say (xl X) (xG X) e20) ky_R_say ⟨Nat.le_of_ble_eq_true rfl, Nat.le_of_ble_eq_true rfl⟩ rfl kc_R k1 m_471 m_472 m_473 rfl d_R_sayCode_188 rfl rfl ct_0 (Nat.zero_le _) (Nat.zero_le _) ?_
    refine gw.cs (c2 := 0) (s2 := 0) rfl rfl ?_
    cases h
    exact g_vret hE d_R_sayCode_191 rfl rfl
def f_R_sayCode_J62 (S : gS) (o : Nat) (d : gD) (v1 : Int32) (v2 : Int32) (v3 : Int32) : Option (Unit × gD) :=
  itr (f_R_sayCode_B65 S o (f_R_sayCode_J160 S o)) (fun _ _ _ _ _ => none) fu d v1 v2 v3 0
set_option maxRecDepth 100000 in
set_option maxHeartbeats 4000000 in
theorem w_R_sayCode_J62 {X : GX} (hE : gE X b_R_sayCode 6 "StandInMillModel" none "sayCode" 1 24) {S : gS} {o : Nat} {r : Unit} {d' : gD} :
    ∀ (d : gD) (v1 : Int32) (v2 : Int32) (v3 : Int32), f_R_sayCode_J62 S o d v1 v2 v3 = some (r, d') → gw X 0 0 (gQ X (none) S d' 0 0) S d 62 [some (va_rf (some o)), some (.int v1), some (.int v2), some (.int v3), none, none] [] := by
  intro d v1 v2 v3 h
  unfold f_R_sayCode_J62 at h
  refine g_iconst hE d_R_sayCode_62 ki_0 ?_
  refine g_istore (i := 4) (lv' := [some (va_rf (some o)), some (.int v1), some (.int v2), some (.int v3), some (.int 0), none]) hE d_R_sayCode_63 (Nat.le_of_ble_eq_true rfl) ⟨rfl, Nat.le_of_ble_eq_true rfl⟩ (lvp_i rfl) ?_
  exact gw.less (lv' := [some (va_rf (some o)), some (.int v1), some (.int v2), some (.int v3), some (.int 0), none]) (And.intro rfl (And.intro rfl (And.intro rfl (And.intro rfl (And.intro rfl trivial))))) (w_R_sayCode_L65 hE (w_R_sayCode_J160 hE) fu d v1 v2 v3 0 h)
set_option maxRecDepth 100000 in
def f_R_sayCode (S : gS) (d : gD) (o : Nat) (v1 : Int32) : Option (Unit × gD) :=
  kd S o 10 <|
  bdD (f_R_say S d o 1) fun _ d4 =>
  bdD (f_R_say S d4 o 2) fun _ d7 =>
  bdD (f_R_say S d7 o 3) fun _ d10 =>
  bd (f_R_owner S d10 v1) fun x11 =>
  bd (f_R_numberOf S d10 v1) fun x13 =>
  bdD (f_R_entry S d10 o 2 x11 x13) fun x15 d17 =>
  bdD (f_R_say S d17 o x15) fun _ d20 =>
  bd (f_R_takesCount S d20 o v1) fun x21 =>
  if x21 = 0 then (
    bdD (f_R_say S d20 o 4) fun _ d31 =>
    f_R_sayCode_J62 S o d31 v1 x21 1)
  else (
    bdD (f_R_say S d20 o 5) fun _ d25 =>
    bdD (f_R_say S d25 o x21) fun _ d28 =>
    f_R_sayCode_J62 S o d28 v1 x21 1)
set_option maxRecDepth 100000 in
set_option maxHeartbeats 4000000 in
theorem c_R_sayCode (l : Launch) (G : gG) {S : gS} {d : gD} {o : Nat} {v1 : Int32} {r : Unit} {d' : gD} (h : f_R_sayCode S d o v1 = some (r, d')) : GM l G y_R_sayCode b_R_sayCode 6 none 1 24 0 0 [.inr (.inr (some o)), .inl v1] S d (none) S d' := by
  refine GM.of (by decide) (Nat.le_of_ble_eq_true rfl) ?_
  intro X hl0 hG0 hR0 hE0
  have hE : gE X b_R_sayCode 6 "StandInMillModel" none "sayCode" 1 24 := hE0
  unfold f_R_sayCode at h
  refine gw.less (lv' := [some (va_rf (some o)), some (.int v1), none, none, none, none]) (And.intro rfl (And.intro rfl trivial)) ?_
  refine g_aload_n (i := 0) hE d_R_sayCode_0 rfl rfl ?_
  refine g_iconst hE d_R_sayCode_1 ki_1 ?_
  obtain ⟨k1, h⟩ := kd_s h
  obtain ⟨x2, d4, e3, h⟩ := bdD_s h
  refine g_callV (av := [.inr (.inr (some o)), .inl 1]) (as := [.inl 1]) (stk := []) [] hE (c_R_say (xl X) (xG X) e3) ky_R_say ⟨Nat.le_of_ble_eq_true rfl, Nat.le_of_ble_eq_true rfl⟩ rfl kc_R k1 m_471 m_472 m_473 rfl d_R_sayCode_2 rfl rfl ct_0 (Nat.zero_le _) (Nat.zero_le _) ?_
  refine gw.cs (c2 := 0) (s2 := 0) rfl rfl ?_
  refine g_aload_n (i := 0) hE d_R_sayCode_5 rfl rfl ?_
  refine g_iconst hE d_R_sayCode_6 ki_2 ?_
  obtain ⟨x5, d7, e6, h⟩ := bdD_s h
  refine g_callV (av := [.inr (.inr (some o)), .inl 2]) (as := [.inl 2]) (stk := []) [] hE (c_R_say (xl X) (xG X) e6) ky_R_say ⟨Nat.le_of_ble_eq_true rfl, Nat.le_of_ble_eq_true rfl⟩ rfl kc_R k1 m_471 m_472 m_473 rfl d_R_sayCode_7 rfl rfl ct_0 (Nat.zero_le _) (Nat.zero_le _) ?_
  refine gw.cs (c2 := 0) (s2 := 0) rfl rfl ?_
  refine g_aload_n (i := 0) hE d_R_sayCode_10 rfl rfl ?_
  refine g_iconst hE d_R_sayCode_11 ki_3 ?_
  obtain ⟨x8, d10, e9, h⟩ := bdD_s h
  refine g_callV (av := [.inr (.inr (some o)), .inl 3]) (as := [.inl 3]) (stk := []) [] hE (c_R_say (xl X) (xG X) e9) ky_R_say ⟨Nat.le_of_ble_eq_true rfl, Nat.le_of_ble_eq_true rfl⟩ rfl kc_R k1 m_471 m_472 m_473 rfl d_R_sayCode_12 rfl rfl ct_0 (Nat.zero_le _) (Nat.zero_le _) ?_
  refine gw.cs (c2 := 0) (s2 := 0) rfl rfl ?_
  refine g_aload_n (i := 0) hE d_R_sayCode_15 rfl rfl ?_
  refine g_aload_n (i := 0) hE d_R_sayCode_16 rfl rfl ?_
  refine g_iconst hE d_R_sayCode_17 ki_2 ?_
  refine g_iload_n (i := 1) hE d_R_sayCode_18 rfl rfl ?_
  obtain ⟨x11, e12, h⟩ := bd_s h
  refine g_callS (av := [.inl v1]) (stk := [.int x11, .int 2, va_rf (some o), va_rf (some o)]) [.int 2, va_rf (some o), va_rf (some o)] hE (c_R_owner (xl X) (xG X) e12) ky_R_owner ⟨Nat.le_of_ble_eq_true rfl, Nat.le_of_ble_eq_true rfl⟩ m_474 m_475 rfl d_R_sayCode_19 rfl rfl (Nat.le_trans (ct_i (ct_r (ct_r ct_n))) (Nat.le_of_ble_eq_true rfl)) (Nat.zero_le _) (Nat.zero_le _) ?_
  refine gw.cs (c2 := 0) (s2 := 0) rfl rfl ?_
  refine g_iload_n (i := 1) hE d_R_sayCode_22 rfl rfl ?_
  obtain ⟨x13, e14, h⟩ := bd_s h
  refine g_callS (av := [.inl v1]) (stk := [.int x13, .int x11, .int 2, va_rf (some o), va_rf (some o)]) [.int x11, .int 2, va_rf (some o), va_rf (some o)] hE (c_R_numberOf (xl X) (xG X) e14) ky_R_numberOf ⟨Nat.le_of_ble_eq_true rfl, Nat.le_of_ble_eq_true rfl⟩ m_476 m_477 rfl d_R_sayCode_23 rfl rfl (Nat.le_trans (ct_i (ct_i (ct_r (ct_r ct_n)))) (Nat.le_of_ble_eq_true rfl)) (Nat.zero_le _) (Nat.zero_le _) ?_
  refine gw.cs (c2 := 0) (s2 := 0) rfl rfl ?_
  obtain ⟨x15, d17, e16, h⟩ := bdD_s h
  refine g_callV (av := [.inr (.inr (some o)), .inl 2, .inl x11, .inl x13]) (as := [.inl 2, .inl x11, .inl x13]) (stk := [.int x15, va_rf (some o)]) [va_rf (some o)] hE (c_R_entry (xl X) (xG X) e16) ky_R_entry ⟨Nat.le_of_ble_eq_true rfl, Nat.le_of_ble_eq_true rfl⟩ rfl kc_R k1 m_478 m_479 m_480 rfl d_R_sayCode_26 rfl rfl (Nat.le_trans (ct_r ct_n) (Nat.le_of_ble_eq_true rfl)) (Nat.zero_le _) (Nat.zero_le _) ?_
  refine gw.cs (c2 := 0) (s2 := 0) rfl rfl ?_
  obtain ⟨x18, d20, e19, h⟩ := bdD_s h
  refine g_callV (av := [.inr (.inr (some o)), .inl x15]) (as := [.inl x15]) (stk := []) [] hE (c_R_say (xl X) (xG X) e19) ky_R_say ⟨Nat.le_of_ble_eq_true rfl, Nat.le_of_ble_eq_true rfl⟩ rfl kc_R k1 m_471 m_472 m_473 rfl d_R_sayCode_29 rfl rfl ct_0 (Nat.zero_le _) (Nat.zero_le _) ?_
  refine gw.cs (c2 := 0) (s2 := 0) rfl rfl ?_
  refine g_aload_n (i := 0) hE d_R_sayCode_32 rfl rfl ?_
  refine g_iload_n (i := 1) hE d_R_sayCode_33 rfl rfl ?_
  obtain ⟨x21, e22, h⟩ := bd_s h
  refine g_callV (av := [.inr (.inr (some o)), .inl v1]) (as := [.inl v1]) (stk := [.int x21]) [] hE (c_R_takesCount (xl X) (xG X) e22) ky_R_takesCount ⟨Nat.le_of_ble_eq_true rfl, Nat.le_of_ble_eq_true rfl⟩ rfl kc_R k1 m_481 m_482 m_483 rfl d_R_sayCode_34 rfl rfl ct_0 (Nat.zero_le _) (Nat.zero_le _) ?_
  refine gw.cs (c2 := 0) (s2 := 0) rfl rfl ?_
  refine g_istore_n (i := 2) (lv' := [some (va_rf (some o)), some (.int v1), some (.int x21), none, none, none]) hE d_R_sayCode_37 rfl (Nat.le_of_ble_eq_true rfl) ⟨rfl, Nat.le_of_ble_eq_true rfl⟩ (lvp_i rfl) ?_
  refine g_iconst hE d_R_sayCode_38 ki_1 ?_
  refine g_istore_n (i := 3) (lv' := [some (va_rf (some o)), some (.int v1), some (.int x21), some (.int 1), none, none]) hE d_R_sayCode_39 rfl (Nat.le_of_ble_eq_true rfl) ⟨rfl, Nat.le_of_ble_eq_true rfl⟩ (lvp_i rfl) ?_
  refine g_iload_n (i := 2) hE d_R_sayCode_40 rfl rfl ?_
  refine g_if_ne hE d_R_sayCode_41 (fun c32 => ?_) (fun c32 => ?_)
  · replace h := if_f c32 h
    refine g_aload_n (i := 0) hE d_R_sayCode_52 rfl rfl ?_
    refine g_iconst hE d_R_sayCode_53 ki_5 ?_
    obtain ⟨x23, d25, e24, h⟩ := bdD_s h
    refine g_callV (av := [.inr (.inr (some o)), .inl 5]) (as := [.inl 5]) (stk := []) [] hE (c_R_say (xl X) (xG X) e24) ky_R_say ⟨Nat.le_of_ble_eq_true rfl, Nat.le_of_ble_eq_true rfl⟩ rfl kc_R k1 m_471 m_472 m_473 rfl d_R_sayCode_54 rfl rfl ct_0 (Nat.zero_le _) (Nat.zero_le _) ?_
    refine gw.cs (c2 := 0) (s2 := 0) rfl rfl ?_
    refine g_aload_n (i := 0) hE d_R_sayCode_57 rfl rfl ?_
    refine g_iload_n (i := 2) hE d_R_sayCode_58 rfl rfl ?_
    obtain ⟨x26, d28, e27, h⟩ := bdD_s h
    refine g_callV (av := [.inr (.inr (some o)), .inl x21]) (as := [.inl x21]) (stk := []) [] hE (c_R_say (xl X) (xG X) e27) ky_R_say ⟨Nat.le_of_ble_eq_true rfl, Nat.le_of_ble_eq_true rfl⟩ rfl kc_R k1 m_471 m_472 m_473 rfl d_R_sayCode_59 rfl rfl ct_0 (Nat.zero_le _) (Nat.zero_le _) ?_
    refine gw.cs (c2 := 0) (s2 := 0) rfl rfl ?_
    exact gw.less (lv' := [some (va_rf (some o)), some (.int v1), some (.int x21), some (.int 1), none, none]) (And.intro rfl (And.intro rfl (And.intro rfl (And.intro rfl trivial)))) (w_R_sayCode_J62 hE d28 v1 x21 1 h)
  · replace h := if_t c32 h
    refine g_aload_n (i := 0) hE d_R_sayCode_44 rfl rfl ?_
    refine g_iconst hE d_R_sayCode_45 ki_4 ?_
    obtain ⟨x29, d31, e30, h⟩ := bdD_s h
    refine g_callV (av := [.inr (.inr (some o)), .inl 4]) (as := [.inl 4]) (stk := []) [] hE (c_R_say (xl X) (xG X) e30) ky_R_say ⟨Nat.le_of_ble_eq_true rfl, Nat.le_of_ble_eq_true rfl⟩ rfl kc_R k1 m_471 m_472 m_473 rfl d_R_sayCode_46 rfl rfl ct_0 (Nat.zero_le _) (Nat.zero_le _) ?_
    refine gw.cs (c2 := 0) (s2 := 0) rfl rfl ?_
    refine g_goto hE d_R_sayCode_49 ?_
    exact gw.less (lv' := [some (va_rf (some o)), some (.int v1), some (.int x21), some (.int 1), none, none]) (And.intro rfl (And.intro rfl (And.intro rfl (And.intro rfl trivial)))) (w_R_sayCode_J62 hE d31 v1 x21 1 h)
