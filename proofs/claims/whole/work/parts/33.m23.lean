theorem d_R_listMethods_0 : dc b_R_listMethods 0 (.iconst 0) 1 1 := ⟨by decide +kernel, rfl⟩
theorem d_R_listMethods_1 : dc b_R_listMethods 1 (.istore_n 1) 1 2 := ⟨by decide +kernel, rfl⟩
theorem d_R_listMethods_2 : dc b_R_listMethods 2 (.iload_n 1) 1 3 := ⟨by decide +kernel, rfl⟩
theorem d_R_listMethods_3 : dc b_R_listMethods 3 (.aload_n 0) 1 4 := ⟨by decide +kernel, rfl⟩
theorem d_R_listMethods_4 : dc b_R_listMethods 4 (.getfield 26) 3 7 := ⟨by decide +kernel, rfl⟩
theorem d_R_listMethods_7 : db b_R_listMethods 7 (.if_icmp .ge 220) 220 227 10 := ⟨by decide +kernel, by decide, rfl⟩
theorem d_R_listMethods_10 : dc b_R_listMethods 10 (.iconst 0) 1 11 := ⟨by decide +kernel, rfl⟩
theorem d_R_listMethods_11 : dc b_R_listMethods 11 (.istore_n 2) 1 12 := ⟨by decide +kernel, rfl⟩
theorem d_R_listMethods_12 : dc b_R_listMethods 12 (.iconst 0) 1 13 := ⟨by decide +kernel, rfl⟩
theorem d_R_listMethods_13 : dc b_R_listMethods 13 (.istore_n 3) 1 14 := ⟨by decide +kernel, rfl⟩
theorem d_R_listMethods_14 : dc b_R_listMethods 14 (.iload_n 3) 1 15 := ⟨by decide +kernel, rfl⟩
theorem d_R_listMethods_15 : dc b_R_listMethods 15 (.aload_n 0) 1 16 := ⟨by decide +kernel, rfl⟩
theorem d_R_listMethods_16 : dc b_R_listMethods 16 (.getfield 48) 3 19 := ⟨by decide +kernel, rfl⟩
theorem d_R_listMethods_19 : dc b_R_listMethods 19 (.iload_n 1) 1 20 := ⟨by decide +kernel, rfl⟩
theorem d_R_listMethods_20 : dc b_R_listMethods 20 (.iaload) 1 21 := ⟨by decide +kernel, rfl⟩
theorem d_R_listMethods_21 : db b_R_listMethods 21 (.if_icmp .ge 29) 29 50 24 := ⟨by decide +kernel, by decide, rfl⟩
theorem d_R_listMethods_24 : dc b_R_listMethods 24 (.aload_n 0) 1 25 := ⟨by decide +kernel, rfl⟩
theorem d_R_listMethods_25 : dc b_R_listMethods 25 (.getfield 100) 3 28 := ⟨by decide +kernel, rfl⟩
theorem d_R_listMethods_28 : dc b_R_listMethods 28 (.bipush 72) 2 30 := ⟨by decide +kernel, rfl⟩
theorem d_R_listMethods_30 : dc b_R_listMethods 30 (.iload_n 1) 1 31 := ⟨by decide +kernel, rfl⟩
theorem d_R_listMethods_31 : dc b_R_listMethods 31 (.imul) 1 32 := ⟨by decide +kernel, rfl⟩
theorem d_R_listMethods_32 : dc b_R_listMethods 32 (.iload_n 2) 1 33 := ⟨by decide +kernel, rfl⟩
theorem d_R_listMethods_33 : dc b_R_listMethods 33 (.iadd) 1 34 := ⟨by decide +kernel, rfl⟩
theorem d_R_listMethods_34 : dc b_R_listMethods 34 (.bipush 6) 2 36 := ⟨by decide +kernel, rfl⟩
theorem d_R_listMethods_36 : dc b_R_listMethods 36 (.iload_n 1) 1 37 := ⟨by decide +kernel, rfl⟩
theorem d_R_listMethods_37 : dc b_R_listMethods 37 (.imul) 1 38 := ⟨by decide +kernel, rfl⟩
theorem d_R_listMethods_38 : dc b_R_listMethods 38 (.iload_n 3) 1 39 := ⟨by decide +kernel, rfl⟩
theorem d_R_listMethods_39 : dc b_R_listMethods 39 (.iadd) 1 40 := ⟨by decide +kernel, rfl⟩
theorem d_R_listMethods_40 : dc b_R_listMethods 40 (.iastore) 1 41 := ⟨by decide +kernel, rfl⟩
theorem d_R_listMethods_41 : dc b_R_listMethods 41 (.iinc 2 1) 3 44 := ⟨by decide +kernel, rfl⟩
theorem d_R_listMethods_44 : dc b_R_listMethods 44 (.iinc 3 1) 3 47 := ⟨by decide +kernel, rfl⟩
theorem d_R_listMethods_47 : db b_R_listMethods 47 (.goto (-33)) (-33) 14 50 := ⟨by decide +kernel, by decide, rfl⟩
theorem d_R_listMethods_50 : dc b_R_listMethods 50 (.iconst 0) 1 51 := ⟨by decide +kernel, rfl⟩
theorem d_R_listMethods_51 : dc b_R_listMethods 51 (.istore_n 3) 1 52 := ⟨by decide +kernel, rfl⟩
theorem d_R_listMethods_52 : dc b_R_listMethods 52 (.iload_n 3) 1 53 := ⟨by decide +kernel, rfl⟩
theorem d_R_listMethods_53 : dc b_R_listMethods 53 (.aload_n 0) 1 54 := ⟨by decide +kernel, rfl⟩
theorem d_R_listMethods_54 : dc b_R_listMethods 54 (.getfield 45) 3 57 := ⟨by decide +kernel, rfl⟩
theorem d_R_listMethods_57 : dc b_R_listMethods 57 (.iload_n 1) 1 58 := ⟨by decide +kernel, rfl⟩
theorem d_R_listMethods_58 : dc b_R_listMethods 58 (.iaload) 1 59 := ⟨by decide +kernel, rfl⟩
theorem d_R_listMethods_59 : db b_R_listMethods 59 (.if_icmp .ge 155) 155 214 62 := ⟨by decide +kernel, by decide, rfl⟩
theorem d_R_listMethods_62 : dc b_R_listMethods 62 (.aload_n 0) 1 63 := ⟨by decide +kernel, rfl⟩
theorem d_R_listMethods_63 : dc b_R_listMethods 63 (.getfield 42) 3 66 := ⟨by decide +kernel, rfl⟩
theorem d_R_listMethods_66 : dc b_R_listMethods 66 (.iconst 2) 1 67 := ⟨by decide +kernel, rfl⟩
theorem d_R_listMethods_67 : dc b_R_listMethods 67 (.iload_n 1) 1 68 := ⟨by decide +kernel, rfl⟩
theorem d_R_listMethods_68 : dc b_R_listMethods 68 (.imul) 1 69 := ⟨by decide +kernel, rfl⟩
theorem d_R_listMethods_69 : dc b_R_listMethods 69 (.iload_n 3) 1 70 := ⟨by decide +kernel, rfl⟩
theorem d_R_listMethods_70 : dc b_R_listMethods 70 (.iadd) 1 71 := ⟨by decide +kernel, rfl⟩
theorem d_R_listMethods_71 : dc b_R_listMethods 71 (.iaload) 1 72 := ⟨by decide +kernel, rfl⟩
theorem d_R_listMethods_72 : dc b_R_listMethods 72 (.istore 4) 2 74 := ⟨by decide +kernel, rfl⟩
theorem d_R_listMethods_74 : dc b_R_listMethods 74 (.iconst 0) 1 75 := ⟨by decide +kernel, rfl⟩
theorem d_R_listMethods_75 : dc b_R_listMethods 75 (.istore 5) 2 77 := ⟨by decide +kernel, rfl⟩
theorem d_R_listMethods_77 : dc b_R_listMethods 77 (.iload 5) 2 79 := ⟨by decide +kernel, rfl⟩
theorem d_R_listMethods_79 : dc b_R_listMethods 79 (.aload_n 0) 1 80 := ⟨by decide +kernel, rfl⟩
theorem d_R_listMethods_80 : dc b_R_listMethods 80 (.getfield 103) 3 83 := ⟨by decide +kernel, rfl⟩
theorem d_R_listMethods_83 : dc b_R_listMethods 83 (.iload 4) 2 85 := ⟨by decide +kernel, rfl⟩
theorem d_R_listMethods_85 : dc b_R_listMethods 85 (.iaload) 1 86 := ⟨by decide +kernel, rfl⟩
theorem d_R_listMethods_86 : db b_R_listMethods 86 (.if_icmp .ge 122) 122 208 89 := ⟨by decide +kernel, by decide, rfl⟩
theorem d_R_listMethods_89 : dc b_R_listMethods 89 (.aload_n 0) 1 90 := ⟨by decide +kernel, rfl⟩
theorem d_R_listMethods_90 : dc b_R_listMethods 90 (.getfield 100) 3 93 := ⟨by decide +kernel, rfl⟩
theorem d_R_listMethods_93 : dc b_R_listMethods 93 (.bipush 72) 2 95 := ⟨by decide +kernel, rfl⟩
theorem d_R_listMethods_95 : dc b_R_listMethods 95 (.iload 4) 2 97 := ⟨by decide +kernel, rfl⟩
theorem d_R_listMethods_97 : dc b_R_listMethods 97 (.imul) 1 98 := ⟨by decide +kernel, rfl⟩
theorem d_R_listMethods_98 : dc b_R_listMethods 98 (.iload 5) 2 100 := ⟨by decide +kernel, rfl⟩
theorem d_R_listMethods_100 : dc b_R_listMethods 100 (.iadd) 1 101 := ⟨by decide +kernel, rfl⟩
theorem d_R_listMethods_101 : dc b_R_listMethods 101 (.iaload) 1 102 := ⟨by decide +kernel, rfl⟩
theorem d_R_listMethods_102 : dc b_R_listMethods 102 (.istore 6) 2 104 := ⟨by decide +kernel, rfl⟩
theorem d_R_listMethods_104 : dc b_R_listMethods 104 (.iconst 0) 1 105 := ⟨by decide +kernel, rfl⟩
theorem d_R_listMethods_105 : dc b_R_listMethods 105 (.istore 7) 2 107 := ⟨by decide +kernel, rfl⟩
theorem d_R_listMethods_107 : dc b_R_listMethods 107 (.iconst 0) 1 108 := ⟨by decide +kernel, rfl⟩
theorem d_R_listMethods_108 : dc b_R_listMethods 108 (.istore 8) 2 110 := ⟨by decide +kernel, rfl⟩
theorem d_R_listMethods_110 : dc b_R_listMethods 110 (.iload 8) 2 112 := ⟨by decide +kernel, rfl⟩
theorem d_R_listMethods_112 : dc b_R_listMethods 112 (.aload_n 0) 1 113 := ⟨by decide +kernel, rfl⟩
theorem d_R_listMethods_113 : dc b_R_listMethods 113 (.getfield 48) 3 116 := ⟨by decide +kernel, rfl⟩
theorem d_R_listMethods_116 : dc b_R_listMethods 116 (.iload_n 1) 1 117 := ⟨by decide +kernel, rfl⟩
theorem d_R_listMethods_117 : dc b_R_listMethods 117 (.iaload) 1 118 := ⟨by decide +kernel, rfl⟩
theorem d_R_listMethods_118 : db b_R_listMethods 118 (.if_icmp .ge 28) 28 146 121 := ⟨by decide +kernel, by decide, rfl⟩
theorem d_R_listMethods_121 : dc b_R_listMethods 121 (.aload_n 0) 1 122 := ⟨by decide +kernel, rfl⟩
theorem d_R_listMethods_122 : dc b_R_listMethods 122 (.bipush 6) 2 124 := ⟨by decide +kernel, rfl⟩
theorem d_R_listMethods_124 : dc b_R_listMethods 124 (.iload_n 1) 1 125 := ⟨by decide +kernel, rfl⟩
theorem d_R_listMethods_125 : dc b_R_listMethods 125 (.imul) 1 126 := ⟨by decide +kernel, rfl⟩
theorem d_R_listMethods_126 : dc b_R_listMethods 126 (.iload 8) 2 128 := ⟨by decide +kernel, rfl⟩
theorem d_R_listMethods_128 : dc b_R_listMethods 128 (.iadd) 1 129 := ⟨by decide +kernel, rfl⟩
theorem d_R_listMethods_129 : dc b_R_listMethods 129 (.iload 6) 2 131 := ⟨by decide +kernel, rfl⟩
theorem d_R_listMethods_131 : dc b_R_listMethods 131 (.invokevirtual 180) 3 134 := ⟨by decide +kernel, rfl⟩
theorem d_R_listMethods_134 : db b_R_listMethods 134 (.ifCond .eq 6) 6 140 137 := ⟨by decide +kernel, by decide, rfl⟩
theorem d_R_listMethods_137 : dc b_R_listMethods 137 (.iconst 1) 1 138 := ⟨by decide +kernel, rfl⟩
theorem d_R_listMethods_138 : dc b_R_listMethods 138 (.istore 7) 2 140 := ⟨by decide +kernel, rfl⟩
theorem d_R_listMethods_140 : dc b_R_listMethods 140 (.iinc 8 1) 3 143 := ⟨by decide +kernel, rfl⟩
theorem d_R_listMethods_143 : db b_R_listMethods 143 (.goto (-33)) (-33) 110 146 := ⟨by decide +kernel, by decide, rfl⟩
theorem d_R_listMethods_146 : dc b_R_listMethods 146 (.iconst 0) 1 147 := ⟨by decide +kernel, rfl⟩
theorem d_R_listMethods_147 : dc b_R_listMethods 147 (.istore 8) 2 149 := ⟨by decide +kernel, rfl⟩
theorem d_R_listMethods_149 : dc b_R_listMethods 149 (.iload 8) 2 151 := ⟨by decide +kernel, rfl⟩
theorem d_R_listMethods_151 : dc b_R_listMethods 151 (.iload_n 2) 1 152 := ⟨by decide +kernel, rfl⟩
theorem d_R_listMethods_152 : db b_R_listMethods 152 (.if_icmp .ge 29) 29 181 155 := ⟨by decide +kernel, by decide, rfl⟩
theorem d_R_listMethods_155 : dc b_R_listMethods 155 (.aload_n 0) 1 156 := ⟨by decide +kernel, rfl⟩
theorem d_R_listMethods_156 : dc b_R_listMethods 156 (.getfield 100) 3 159 := ⟨by decide +kernel, rfl⟩
theorem d_R_listMethods_159 : dc b_R_listMethods 159 (.bipush 72) 2 161 := ⟨by decide +kernel, rfl⟩
theorem d_R_listMethods_161 : dc b_R_listMethods 161 (.iload_n 1) 1 162 := ⟨by decide +kernel, rfl⟩
theorem d_R_listMethods_162 : dc b_R_listMethods 162 (.imul) 1 163 := ⟨by decide +kernel, rfl⟩
theorem d_R_listMethods_163 : dc b_R_listMethods 163 (.iload 8) 2 165 := ⟨by decide +kernel, rfl⟩
theorem d_R_listMethods_165 : dc b_R_listMethods 165 (.iadd) 1 166 := ⟨by decide +kernel, rfl⟩
theorem d_R_listMethods_166 : dc b_R_listMethods 166 (.iaload) 1 167 := ⟨by decide +kernel, rfl⟩
theorem d_R_listMethods_167 : dc b_R_listMethods 167 (.iload 6) 2 169 := ⟨by decide +kernel, rfl⟩
theorem d_R_listMethods_169 : db b_R_listMethods 169 (.if_icmp .ne 6) 6 175 172 := ⟨by decide +kernel, by decide, rfl⟩
theorem d_R_listMethods_172 : dc b_R_listMethods 172 (.iconst 1) 1 173 := ⟨by decide +kernel, rfl⟩
theorem d_R_listMethods_173 : dc b_R_listMethods 173 (.istore 7) 2 175 := ⟨by decide +kernel, rfl⟩
theorem d_R_listMethods_175 : dc b_R_listMethods 175 (.iinc 8 1) 3 178 := ⟨by decide +kernel, rfl⟩
theorem d_R_listMethods_178 : db b_R_listMethods 178 (.goto (-29)) (-29) 149 181 := ⟨by decide +kernel, by decide, rfl⟩
theorem d_R_listMethods_181 : dc b_R_listMethods 181 (.iload 7) 2 183 := ⟨by decide +kernel, rfl⟩
theorem d_R_listMethods_183 : db b_R_listMethods 183 (.ifCond .ne 19) 19 202 186 := ⟨by decide +kernel, by decide, rfl⟩
theorem d_R_listMethods_186 : dc b_R_listMethods 186 (.aload_n 0) 1 187 := ⟨by decide +kernel, rfl⟩
theorem d_R_listMethods_187 : dc b_R_listMethods 187 (.getfield 100) 3 190 := ⟨by decide +kernel, rfl⟩
theorem d_R_listMethods_190 : dc b_R_listMethods 190 (.bipush 72) 2 192 := ⟨by decide +kernel, rfl⟩
theorem d_R_listMethods_192 : dc b_R_listMethods 192 (.iload_n 1) 1 193 := ⟨by decide +kernel, rfl⟩
theorem d_R_listMethods_193 : dc b_R_listMethods 193 (.imul) 1 194 := ⟨by decide +kernel, rfl⟩
theorem d_R_listMethods_194 : dc b_R_listMethods 194 (.iload_n 2) 1 195 := ⟨by decide +kernel, rfl⟩
theorem d_R_listMethods_195 : dc b_R_listMethods 195 (.iadd) 1 196 := ⟨by decide +kernel, rfl⟩
theorem d_R_listMethods_196 : dc b_R_listMethods 196 (.iload 6) 2 198 := ⟨by decide +kernel, rfl⟩
theorem d_R_listMethods_198 : dc b_R_listMethods 198 (.iastore) 1 199 := ⟨by decide +kernel, rfl⟩
theorem d_R_listMethods_199 : dc b_R_listMethods 199 (.iinc 2 1) 3 202 := ⟨by decide +kernel, rfl⟩
theorem d_R_listMethods_202 : dc b_R_listMethods 202 (.iinc 5 1) 3 205 := ⟨by decide +kernel, rfl⟩
theorem d_R_listMethods_205 : db b_R_listMethods 205 (.goto (-128)) (-128) 77 208 := ⟨by decide +kernel, by decide, rfl⟩
theorem d_R_listMethods_208 : dc b_R_listMethods 208 (.iinc 3 1) 3 211 := ⟨by decide +kernel, rfl⟩
theorem d_R_listMethods_211 : db b_R_listMethods 211 (.goto (-159)) (-159) 52 214 := ⟨by decide +kernel, by decide, rfl⟩
theorem d_R_listMethods_214 : dc b_R_listMethods 214 (.aload_n 0) 1 215 := ⟨by decide +kernel, rfl⟩
theorem d_R_listMethods_215 : dc b_R_listMethods 215 (.getfield 103) 3 218 := ⟨by decide +kernel, rfl⟩
theorem d_R_listMethods_218 : dc b_R_listMethods 218 (.iload_n 1) 1 219 := ⟨by decide +kernel, rfl⟩
theorem d_R_listMethods_219 : dc b_R_listMethods 219 (.iload_n 2) 1 220 := ⟨by decide +kernel, rfl⟩
theorem d_R_listMethods_220 : dc b_R_listMethods 220 (.iastore) 1 221 := ⟨by decide +kernel, rfl⟩
theorem d_R_listMethods_221 : dc b_R_listMethods 221 (.iinc 1 1) 3 224 := ⟨by decide +kernel, rfl⟩
theorem d_R_listMethods_224 : db b_R_listMethods 224 (.goto (-222)) (-222) 2 227 := ⟨by decide +kernel, by decide, rfl⟩
theorem d_R_listMethods_227 : dc b_R_listMethods 227 (.return_) 1 228 := ⟨by decide +kernel, rfl⟩
def f_R_listMethods_B14 (S : gS) (o : Nat) (kx50 : gD → Int32 → Int32 → Option (Unit × gD)) (kb : gD → Int32 → Int32 → Int32 → Option (Unit × gD)) (d : gD) (v1 : Int32) (v2 : Int32) (v3 : Int32) : Option (Unit × gD) :=
  kd S o 10 <|
  lt_ (sP S o 12) fun x2 =>
  nn x2 fun a3 =>
  kd S a3 50 <|
  gi v1 (sN S a3) <|
  lt_ (dI d a3 v1.toNatClampNeg) fun x6 =>
  if x6 ≤ v3 then (
    kx50 d v1 v2)
  else (
    lt_ (sP S o 29) fun x7 =>
    nn x7 fun a8 =>
    kd S a8 50 <|
    gi ((72 * v1) + v2) (sN S a8) <|
    lt_ (wI d a8 ((72 * v1) + v2 : Int32).toNatClampNeg ((6 * v1) + v3)) fun d11 =>
    kb d11 v1 (v2 + 1) (v3 + 1))
set_option maxRecDepth 100000 in
set_option maxHeartbeats 4000000 in
theorem w_R_listMethods_B14 {X : GX} (hE : gE X b_R_listMethods 9 "StandInMillModel" none "listMethods" 1 22) {S : gS} {o : Nat} {r : Unit} {d' : gD} {kb : gD → Int32 → Int32 → Int32 → Option (Unit × gD)} {kx50 : gD → Int32 → Int32 → Option (Unit × gD)} (hkb : ∀ (d : gD) (v1 : Int32) (v2 : Int32) (v3 : Int32), kb d v1 v2 v3 = some (r, d') → gw X 0 0 (gQ X (none) S d' 0 0) S d 14 [some (va_rf (some o)), some (.int v1), some (.int v2), some (.int v3), none, none, none, none, none] []) (hkx50 : ∀ (d : gD) (v1 : Int32) (v2 : Int32), kx50 d v1 v2 = some (r, d') → gw X 0 0 (gQ X (none) S d' 0 0) S d 50 [some (va_rf (some o)), some (.int v1), some (.int v2), none, none, none, none, none, none] []) :
    ∀ (d : gD) (v1 : Int32) (v2 : Int32) (v3 : Int32), f_R_listMethods_B14 S o kx50 kb d v1 v2 v3 = some (r, d') → gw X 0 0 (gQ X (none) S d' 0 0) S d 14 [some (va_rf (some o)), some (.int v1), some (.int v2), some (.int v3), none, none, none, none, none] [] := by
  intro d v1 v2 v3 h
  unfold f_R_listMethods_B14 at h
  refine g_iload_n (i := 3) hE d_R_listMethods_14 rfl rfl ?_
  refine g_aload_n (i := 0) hE d_R_listMethods_15 rfl rfl ?_
  obtain ⟨k1, h⟩ := kd_s h
  refine g_getR 12 hE kc_R k1 (Nat.le_of_ble_eq_true rfl) rfl m_389 d_R_listMethods_16 (fun x2 e => ?_)
  replace h := lt_i e h; clear e
  refine g_iload_n (i := 1) hE d_R_listMethods_19 rfl rfl ?_
  obtain ⟨a3, rfl, h⟩ := nn_s h
  obtain ⟨k4, h⟩ := kd_s h
  obtain ⟨g5, h⟩ := gi_s h
  refine g_iald hE k4 g5 d_R_listMethods_20 (fun x6 e => ?_)
  replace h := lt_i e h; clear e
  refine g_icmp_ge hE d_R_listMethods_21 (fun c12 => ?_) (fun c12 => ?_)
  · replace h := if_t c12 h
    exact gw.less (lv' := [some (va_rf (some o)), some (.int v1), some (.int v2), none, none, none, none, none, none]) (And.intro rfl (And.intro rfl (And.intro rfl trivial))) (hkx50 d v1 v2 h)
  · replace h := if_f c12 h
    refine g_aload_n (i := 0) hE d_R_listMethods_24 rfl rfl ?_
    refine g_getR 29 hE kc_R k1 (Nat.le_of_ble_eq_true rfl) rfl m_406 d_R_listMethods_25 (fun x7 e => ?_)
    replace h := lt_i e h; clear e
    refine g_bipush hE d_R_listMethods_28 kb_72 ?_
    refine g_iload_n (i := 1) hE d_R_listMethods_30 rfl rfl ?_
    refine g_imul hE d_R_listMethods_31 ?_
    refine g_iload_n (i := 2) hE d_R_listMethods_32 rfl rfl ?_
    refine g_iadd hE d_R_listMethods_33 ?_
    refine g_bipush hE d_R_listMethods_34 kb_6 ?_
    refine g_iload_n (i := 1) hE d_R_listMethods_36 rfl rfl ?_
    refine g_imul hE d_R_listMethods_37 ?_
    refine g_iload_n (i := 3) hE d_R_listMethods_38 rfl rfl ?_
    refine g_iadd hE d_R_listMethods_39 ?_
    obtain ⟨a8, rfl, h⟩ := nn_s h
    obtain ⟨k9, h⟩ := kd_s h
    obtain ⟨g10, h⟩ := gi_s h
    refine g_iast hE k9 g10 d_R_listMethods_40 (fun d11 e => ?_)
    replace h := lt_i e h; clear e
    refine g_iinc (i := 2) (lv' := [some (va_rf (some o)), some (.int v1), some (.int (v2 + 1)), some (.int v3), none, none, none, none, none]) hE d_R_listMethods_41 ki_1 rfl (Nat.le_of_ble_eq_true rfl) ⟨rfl, Nat.le_of_ble_eq_true rfl⟩ (lvp_i rfl) ?_
    refine g_iinc (i := 3) (lv' := [some (va_rf (some o)), some (.int v1), some (.int (v2 + 1)), some (.int (v3 + 1)), none, none, none, none, none]) hE d_R_listMethods_44 ki_1 rfl (Nat.le_of_ble_eq_true rfl) ⟨rfl, Nat.le_of_ble_eq_true rfl⟩ (lvp_i rfl) ?_
    refine g_goto hE d_R_listMethods_47 ?_
    exact gw.less (lv' := [some (va_rf (some o)), some (.int v1), some (.int (v2 + 1)), some (.int (v3 + 1)), none, none, none, none, none]) (And.intro rfl (And.intro rfl (And.intro rfl (And.intro rfl trivial)))) (hkb d11 v1 (v2 + 1) (v3 + 1) h)
theorem w_R_listMethods_L14 {X : GX} (hE : gE X b_R_listMethods 9 "StandInMillModel" none "listMethods" 1 22) {S : gS} {o : Nat} {r : Unit} {d' : gD} {kx50 : gD → Int32 → Int32 → Option (Unit × gD)} (hkx50 : ∀ (d : gD) (v1 : Int32) (v2 : Int32), kx50 d v1 v2 = some (r, d') → gw X 0 0 (gQ X (none) S d' 0 0) S d 50 [some (va_rf (some o)), some (.int v1), some (.int v2), none, none, none, none, none, none] []) : ∀ (n : Nat) (d : gD) (v1 : Int32) (v2 : Int32) (v3 : Int32), itr (f_R_listMethods_B14 S o kx50) (fun _ _ _ _ => none) n d v1 v2 v3 = some (r, d') → gw X 0 0 (gQ X (none) S d' 0 0) S d 14 [some (va_rf (some o)), some (.int v1), some (.int v2), some (.int v3), none, none, none, none, none] [] := by
  intro n
  induction n with
  | zero => intro d v1 v2 v3 h; cases h
  | succ n ih => exact w_R_listMethods_B14 hE ih hkx50
def f_R_listMethods_J140 (S : gS) (o : Nat) (kx146 : gD → Int32 → Int32 → Int32 → Int32 → Int32 → Int32 → Int32 → Option (Unit × gD)) (kb : gD → Int32 → Int32 → Int32 → Int32 → Int32 → Int32 → Int32 → Int32 → Option (Unit × gD)) (d : gD) (v1 : Int32) (v2 : Int32) (v3 : Int32) (v4 : Int32) (v5 : Int32) (v6 : Int32) (v7 : Int32) (v8 : Int32) : Option (Unit × gD) :=
  kb d v1 v2 v3 v4 v5 v6 v7 (v8 + 1)
set_option maxRecDepth 100000 in
set_option maxHeartbeats 4000000 in
theorem w_R_listMethods_J140 {X : GX} (hE : gE X b_R_listMethods 9 "StandInMillModel" none "listMethods" 1 22) {S : gS} {o : Nat} {r : Unit} {d' : gD} {kb : gD → Int32 → Int32 → Int32 → Int32 → Int32 → Int32 → Int32 → Int32 → Option (Unit × gD)} {kx146 : gD → Int32 → Int32 → Int32 → Int32 → Int32 → Int32 → Int32 → Option (Unit × gD)} (hkb : ∀ (d : gD) (v1 : Int32) (v2 : Int32) (v3 : Int32) (v4 : Int32) (v5 : Int32) (v6 : Int32) (v7 : Int32) (v8 : Int32), kb d v1 v2 v3 v4 v5 v6 v7 v8 = some (r, d') → gw X 0 0 (gQ X (none) S d' 0 0) S d 110 [some (va_rf (some o)), some (.int v1), some (.int v2), some (.int v3), some (.int v4), some (.int v5), some (.int v6), some (.int v7), some (.int v8)] []) (hkx146 : ∀ (d : gD) (v1 : Int32) (v2 : Int32) (v3 : Int32) (v4 : Int32) (v5 : Int32) (v6 : Int32) (v7 : Int32), kx146 d v1 v2 v3 v4 v5 v6 v7 = some (r, d') → gw X 0 0 (gQ X (none) S d' 0 0) S d 146 [some (va_rf (some o)), some (.int v1), some (.int v2), some (.int v3), some (.int v4), some (.int v5), some (.int v6), some (.int v7), none] []) :
    ∀ (d : gD) (v1 : Int32) (v2 : Int32) (v3 : Int32) (v4 : Int32) (v5 : Int32) (v6 : Int32) (v7 : Int32) (v8 : Int32), f_R_listMethods_J140 S o kx146 kb d v1 v2 v3 v4 v5 v6 v7 v8 = some (r, d') → gw X 0 0 (gQ X (none) S d' 0 0) S d 140 [some (va_rf (some o)), some (.int v1), some (.int v2), some (.int v3), some (.int v4), some (.int v5), some (.int v6), some (.int v7), some (.int v8)] [] := by
  intro d v1 v2 v3 v4 v5 v6 v7 v8 h
  unfold f_R_listMethods_J140 at h
  refine g_iinc (i := 8) (lv' := [some (va_rf (some o)), some (.int v1), some (.int v2), some (.int v3), some (.int v4), some (.int v5), some (.int v6), some (.int v7), some (.int (v8 + 1))]) hE d_R_listMethods_140 ki_1 rfl (Nat.le_of_ble_eq_true rfl) ⟨rfl, Nat.le_of_ble_eq_true rfl⟩ (lvp_i rfl) ?_
  refine g_goto hE d_R_listMethods_143 ?_
  exact gw.less (lv' := [some (va_rf (some o)), some (.int v1), some (.int v2), some (.int v3), some (.int v4), some (.int v5), some (.int v6), some (.int v7), some (.int (v8 + 1))]) (And.intro rfl (And.intro rfl (And.intro rfl (And.intro rfl (And.intro rfl (And.intro rfl (And.intro rfl (And.intro rfl (And.intro rfl trivial))))))))) (hkb d v1 v2 v3 v4 v5 v6 v7 (v8 + 1) h)
def f_R_listMethods_B110 (S : gS) (o : Nat) (kx146 : gD → Int32 → Int32 → Int32 → Int32 → Int32 → Int32 → Int32 → Option (Unit × gD)) (kb : gD → Int32 → Int32 → Int32 → Int32 → Int32 → Int32 → Int32 → Int32 → Option (Unit × gD)) (d : gD) (v1 : Int32) (v2 : Int32) (v3 : Int32) (v4 : Int32) (v5 : Int32) (v6 : Int32) (v7 : Int32) (v8 : Int32) : Option (Unit × gD) :=
  kd S o 10 <|
  lt_ (sP S o 12) fun x2 =>
  nn x2 fun a3 =>
  kd S a3 50 <|
  gi v1 (sN S a3) <|
  lt_ (dI d a3 v1.toNatClampNeg) fun x6 =>
  if x6 ≤ v8 then (
    kx146 d v1 v2 v3 v4 v5 v6 v7)
  else (
    bd (f_R_sameSignature S d o ((6 * v1) + v8) v6) fun x7 =>
    if x7 = 0 then (
      f_R_listMethods_J140 S o kx146 kb d v1 v2 v3 v4 v5 v6 v7 v8)
    else (
      f_R_listMethods_J140 S o kx146 kb d v1 v2 v3 v4 v5 v6 1 v8))
set_option maxRecDepth 100000 in
set_option maxHeartbeats 4000000 in
theorem w_R_listMethods_B110 {X : GX} (hE : gE X b_R_listMethods 9 "StandInMillModel" none "listMethods" 1 22) {S : gS} {o : Nat} {r : Unit} {d' : gD} {kb : gD → Int32 → Int32 → Int32 → Int32 → Int32 → Int32 → Int32 → Int32 → Option (Unit × gD)} {kx146 : gD → Int32 → Int32 → Int32 → Int32 → Int32 → Int32 → Int32 → Option (Unit × gD)} (hkb : ∀ (d : gD) (v1 : Int32) (v2 : Int32) (v3 : Int32) (v4 : Int32) (v5 : Int32) (v6 : Int32) (v7 : Int32) (v8 : Int32), kb d v1 v2 v3 v4 v5 v6 v7 v8 = some (r, d') → gw X 0 0 (gQ X (none) S d' 0 0) S d 110 [some (va_rf (some o)), some (.int v1), some (.int v2), some (.int v3), some (.int v4), some (.int v5), some (.int v6), some (.int v7), some (.int v8)] []) (hkx146 : ∀ (d : gD) (v1 : Int32) (v2 : Int32) (v3 : Int32) (v4 : Int32) (v5 : Int32) (v6 : Int32) (v7 : Int32), kx146 d v1 v2 v3 v4 v5 v6 v7 = some (r, d') → gw X 0 0 (gQ X (none) S d' 0 0) S d 146 [some (va_rf (some o)), some (.int v1), some (.int v2), some (.int v3), some (.int v4), some (.int v5), some (.int v6), some (.int v7), none] []) :
    ∀ (d : gD) (v1 : Int32) (v2 : Int32) (v3 : Int32) (v4 : Int32) (v5 : Int32) (v6 : Int32) (v7 : Int32) (v8 : Int32), f_R_listMethods_B110 S o kx146 kb d v1 v2 v3 v4 v5 v6 v7 v8 = some (r, d') → gw X 0 0 (gQ X (none) S d' 0 0) S d 110 [some (va_rf (some o)), some (.int v1), some (.int v2), some (.int v3), some (.int v4), some (.int v5), some (.int v6), some (.int v7), some (.int v8)] [] := by
  intro d v1 v2 v3 v4 v5 v6 v7 v8 h
  unfold f_R_listMethods_B110 at h
  refine g_iload (i := 8) hE d_R_listMethods_110 rfl ?_
  refine g_aload_n (i := 0) hE d_R_listMethods_112 rfl rfl ?_
  obtain ⟨k1, h⟩ := kd_s h
  refine g_getR 12 hE kc_R k1 (Nat.le_of_ble_eq_true rfl) rfl m_389 d_R_listMethods_113 (fun x2 e => ?_)
  replace h := lt_i e h; clear e
  refine g_iload_n (i := 1) hE d_R_listMethods_116 rfl rfl ?_
  obtain ⟨a3, rfl, h⟩ := nn_s h
  obtain ⟨k4, h⟩ := kd_s h
  obtain ⟨g5, h⟩ := gi_s h
  refine g_iald hE k4 g5 d_R_listMethods_117 (fun x6 e => ?_)
  replace h := lt_i e h; clear e
  refine g_icmp_ge hE d_R_listMethods_118 (fun c10 => ?_) (fun c10 => ?_)
  · replace h := if_t c10 h
    exact gw.less (lv' := [some (va_rf (some o)), some (.int v1), some (.int v2), some (.int v3), some (.int v4), some (.int v5), some (.int v6), some (.int v7), none]) (And.intro rfl (And.intro rfl (And.intro rfl (And.intro rfl (And.intro rfl (And.intro rfl (And.intro rfl (And.intro rfl trivial)))))))) (hkx146 d v1 v2 v3 v4 v5 v6 v7 h)
  · replace h := if_f c10 h
    refine g_aload_n (i := 0) hE d_R_listMethods_121 rfl rfl ?_
    refine g_bipush hE d_R_listMethods_122 kb_6 ?_
    refine g_iload_n (i := 1) hE d_R_listMethods_124 rfl rfl ?_
    refine g_imul hE d_R_listMethods_125 ?_
    refine g_iload (i := 8) hE d_R_listMethods_126 rfl ?_
    refine g_iadd hE d_R_listMethods_128 ?_
    refine g_iload (i := 6) hE d_R_listMethods_129 rfl ?_
    obtain ⟨x7, e8, h⟩ := bd_s h
    refine g_callV (av := [.inr (.inr (some o)), .inl ((6 * v1) + v8), .inl v6]) (as := [.inl ((6 * v1) + v8), .inl v6]) (stk := [.int x7]) [] hE (c_R_sameSignature (xl X) (xG X) e8) ky_R_sameSignature ⟨Nat.le_of_ble_eq_true rfl, Nat.le_of_ble_eq_true rfl⟩ rfl kc_R k1 m_444 m_445 m_446 rfl d_R_listMethods_131 rfl rfl ct_0 (Nat.zero_le _) (Nat.zero_le _) ?_
    refine gw.cs (c2 := 0) (s2 := 0) rfl rfl ?_
    refine g_if_eq hE d_R_listMethods_134 (fun c9 => ?_) (fun c9 => ?_)
    · replace h := if_t c9 h
      exact gw.less (lv' := [some (va_rf (some o)), some (.int v1), some (.int v2), some (.int v3), some (.int v4), some (.int v5), some (.int v6), some (.int v7), some (.int v8)]) (And.intro rfl (And.intro rfl (And.intro rfl (And.intro rfl (And.intro rfl (And.intro rfl (And.intro rfl (And.intro rfl (And.intro rfl trivial))))))))) (w_R_listMethods_J140 hE hkb hkx146 d v1 v2 v3 v4 v5 v6 v7 v8 h)
    · replace h := if_f c9 h
      refine g_iconst hE d_R_listMethods_137 ki_1 ?_
      refine g_istore (i := 7) (lv' := [some (va_rf (some o)), some (.int v1), some (.int v2), some (.int v3), some (.int v4), some (.int v5), some (.int v6), some (.int 1), some (.int v8)]) hE d_R_listMethods_138 (Nat.le_of_ble_eq_true rfl) ⟨rfl, Nat.le_of_ble_eq_true rfl⟩ (lvp_i rfl) ?_
      exact gw.less (lv' := [some (va_rf (some o)), some (.int v1), some (.int v2), some (.int v3), some (.int v4), some (.int v5), some (.int v6), some (.int 1), some (.int v8)]) (And.intro rfl (And.intro rfl (And.intro rfl (And.intro rfl (And.intro rfl (And.intro rfl (And.intro rfl (And.intro rfl (And.intro rfl trivial))))))))) (w_R_listMethods_J140 hE hkb hkx146 d v1 v2 v3 v4 v5 v6 1 v8 h)
theorem w_R_listMethods_L110 {X : GX} (hE : gE X b_R_listMethods 9 "StandInMillModel" none "listMethods" 1 22) {S : gS} {o : Nat} {r : Unit} {d' : gD} {kx146 : gD → Int32 → Int32 → Int32 → Int32 → Int32 → Int32 → Int32 → Option (Unit × gD)} (hkx146 : ∀ (d : gD) (v1 : Int32) (v2 : Int32) (v3 : Int32) (v4 : Int32) (v5 : Int32) (v6 : Int32) (v7 : Int32), kx146 d v1 v2 v3 v4 v5 v6 v7 = some (r, d') → gw X 0 0 (gQ X (none) S d' 0 0) S d 146 [some (va_rf (some o)), some (.int v1), some (.int v2), some (.int v3), some (.int v4), some (.int v5), some (.int v6), some (.int v7), none] []) : ∀ (n : Nat) (d : gD) (v1 : Int32) (v2 : Int32) (v3 : Int32) (v4 : Int32) (v5 : Int32) (v6 : Int32) (v7 : Int32) (v8 : Int32), itr (f_R_listMethods_B110 S o kx146) (fun _ _ _ _ _ _ _ _ _ => none) n d v1 v2 v3 v4 v5 v6 v7 v8 = some (r, d') → gw X 0 0 (gQ X (none) S d' 0 0) S d 110 [some (va_rf (some o)), some (.int v1), some (.int v2), some (.int v3), some (.int v4), some (.int v5), some (.int v6), some (.int v7), some (.int v8)] [] := by
  intro n
  induction n with
  | zero => intro d v1 v2 v3 v4 v5 v6 v7 v8 h; cases h
  | succ n ih => exact w_R_listMethods_B110 hE ih hkx146
def f_R_listMethods_J175 (S : gS) (o : Nat) (kx181 : gD → Int32 → Int32 → Int32 → Int32 → Int32 → Int32 → Int32 → Option (Unit × gD)) (kb : gD → Int32 → Int32 → Int32 → Int32 → Int32 → Int32 → Int32 → Int32 → Option (Unit × gD)) (d : gD) (v1 : Int32) (v2 : Int32) (v3 : Int32) (v4 : Int32) (v5 : Int32) (v6 : Int32) (v7 : Int32) (v8 : Int32) : Option (Unit × gD) :=
  kb d v1 v2 v3 v4 v5 v6 v7 (v8 + 1)
set_option maxRecDepth 100000 in
set_option maxHeartbeats 4000000 in
theorem w_R_listMethods_J175 {X : GX} (hE : gE X b_R_listMethods 9 "StandInMillModel" none "listMethods" 1 22) {S : gS} {o : Nat} {r : Unit} {d' : gD} {kb : gD → Int32 → Int32 → Int32 → Int32 → Int32 → Int32 → Int32 → Int32 → Option (Unit × gD)} {kx181 : gD → Int32 → Int32 → Int32 → Int32 → Int32 → Int32 → Int32 → Option (Unit × gD)} (hkb : ∀ (d : gD) (v1 : Int32) (v2 : Int32) (v3 : Int32) (v4 : Int32) (v5 : Int32) (v6 : Int32) (v7 : Int32) (v8 : Int32), kb d v1 v2 v3 v4 v5 v6 v7 v8 = some (r, d') → gw X 0 0 (gQ X (none) S d' 0 0) S d 149 [some (va_rf (some o)), some (.int v1), some (.int v2), some (.int v3), some (.int v4), some (.int v5), some (.int v6), some (.int v7), some (.int v8)] []) (hkx181 : ∀ (d : gD) (v1 : Int32) (v2 : Int32) (v3 : Int32) (v4 : Int32) (v5 : Int32) (v6 : Int32) (v7 : Int32), kx181 d v1 v2 v3 v4 v5 v6 v7 = some (r, d') → gw X 0 0 (gQ X (none) S d' 0 0) S d 181 [some (va_rf (some o)), some (.int v1), some (.int v2), some (.int v3), some (.int v4), some (.int v5), some (.int v6), some (.int v7), none] []) :
    ∀ (d : gD) (v1 : Int32) (v2 : Int32) (v3 : Int32) (v4 : Int32) (v5 : Int32) (v6 : Int32) (v7 : Int32) (v8 : Int32), f_R_listMethods_J175 S o kx181 kb d v1 v2 v3 v4 v5 v6 v7 v8 = some (r, d') → gw X 0 0 (gQ X (none) S d' 0 0) S d 175 [some (va_rf (some o)), some (.int v1), some (.int v2), some (.int v3), some (.int v4), some (.int v5), some (.int v6), some (.int v7), some (.int v8)] [] := by
  intro d v1 v2 v3 v4 v5 v6 v7 v8 h
  unfold f_R_listMethods_J175 at h
  refine g_iinc (i := 8) (lv' := [some (va_rf (some o)), some (.int v1), some (.int v2), some (.int v3), some (.int v4), some (.int v5), some (.int v6), some (.int v7), some (.int (v8 + 1))]) hE d_R_listMethods_175 ki_1 rfl (Nat.le_of_ble_eq_true rfl) ⟨rfl, Nat.le_of_ble_eq_true rfl⟩ (lvp_i rfl) ?_
  refine g_goto hE d_R_listMethods_178 ?_
  exact gw.less (lv' := [some (va_rf (some o)), some (.int v1), some (.int v2), some (.int v3), some (.int v4), some (.int v5), some (.int v6), some (.int v7), some (.int (v8 + 1))]) (And.intro rfl (And.intro rfl (And.intro rfl (And.intro rfl (And.intro rfl (And.intro rfl (And.intro rfl (And.intro rfl (And.intro rfl trivial))))))))) (hkb d v1 v2 v3 v4 v5 v6 v7 (v8 + 1) h)
def f_R_listMethods_B149 (S : gS) (o : Nat) (kx181 : gD → Int32 → Int32 → Int32 → Int32 → Int32 → Int32 → Int32 → Option (Unit × gD)) (kb : gD → Int32 → Int32 → Int32 → Int32 → Int32 → Int32 → Int32 → Int32 → Option (Unit × gD)) (d : gD) (v1 : Int32) (v2 : Int32) (v3 : Int32) (v4 : Int32) (v5 : Int32) (v6 : Int32) (v7 : Int32) (v8 : Int32) : Option (Unit × gD) :=
  if v2 ≤ v8 then (
    kx181 d v1 v2 v3 v4 v5 v6 v7)
  else (
    kd S o 10 <|
    lt_ (sP S o 29) fun x2 =>
    nn x2 fun a3 =>
    kd S a3 50 <|
    gi ((72 * v1) + v8) (sN S a3) <|
    lt_ (dI d a3 ((72 * v1) + v8 : Int32).toNatClampNeg) fun x6 =>
    if x6 = v6 then (
      f_R_listMethods_J175 S o kx181 kb d v1 v2 v3 v4 v5 v6 1 v8)
    else (
      f_R_listMethods_J175 S o kx181 kb d v1 v2 v3 v4 v5 v6 v7 v8))
set_option maxRecDepth 100000 in
set_option maxHeartbeats 4000000 in
theorem w_R_listMethods_B149 {X : GX} (hE : gE X b_R_listMethods 9 "StandInMillModel" none "listMethods" 1 22) {S : gS} {o : Nat} {r : Unit} {d' : gD} {kb : gD → Int32 → Int32 → Int32 → Int32 → Int32 → Int32 → Int32 → Int32 → Option (Unit × gD)} {kx181 : gD → Int32 → Int32 → Int32 → Int32 → Int32 → Int32 → Int32 → Option (Unit × gD)} (hkb : ∀ (d : gD) (v1 : Int32) (v2 : Int32) (v3 : Int32) (v4 : Int32) (v5 : Int32) (v6 : Int32) (v7 : Int32) (v8 : Int32), kb d v1 v2 v3 v4 v5 v6 v7 v8 = some (r, d') → gw X 0 0 (gQ X (none) S d' 0 0) S d 149 [some (va_rf (some o)), some (.int v1), some (.int v2), some (.int v3), some (.int v4), some (.int v5), some (.int v6), some (.int v7), some (.int v8)] []) (hkx181 : ∀ (d : gD) (v1 : Int32) (v2 : Int32) (v3 : Int32) (v4 : Int32) (v5 : Int32) (v6 : Int32) (v7 : Int32), kx181 d v1 v2 v3 v4 v5 v6 v7 = some (r, d') → gw X 0 0 (gQ X (none) S d' 0 0) S d 181 [some (va_rf (some o)), some (.int v1), some (.int v2), some (.int v3), some (.int v4), some (.int v5), some (.int v6), some (.int v7), none] []) :
    ∀ (d : gD) (v1 : Int32) (v2 : Int32) (v3 : Int32) (v4 : Int32) (v5 : Int32) (v6 : Int32) (v7 : Int32) (v8 : Int32), f_R_listMethods_B149 S o kx181 kb d v1 v2 v3 v4 v5 v6 v7 v8 = some (r, d') → gw X 0 0 (gQ X (none) S d' 0 0) S d 149 [some (va_rf (some o)), some (.int v1), some (.int v2), some (.int v3), some (.int v4), some (.int v5), some (.int v6), some (.int v7), some (.int v8)] [] := by
  intro d v1 v2 v3 v4 v5 v6 v7 v8 h
  unfold f_R_listMethods_B149 at h
  refine g_iload (i := 8) hE d_R_listMethods_149 rfl ?_
  refine g_iload_n (i := 2) hE d_R_listMethods_151 rfl rfl ?_
  refine g_icmp_ge hE d_R_listMethods_152 (fun c8 => ?_) (fun c8 => ?_)
  · replace h := if_t c8 h
    exact gw.less (lv' := [some (va_rf (some o)), some (.int v1), some (.int v2), some (.int v3), some (.int v4), some (.int v5), some (.int v6), some (.int v7), none]) (And.intro rfl (And.intro rfl (And.intro rfl (And.intro rfl (And.intro rfl (And.intro rfl (And.intro rfl (And.intro rfl trivial)))))))) (hkx181 d v1 v2 v3 v4 v5 v6 v7 h)
  · replace h := if_f c8 h
    refine g_aload_n (i := 0) hE d_R_listMethods_155 rfl rfl ?_
    obtain ⟨k1, h⟩ := kd_s h
    refine g_getR 29 hE kc_R k1 (Nat.le_of_ble_eq_true rfl) rfl m_406 d_R_listMethods_156 (fun x2 e => ?_)
    replace h := lt_i e h; clear e
    refine g_bipush hE d_R_listMethods_159 kb_72 ?_
    refine g_iload_n (i := 1) hE d_R_listMethods_161 rfl rfl ?_
    refine g_imul hE d_R_listMethods_162 ?_
    refine g_iload (i := 8) hE d_R_listMethods_163 rfl ?_
    refine g_iadd hE d_R_listMethods_165 ?_
    obtain ⟨a3, rfl, h⟩ := nn_s h
    obtain ⟨k4, h⟩ := kd_s h
    obtain ⟨g5, h⟩ := gi_s h
    refine g_iald hE k4 g5 d_R_listMethods_166 (fun x6 e => ?_)
    replace h := lt_i e h; clear e
    refine g_iload (i := 6) hE d_R_listMethods_167 rfl ?_
    refine g_icmp_ne hE d_R_listMethods_169 (fun c7 => ?_) (fun c7 => ?_)
    · replace h := if_f c7 h
      exact gw.less (lv' := [some (va_rf (some o)), some (.int v1), some (.int v2), some (.int v3), some (.int v4), some (.int v5), some (.int v6), some (.int v7), some (.int v8)]) (And.intro rfl (And.intro rfl (And.intro rfl (And.intro rfl (And.intro rfl (And.intro rfl (And.intro rfl (And.intro rfl (And.intro rfl trivial))))))))) (w_R_listMethods_J175 hE hkb hkx181 d v1 v2 v3 v4 v5 v6 v7 v8 h)
    · replace h := if_t c7 h
      refine g_iconst hE d_R_listMethods_172 ki_1 ?_
      refine g_istore (i := 7) (lv' := [some (va_rf (some o)), some (.int v1), some (.int v2), some (.int v3), some (.int v4), some (.int v5), some (.int v6), some (.int 1), some (.int v8)]) hE d_R_listMethods_173 (Nat.le_of_ble_eq_true rfl) ⟨rfl, Nat.le_of_ble_eq_true rfl⟩ (lvp_i rfl) ?_
      exact gw.less (lv' := [some (va_rf (some o)), some (.int v1), some (.int v2), some (.int v3), some (.int v4), some (.int v5), some (.int v6), some (.int 1), some (.int v8)]) (And.intro rfl (And.intro rfl (And.intro rfl (And.intro rfl (And.intro rfl (And.intro rfl (And.intro rfl (And.intro rfl (And.intro rfl trivial))))))))) (w_R_listMethods_J175 hE hkb hkx181 d v1 v2 v3 v4 v5 v6 1 v8 h)
theorem w_R_listMethods_L149 {X : GX} (hE : gE X b_R_listMethods 9 "StandInMillModel" none "listMethods" 1 22) {S : gS} {o : Nat} {r : Unit} {d' : gD} {kx181 : gD → Int32 → Int32 → Int32 → Int32 → Int32 → Int32 → Int32 → Option (Unit × gD)} (hkx181 : ∀ (d : gD) (v1 : Int32) (v2 : Int32) (v3 : Int32) (v4 : Int32) (v5 : Int32) (v6 : Int32) (v7 : Int32), kx181 d v1 v2 v3 v4 v5 v6 v7 = some (r, d') → gw X 0 0 (gQ X (none) S d' 0 0) S d 181 [some (va_rf (some o)), some (.int v1), some (.int v2), some (.int v3), some (.int v4), some (.int v5), some (.int v6), some (.int v7), none] []) : ∀ (n : Nat) (d : gD) (v1 : Int32) (v2 : Int32) (v3 : Int32) (v4 : Int32) (v5 : Int32) (v6 : Int32) (v7 : Int32) (v8 : Int32), itr (f_R_listMethods_B149 S o kx181) (fun _ _ _ _ _ _ _ _ _ => none) n d v1 v2 v3 v4 v5 v6 v7 v8 = some (r, d') → gw X 0 0 (gQ X (none) S d' 0 0) S d 149 [some (va_rf (some o)), some (.int v1), some (.int v2), some (.int v3), some (.int v4), some (.int v5), some (.int v6), some (.int v7), some (.int v8)] [] := by
  intro n
  induction n with
  | zero => intro d v1 v2 v3 v4 v5 v6 v7 v8 h; cases h
  | succ n ih => exact w_R_listMethods_B149 hE ih hkx181
def f_R_listMethods_J202 (S : gS) (o : Nat) (kx208 : gD → Int32 → Int32 → Int32 → Option (Unit × gD)) (kb : gD → Int32 → Int32 → Int32 → Int32 → Int32 → Option (Unit × gD)) (d : gD) (v1 : Int32) (v2 : Int32) (v3 : Int32) (v4 : Int32) (v5 : Int32) : Option (Unit × gD) :=
  kb d v1 v2 v3 v4 (v5 + 1)
set_option maxRecDepth 100000 in
set_option maxHeartbeats 4000000 in
theorem w_R_listMethods_J202 {X : GX} (hE : gE X b_R_listMethods 9 "StandInMillModel" none "listMethods" 1 22) {S : gS} {o : Nat} {r : Unit} {d' : gD} {kb : gD → Int32 → Int32 → Int32 → Int32 → Int32 → Option (Unit × gD)} {kx208 : gD → Int32 → Int32 → Int32 → Option (Unit × gD)} (hkb : ∀ (d : gD) (v1 : Int32) (v2 : Int32) (v3 : Int32) (v4 : Int32) (v5 : Int32), kb d v1 v2 v3 v4 v5 = some (r, d') → gw X 0 0 (gQ X (none) S d' 0 0) S d 77 [some (va_rf (some o)), some (.int v1), some (.int v2), some (.int v3), some (.int v4), some (.int v5), none, none, none] []) (hkx208 : ∀ (d : gD) (v1 : Int32) (v2 : Int32) (v3 : Int32), kx208 d v1 v2 v3 = some (r, d') → gw X 0 0 (gQ X (none) S d' 0 0) S d 208 [some (va_rf (some o)), some (.int v1), some (.int v2), some (.int v3), none, none, none, none, none] []) :
    ∀ (d : gD) (v1 : Int32) (v2 : Int32) (v3 : Int32) (v4 : Int32) (v5 : Int32), f_R_listMethods_J202 S o kx208 kb d v1 v2 v3 v4 v5 = some (r, d') → gw X 0 0 (gQ X (none) S d' 0 0) S d 202 [some (va_rf (some o)), some (.int v1), some (.int v2), some (.int v3), some (.int v4), some (.int v5), none, none, none] [] := by
  intro d v1 v2 v3 v4 v5 h
  unfold f_R_listMethods_J202 at h
  refine g_iinc (i := 5) (lv' := [some (va_rf (some o)), some (.int v1), some (.int v2), some (.int v3), some (.int v4), some (.int (v5 + 1)), none, none, none]) hE d_R_listMethods_202 ki_1 rfl (Nat.le_of_ble_eq_true rfl) ⟨rfl, Nat.le_of_ble_eq_true rfl⟩ (lvp_i rfl) ?_
  refine g_goto hE d_R_listMethods_205 ?_
  exact gw.less (lv' := [some (va_rf (some o)), some (.int v1), some (.int v2), some (.int v3), some (.int v4), some (.int (v5 + 1)), none, none, none]) (And.intro rfl (And.intro rfl (And.intro rfl (And.intro rfl (And.intro rfl (And.intro rfl trivial)))))) (hkb d v1 v2 v3 v4 (v5 + 1) h)
def f_R_listMethods_J181 (S : gS) (o : Nat) (kx208 : gD → Int32 → Int32 → Int32 → Option (Unit × gD)) (kb : gD → Int32 → Int32 → Int32 → Int32 → Int32 → Option (Unit × gD)) (d : gD) (v1 : Int32) (v2 : Int32) (v3 : Int32) (v4 : Int32) (v5 : Int32) (v6 : Int32) (v7 : Int32) : Option (Unit × gD) :=
  if v7 = 0 then (
    kd S o 10 <|
    lt_ (sP S o 29) fun x2 =>
    nn x2 fun a3 =>
    kd S a3 50 <|
    gi ((72 * v1) + v2) (sN S a3) <|
    lt_ (wI d a3 ((72 * v1) + v2 : Int32).toNatClampNeg v6) fun d6 =>
    f_R_listMethods_J202 S o kx208 kb d6 v1 (v2 + 1) v3 v4 v5)
  else (
    f_R_listMethods_J202 S o kx208 kb d v1 v2 v3 v4 v5)
set_option maxRecDepth 100000 in
set_option maxHeartbeats 4000000 in
theorem w_R_listMethods_J181 {X : GX} (hE : gE X b_R_listMethods 9 "StandInMillModel" none "listMethods" 1 22) {S : gS} {o : Nat} {r : Unit} {d' : gD} {kb : gD → Int32 → Int32 → Int32 → Int32 → Int32 → Option (Unit × gD)} {kx208 : gD → Int32 → Int32 → Int32 → Option (Unit × gD)} (hkb : ∀ (d : gD) (v1 : Int32) (v2 : Int32) (v3 : Int32) (v4 : Int32) (v5 : Int32), kb d v1 v2 v3 v4 v5 = some (r, d') → gw X 0 0 (gQ X (none) S d' 0 0) S d 77 [some (va_rf (some o)), some (.int v1), some (.int v2), some (.int v3), some (.int v4), some (.int v5), none, none, none] []) (hkx208 : ∀ (d : gD) (v1 : Int32) (v2 : Int32) (v3 : Int32), kx208 d v1 v2 v3 = some (r, d') → gw X 0 0 (gQ X (none) S d' 0 0) S d 208 [some (va_rf (some o)), some (.int v1), some (.int v2), some (.int v3), none, none, none, none, none] []) :
    ∀ (d : gD) (v1 : Int32) (v2 : Int32) (v3 : Int32) (v4 : Int32) (v5 : Int32) (v6 : Int32) (v7 : Int32), f_R_listMethods_J181 S o kx208 kb d v1 v2 v3 v4 v5 v6 v7 = some (r, d') → gw X 0 0 (gQ X (none) S d' 0 0) S d 181 [some (va_rf (some o)), some (.int v1), some (.int v2), some (.int v3), some (.int v4), some (.int v5), some (.int v6), some (.int v7), none] [] := by
  intro d v1 v2 v3 v4 v5 v6 v7 h
  unfold f_R_listMethods_J181 at h
  refine g_iload (i := 7) hE d_R_listMethods_181 rfl ?_
  refine g_if_ne hE d_R_listMethods_183 (fun c7 => ?_) (fun c7 => ?_)
  · replace h := if_f c7 h
    exact gw.less (lv' := [some (va_rf (some o)), some (.int v1), some (.int v2), some (.int v3), some (.int v4), some (.int v5), none, none, none]) (And.intro rfl (And.intro rfl (And.intro rfl (And.intro rfl (And.intro rfl (And.intro rfl trivial)))))) (w_R_listMethods_J202 hE hkb hkx208 d v1 v2 v3 v4 v5 h)
  · replace h := if_t c7 h
    refine g_aload_n (i := 0) hE d_R_listMethods_186 rfl rfl ?_
    obtain ⟨k1, h⟩ := kd_s h
    refine g_getR 29 hE kc_R k1 (Nat.le_of_ble_eq_true rfl) rfl m_406 d_R_listMethods_187 (fun x2 e => ?_)
    replace h := lt_i e h; clear e
    refine g_bipush hE d_R_listMethods_190 kb_72 ?_
    refine g_iload_n (i := 1) hE d_R_listMethods_192 rfl rfl ?_
    refine g_imul hE d_R_listMethods_193 ?_
    refine g_iload_n (i := 2) hE d_R_listMethods_194 rfl rfl ?_
    refine g_iadd hE d_R_listMethods_195 ?_
    refine g_iload (i := 6) hE d_R_listMethods_196 rfl ?_
    obtain ⟨a3, rfl, h⟩ := nn_s h
    obtain ⟨k4, h⟩ := kd_s h
    obtain ⟨g5, h⟩ := gi_s h
    refine g_iast hE k4 g5 d_R_listMethods_198 (fun d6 e => ?_)
    replace h := lt_i e h; clear e
    refine g_iinc (i := 2) (lv' := [some (va_rf (some o)), some (.int v1), some (.int (v2 + 1)), some (.int v3), some (.int v4), some (.int v5), some (.int v6), some (.int v7), none]) hE d_R_listMethods_199 ki_1 rfl (Nat.le_of_ble_eq_true rfl) ⟨rfl, Nat.le_of_ble_eq_true rfl⟩ (lvp_i rfl) ?_
    exact gw.less (lv' := [some (va_rf (some o)), some (.int v1), some (.int (v2 + 1)), some (.int v3), some (.int v4), some (.int v5), none, none, none]) (And.intro rfl (And.intro rfl (And.intro rfl (And.intro rfl (And.intro rfl (And.intro rfl trivial)))))) (w_R_listMethods_J202 hE hkb hkx208 d6 v1 (v2 + 1) v3 v4 v5 h)
def f_R_listMethods_J146 (S : gS) (o : Nat) (kx208 : gD → Int32 → Int32 → Int32 → Option (Unit × gD)) (kb : gD → Int32 → Int32 → Int32 → Int32 → Int32 → Option (Unit × gD)) (d : gD) (v1 : Int32) (v2 : Int32) (v3 : Int32) (v4 : Int32) (v5 : Int32) (v6 : Int32) (v7 : Int32) : Option (Unit × gD) :=
  itr (f_R_listMethods_B149 S o (f_R_listMethods_J181 S o kx208 kb)) (fun _ _ _ _ _ _ _ _ _ => none) fu d v1 v2 v3 v4 v5 v6 v7 0
set_option maxRecDepth 100000 in
set_option maxHeartbeats 4000000 in
theorem w_R_listMethods_J146 {X : GX} (hE : gE X b_R_listMethods 9 "StandInMillModel" none "listMethods" 1 22) {S : gS} {o : Nat} {r : Unit} {d' : gD} {kb : gD → Int32 → Int32 → Int32 → Int32 → Int32 → Option (Unit × gD)} {kx208 : gD → Int32 → Int32 → Int32 → Option (Unit × gD)} (hkb : ∀ (d : gD) (v1 : Int32) (v2 : Int32) (v3 : Int32) (v4 : Int32) (v5 : Int32), kb d v1 v2 v3 v4 v5 = some (r, d') → gw X 0 0 (gQ X (none) S d' 0 0) S d 77 [some (va_rf (some o)), some (.int v1), some (.int v2), some (.int v3), some (.int v4), some (.int v5), none, none, none] []) (hkx208 : ∀ (d : gD) (v1 : Int32) (v2 : Int32) (v3 : Int32), kx208 d v1 v2 v3 = some (r, d') → gw X 0 0 (gQ X (none) S d' 0 0) S d 208 [some (va_rf (some o)), some (.int v1), some (.int v2), some (.int v3), none, none, none, none, none] []) :
    ∀ (d : gD) (v1 : Int32) (v2 : Int32) (v3 : Int32) (v4 : Int32) (v5 : Int32) (v6 : Int32) (v7 : Int32), f_R_listMethods_J146 S o kx208 kb d v1 v2 v3 v4 v5 v6 v7 = some (r, d') → gw X 0 0 (gQ X (none) S d' 0 0) S d 146 [some (va_rf (some o)), some (.int v1), some (.int v2), some (.int v3), some (.int v4), some (.int v5), some (.int v6), some (.int v7), none] [] := by
  intro d v1 v2 v3 v4 v5 v6 v7 h
  unfold f_R_listMethods_J146 at h
  refine g_iconst hE d_R_listMethods_146 ki_0 ?_
  refine g_istore (i := 8) (lv' := [some (va_rf (some o)), some (.int v1), some (.int v2), some (.int v3), some (.int v4), some (.int v5), some (.int v6), some (.int v7), some (.int 0)]) hE d_R_listMethods_147 (Nat.le_of_ble_eq_true rfl) ⟨rfl, Nat.le_of_ble_eq_true rfl⟩ (lvp_i rfl) ?_
  exact gw.less (lv' := [some (va_rf (some o)), some (.int v1), some (.int v2), some (.int v3), some (.int v4), some (.int v5), some (.int v6), some (.int v7), some (.int 0)]) (And.intro rfl (And.intro rfl (And.intro rfl (And.intro rfl (And.intro rfl (And.intro rfl (And.intro rfl (And.intro rfl (And.intro rfl trivial))))))))) (w_R_listMethods_L149 hE (w_R_listMethods_J181 hE hkb hkx208) fu d v1 v2 v3 v4 v5 v6 v7 0 h)
def f_R_listMethods_B77 (S : gS) (o : Nat) (kx208 : gD → Int32 → Int32 → Int32 → Option (Unit × gD)) (kb : gD → Int32 → Int32 → Int32 → Int32 → Int32 → Option (Unit × gD)) (d : gD) (v1 : Int32) (v2 : Int32) (v3 : Int32) (v4 : Int32) (v5 : Int32) : Option (Unit × gD) :=
  kd S o 10 <|
  lt_ (sP S o 30) fun x2 =>
  nn x2 fun a3 =>
  kd S a3 50 <|
  gi v4 (sN S a3) <|
  lt_ (dI d a3 v4.toNatClampNeg) fun x6 =>
  if x6 ≤ v5 then (
    kx208 d v1 v2 v3)
  else (
    lt_ (sP S o 29) fun x7 =>
    nn x7 fun a8 =>
    kd S a8 50 <|
    gi ((72 * v4) + v5) (sN S a8) <|
    lt_ (dI d a8 ((72 * v4) + v5 : Int32).toNatClampNeg) fun x11 =>
    itr (f_R_listMethods_B110 S o (f_R_listMethods_J146 S o kx208 kb)) (fun _ _ _ _ _ _ _ _ _ => none) fu d v1 v2 v3 v4 v5 x11 0 0)
set_option maxRecDepth 100000 in
set_option maxHeartbeats 4000000 in
theorem w_R_listMethods_B77 {X : GX} (hE : gE X b_R_listMethods 9 "StandInMillModel" none "listMethods" 1 22) {S : gS} {o : Nat} {r : Unit} {d' : gD} {kb : gD → Int32 → Int32 → Int32 → Int32 → Int32 → Option (Unit × gD)} {kx208 : gD → Int32 → Int32 → Int32 → Option (Unit × gD)} (hkb : ∀ (d : gD) (v1 : Int32) (v2 : Int32) (v3 : Int32) (v4 : Int32) (v5 : Int32), kb d v1 v2 v3 v4 v5 = some (r, d') → gw X 0 0 (gQ X (none) S d' 0 0) S d 77 [some (va_rf (some o)), some (.int v1), some (.int v2), some (.int v3), some (.int v4), some (.int v5), none, none, none] []) (hkx208 : ∀ (d : gD) (v1 : Int32) (v2 : Int32) (v3 : Int32), kx208 d v1 v2 v3 = some (r, d') → gw X 0 0 (gQ X (none) S d' 0 0) S d 208 [some (va_rf (some o)), some (.int v1), some (.int v2), some (.int v3), none, none, none, none, none] []) :
    ∀ (d : gD) (v1 : Int32) (v2 : Int32) (v3 : Int32) (v4 : Int32) (v5 : Int32), f_R_listMethods_B77 S o kx208 kb d v1 v2 v3 v4 v5 = some (r, d') → gw X 0 0 (gQ X (none) S d' 0 0) S d 77 [some (va_rf (some o)), some (.int v1), some (.int v2), some (.int v3), some (.int v4), some (.int v5), none, none, none] [] := by
  intro d v1 v2 v3 v4 v5 h
  unfold f_R_listMethods_B77 at h
  refine g_iload (i := 5) hE d_R_listMethods_77 rfl ?_
  refine g_aload_n (i := 0) hE d_R_listMethods_79 rfl rfl ?_
  obtain ⟨k1, h⟩ := kd_s h
  refine g_getR 30 hE kc_R k1 (Nat.le_of_ble_eq_true rfl) rfl m_407 d_R_listMethods_80 (fun x2 e => ?_)
  replace h := lt_i e h; clear e
  refine g_iload (i := 4) hE d_R_listMethods_83 rfl ?_
  obtain ⟨a3, rfl, h⟩ := nn_s h
  obtain ⟨k4, h⟩ := kd_s h
  obtain ⟨g5, h⟩ := gi_s h
  refine g_iald hE k4 g5 d_R_listMethods_85 (fun x6 e => ?_)
  replace h := lt_i e h; clear e
  refine g_icmp_ge hE d_R_listMethods_86 (fun c12 => ?_) (fun c12 => ?_)
  · replace h := if_t c12 h
    exact gw.less (lv' := [some (va_rf (some o)), some (.int v1), some (.int v2), some (.int v3), none, none, none, none, none]) (And.intro rfl (And.intro rfl (And.intro rfl (And.intro rfl trivial)))) (hkx208 d v1 v2 v3 h)
  · replace h := if_f c12 h
    refine g_aload_n (i := 0) hE d_R_listMethods_89 rfl rfl ?_
    refine g_getR 29 hE kc_R k1 (Nat.le_of_ble_eq_true rfl) rfl m_406 d_R_listMethods_90 (fun x7 e => ?_)
    replace h := lt_i e h; clear e
    refine g_bipush hE d_R_listMethods_93 kb_72 ?_
    refine g_iload (i := 4) hE d_R_listMethods_95 rfl ?_
    refine g_imul hE d_R_listMethods_97 ?_
    refine g_iload (i := 5) hE d_R_listMethods_98 rfl ?_
    refine g_iadd hE d_R_listMethods_100 ?_
    obtain ⟨a8, rfl, h⟩ := nn_s h
    obtain ⟨k9, h⟩ := kd_s h
    obtain ⟨g10, h⟩ := gi_s h
    refine g_iald hE k9 g10 d_R_listMethods_101 (fun x11 e => ?_)
    replace h := lt_i e h; clear e
    refine g_istore (i := 6) (lv' := [some (va_rf (some o)), some (.int v1), some (.int v2), some (.int v3), some (.int v4), some (.int v5), some (.int x11), none, none]) hE d_R_listMethods_102 (Nat.le_of_ble_eq_true rfl) ⟨rfl, Nat.le_of_ble_eq_true rfl⟩ (lvp_i rfl) ?_
    refine g_iconst hE d_R_listMethods_104 ki_0 ?_
    refine g_istore (i := 7) (lv' := [some (va_rf (some o)), some (.int v1), some (.int v2), some (.int v3), some (.int v4), some (.int v5), some (.int x11), some (.int 0), none]) hE d_R_listMethods_105 (Nat.le_of_ble_eq_true rfl) ⟨rfl, Nat.le_of_ble_eq_true rfl⟩ (lvp_i rfl) ?_
    refine g_iconst hE d_R_listMethods_107 ki_0 ?_
    refine g_istore (i := 8) (lv' := [some (va_rf (some o)), some (.int v1), some (.int v2), some (.int v3), some (.int v4), some (.int v5), some (.int x11), some (.int 0), some (.int 0)]) hE d_R_listMethods_108 (Nat.le_of_ble_eq_true rfl) ⟨rfl, Nat.le_of_ble_eq_true rfl⟩ (lvp_i rfl) ?_
    exact gw.less (lv' := [some (va_rf (some o)), some (.int v1), some (.int v2), some (.int v3), some (.int v4), some (.int v5), some (.int x11), some (.int 0), some (.int 0)]) (And.intro rfl (And.intro rfl (And.intro rfl (And.intro rfl (And.intro rfl (And.intro rfl (And.intro rfl (And.intro rfl (And.intro rfl trivial))))))))) (w_R_listMethods_L110 hE (w_R_listMethods_J146 hE hkb hkx208) fu d v1 v2 v3 v4 v5 x11 0 0 h)
theorem w_R_listMethods_L77 {X : GX} (hE : gE X b_R_listMethods 9 "StandInMillModel" none "listMethods" 1 22) {S : gS} {o : Nat} {r : Unit} {d' : gD} {kx208 : gD → Int32 → Int32 → Int32 → Option (Unit × gD)} (hkx208 : ∀ (d : gD) (v1 : Int32) (v2 : Int32) (v3 : Int32), kx208 d v1 v2 v3 = some (r, d') → gw X 0 0 (gQ X (none) S d' 0 0) S d 208 [some (va_rf (some o)), some (.int v1), some (.int v2), some (.int v3), none, none, none, none, none] []) : ∀ (n : Nat) (d : gD) (v1 : Int32) (v2 : Int32) (v3 : Int32) (v4 : Int32) (v5 : Int32), itr (f_R_listMethods_B77 S o kx208) (fun _ _ _ _ _ _ => none) n d v1 v2 v3 v4 v5 = some (r, d') → gw X 0 0 (gQ X (none) S d' 0 0) S d 77 [some (va_rf (some o)), some (.int v1), some (.int v2), some (.int v3), some (.int v4), some (.int v5), none, none, none] [] := by
  intro n
  induction n with
  | zero => intro d v1 v2 v3 v4 v5 h; cases h
  | succ n ih => exact w_R_listMethods_B77 hE ih hkx208
def f_R_listMethods_J208 (S : gS) (o : Nat) (kx214 : gD → Int32 → Int32 → Option (Unit × gD)) (kb : gD → Int32 → Int32 → Int32 → Option (Unit × gD)) (d : gD) (v1 : Int32) (v2 : Int32) (v3 : Int32) : Option (Unit × gD) :=
  kb d v1 v2 (v3 + 1)
set_option maxRecDepth 100000 in
set_option maxHeartbeats 4000000 in
theorem w_R_listMethods_J208 {X : GX} (hE : gE X b_R_listMethods 9 "StandInMillModel" none "listMethods" 1 22) {S : gS} {o : Nat} {r : Unit} {d' : gD} {kb : gD → Int32 → Int32 → Int32 → Option (Unit × gD)} {kx214 : gD → Int32 → Int32 → Option (Unit × gD)} (hkb : ∀ (d : gD) (v1 : Int32) (v2 : Int32) (v3 : Int32), kb d v1 v2 v3 = some (r, d') → gw X 0 0 (gQ X (none) S d' 0 0) S d 52 [some (va_rf (some o)), some (.int v1), some (.int v2), some (.int v3), none, none, none, none, none] []) (hkx214 : ∀ (d : gD) (v1 : Int32) (v2 : Int32), kx214 d v1 v2 = some (r, d') → gw X 0 0 (gQ X (none) S d' 0 0) S d 214 [some (va_rf (some o)), some (.int v1), some (.int v2), none, none, none, none, none, none] []) :
    ∀ (d : gD) (v1 : Int32) (v2 : Int32) (v3 : Int32), f_R_listMethods_J208 S o kx214 kb d v1 v2 v3 = some (r, d') → gw X 0 0 (gQ X (none) S d' 0 0) S d 208 [some (va_rf (some o)), some (.int v1), some (.int v2), some (.int v3), none, none, none, none, none] [] := by
  intro d v1 v2 v3 h
  unfold f_R_listMethods_J208 at h
  refine g_iinc (i := 3) (lv' := [some (va_rf (some o)), some (.int v1), some (.int v2), some (.int (v3 + 1)), none, none, none, none, none]) hE d_R_listMethods_208 ki_1 rfl (Nat.le_of_ble_eq_true rfl) ⟨rfl, Nat.le_of_ble_eq_true rfl⟩ (lvp_i rfl) ?_
  refine g_goto hE d_R_listMethods_211 ?_
  exact gw.less (lv' := [some (va_rf (some o)), some (.int v1), some (.int v2), some (.int (v3 + 1)), none, none, none, none, none]) (And.intro rfl (And.intro rfl (And.intro rfl (And.intro rfl trivial)))) (hkb d v1 v2 (v3 + 1) h)
def f_R_listMethods_B52 (S : gS) (o : Nat) (kx214 : gD → Int32 → Int32 → Option (Unit × gD)) (kb : gD → Int32 → Int32 → Int32 → Option (Unit × gD)) (d : gD) (v1 : Int32) (v2 : Int32) (v3 : Int32) : Option (Unit × gD) :=
  kd S o 10 <|
  lt_ (sP S o 11) fun x2 =>
  nn x2 fun a3 =>
  kd S a3 50 <|
  gi v1 (sN S a3) <|
  lt_ (dI d a3 v1.toNatClampNeg) fun x6 =>
  if x6 ≤ v3 then (
    kx214 d v1 v2)
  else (
    lt_ (sP S o 10) fun x7 =>
    nn x7 fun a8 =>
    kd S a8 50 <|
    gi ((2 * v1) + v3) (sN S a8) <|
    lt_ (dI d a8 ((2 * v1) + v3 : Int32).toNatClampNeg) fun x11 =>
    itr (f_R_listMethods_B77 S o (f_R_listMethods_J208 S o kx214 kb)) (fun _ _ _ _ _ _ => none) fu d v1 v2 v3 x11 0)
set_option maxRecDepth 100000 in
set_option maxHeartbeats 4000000 in
theorem w_R_listMethods_B52 {X : GX} (hE : gE X b_R_listMethods 9 "StandInMillModel" none "listMethods" 1 22) {S : gS} {o : Nat} {r : Unit} {d' : gD} {kb : gD → Int32 → Int32 → Int32 → Option (Unit × gD)} {kx214 : gD → Int32 → Int32 → Option (Unit × gD)} (hkb : ∀ (d : gD) (v1 : Int32) (v2 : Int32) (v3 : Int32), kb d v1 v2 v3 = some (r, d') → gw X 0 0 (gQ X (none) S d' 0 0) S d 52 [some (va_rf (some o)), some (.int v1), some (.int v2), some (.int v3), none, none, none, none, none] []) (hkx214 : ∀ (d : gD) (v1 : Int32) (v2 : Int32), kx214 d v1 v2 = some (r, d') → gw X 0 0 (gQ X (none) S d' 0 0) S d 214 [some (va_rf (some o)), some (.int v1), some (.int v2), none, none, none, none, none, none] []) :
    ∀ (d : gD) (v1 : Int32) (v2 : Int32) (v3 : Int32), f_R_listMethods_B52 S o kx214 kb d v1 v2 v3 = some (r, d') → gw X 0 0 (gQ X (none) S d' 0 0) S d 52 [some (va_rf (some o)), some (.int v1), some (.int v2), some (.int v3), none, none, none, none, none] [] := by
  intro d v1 v2 v3 h
  unfold f_R_listMethods_B52 at h
  refine g_iload_n (i := 3) hE d_R_listMethods_52 rfl rfl ?_
  refine g_aload_n (i := 0) hE d_R_listMethods_53 rfl rfl ?_
  obtain ⟨k1, h⟩ := kd_s h
  refine g_getR 11 hE kc_R k1 (Nat.le_of_ble_eq_true rfl) rfl m_388 d_R_listMethods_54 (fun x2 e => ?_)
  replace h := lt_i e h; clear e
  refine g_iload_n (i := 1) hE d_R_listMethods_57 rfl rfl ?_
  obtain ⟨a3, rfl, h⟩ := nn_s h
  obtain ⟨k4, h⟩ := kd_s h
  obtain ⟨g5, h⟩ := gi_s h
  refine g_iald hE k4 g5 d_R_listMethods_58 (fun x6 e => ?_)
  replace h := lt_i e h; clear e
  refine g_icmp_ge hE d_R_listMethods_59 (fun c12 => ?_) (fun c12 => ?_)
  · replace h := if_t c12 h
    exact gw.less (lv' := [some (va_rf (some o)), some (.int v1), some (.int v2), none, none, none, none, none, none]) (And.intro rfl (And.intro rfl (And.intro rfl trivial))) (hkx214 d v1 v2 h)
  · replace h := if_f c12 h
    refine g_aload_n (i := 0) hE d_R_listMethods_62 rfl rfl ?_
    refine g_getR 10 hE kc_R k1 (Nat.le_of_ble_eq_true rfl) rfl m_387 d_R_listMethods_63 (fun x7 e => ?_)
    replace h := lt_i e h; clear e
    refine g_iconst hE d_R_listMethods_66 ki_2 ?_
    refine g_iload_n (i := 1) hE d_R_listMethods_67 rfl rfl ?_
    refine g_imul hE d_R_listMethods_68 ?_
    refine g_iload_n (i := 3) hE d_R_listMethods_69 rfl rfl ?_
    refine g_iadd hE d_R_listMethods_70 ?_
    obtain ⟨a8, rfl, h⟩ := nn_s h
    obtain ⟨k9, h⟩ := kd_s h
    obtain ⟨g10, h⟩ := gi_s h
    refine g_iald hE k9 g10 d_R_listMethods_71 (fun x11 e => ?_)
    replace h := lt_i e h; clear e
    refine g_istore (i := 4) (lv' := [some (va_rf (some o)), some (.int v1), some (.int v2), some (.int v3), some (.int x11), none, none, none, none]) hE d_R_listMethods_72 (Nat.le_of_ble_eq_true rfl) ⟨rfl, Nat.le_of_ble_eq_true rfl⟩ (lvp_i rfl) ?_
    refine g_iconst hE d_R_listMethods_74 ki_0 ?_
    refine g_istore (i := 5) (lv' := [some (va_rf (some o)), some (.int v1), some (.int v2), some (.int v3), some (.int x11), some (.int 0), none, none, none]) hE d_R_listMethods_75 (Nat.le_of_ble_eq_true rfl) ⟨rfl, Nat.le_of_ble_eq_true rfl⟩ (lvp_i rfl) ?_
    exact gw.less (lv' := [some (va_rf (some o)), some (.int v1), some (.int v2), some (.int v3), some (.int x11), some (.int 0), none, none, none]) (And.intro rfl (And.intro rfl (And.intro rfl (And.intro rfl (And.intro rfl (And.intro rfl trivial)))))) (w_R_listMethods_L77 hE (w_R_listMethods_J208 hE hkb hkx214) fu d v1 v2 v3 x11 0 h)
theorem w_R_listMethods_L52 {X : GX} (hE : gE X b_R_listMethods 9 "StandInMillModel" none "listMethods" 1 22) {S : gS} {o : Nat} {r : Unit} {d' : gD} {kx214 : gD → Int32 → Int32 → Option (Unit × gD)} (hkx214 : ∀ (d : gD) (v1 : Int32) (v2 : Int32), kx214 d v1 v2 = some (r, d') → gw X 0 0 (gQ X (none) S d' 0 0) S d 214 [some (va_rf (some o)), some (.int v1), some (.int v2), none, none, none, none, none, none] []) : ∀ (n : Nat) (d : gD) (v1 : Int32) (v2 : Int32) (v3 : Int32), itr (f_R_listMethods_B52 S o kx214) (fun _ _ _ _ => none) n d v1 v2 v3 = some (r, d') → gw X 0 0 (gQ X (none) S d' 0 0) S d 52 [some (va_rf (some o)), some (.int v1), some (.int v2), some (.int v3), none, none, none, none, none] [] := by
  intro n
  induction n with
  | zero => intro d v1 v2 v3 h; cases h
  | succ n ih => exact w_R_listMethods_B52 hE ih hkx214
def f_R_listMethods_J214 (S : gS) (o : Nat) (kb : gD → Int32 → Option (Unit × gD)) (d : gD) (v1 : Int32) (v2 : Int32) : Option (Unit × gD) :=
  kd S o 10 <|
  lt_ (sP S o 30) fun x2 =>
  nn x2 fun a3 =>
  kd S a3 50 <|
  gi v1 (sN S a3) <|
  lt_ (wI d a3 v1.toNatClampNeg v2) fun d6 =>
  kb d6 (v1 + 1)
set_option maxRecDepth 100000 in
set_option maxHeartbeats 4000000 in
theorem w_R_listMethods_J214 {X : GX} (hE : gE X b_R_listMethods 9 "StandInMillModel" none "listMethods" 1 22) {S : gS} {o : Nat} {r : Unit} {d' : gD} {kb : gD → Int32 → Option (Unit × gD)} (hkb : ∀ (d : gD) (v1 : Int32), kb d v1 = some (r, d') → gw X 0 0 (gQ X (none) S d' 0 0) S d 2 [some (va_rf (some o)), some (.int v1), none, none, none, none, none, none, none] []) :
    ∀ (d : gD) (v1 : Int32) (v2 : Int32), f_R_listMethods_J214 S o kb d v1 v2 = some (r, d') → gw X 0 0 (gQ X (none) S d' 0 0) S d 214 [some (va_rf (some o)), some (.int v1), some (.int v2), none, none, none, none, none, none] [] := by
  intro d v1 v2 h
  unfold f_R_listMethods_J214 at h
  refine g_aload_n (i := 0) hE d_R_listMethods_214 rfl rfl ?_
  obtain ⟨k1, h⟩ := kd_s h
  refine g_getR 30 hE kc_R k1 (Nat.le_of_ble_eq_true rfl) rfl m_407 d_R_listMethods_215 (fun x2 e => ?_)
  replace h := lt_i e h; clear e
  refine g_iload_n (i := 1) hE d_R_listMethods_218 rfl rfl ?_
  refine g_iload_n (i := 2) hE d_R_listMethods_219 rfl rfl ?_
  obtain ⟨a3, rfl, h⟩ := nn_s h
  obtain ⟨k4, h⟩ := kd_s h
  obtain ⟨g5, h⟩ := gi_s h
  refine g_iast hE k4 g5 d_R_listMethods_220 (fun d6 e => ?_)
  replace h := lt_i e h; clear e
  refine g_iinc (i := 1) (lv' := [some (va_rf (some o)), some (.int (v1 + 1)), some (.int v2), none, none, none, none, none, none]) hE d_R_listMethods_221 ki_1 rfl (Nat.le_of_ble_eq_true rfl) ⟨rfl, Nat.le_of_ble_eq_true rfl⟩ (lvp_r rfl) ?_
  refine g_goto hE d_R_listMethods_224 ?_
  exact gw.less (lv' := [some (va_rf (some o)), some (.int (v1 + 1)), none, none, none, none, none, none, none]) (And.intro rfl (And.intro rfl trivial)) (hkb d6 (v1 + 1) h)
def f_R_listMethods_J50 (S : gS) (o : Nat) (kb : gD → Int32 → Option (Unit × gD)) (d : gD) (v1 : Int32) (v2 : Int32) : Option (Unit × gD) :=
  itr (f_R_listMethods_B52 S o (f_R_listMethods_J214 S o kb)) (fun _ _ _ _ => none) fu d v1 v2 0
set_option maxRecDepth 100000 in
set_option maxHeartbeats 4000000 in
theorem w_R_listMethods_J50 {X : GX} (hE : gE X b_R_listMethods 9 "StandInMillModel" none "listMethods" 1 22) {S : gS} {o : Nat} {r : Unit} {d' : gD} {kb : gD → Int32 → Option (Unit × gD)} (hkb : ∀ (d : gD) (v1 : Int32), kb d v1 = some (r, d') → gw X 0 0 (gQ X (none) S d' 0 0) S d 2 [some (va_rf (some o)), some (.int v1), none, none, none, none, none, none, none] []) :
    ∀ (d : gD) (v1 : Int32) (v2 : Int32), f_R_listMethods_J50 S o kb d v1 v2 = some (r, d') → gw X 0 0 (gQ X (none) S d' 0 0) S d 50 [some (va_rf (some o)), some (.int v1), some (.int v2), none, none, none, none, none, none] [] := by
  intro d v1 v2 h
  unfold f_R_listMethods_J50 at h
  refine g_iconst hE d_R_listMethods_50 ki_0 ?_
  refine g_istore_n (i := 3) (lv' := [some (va_rf (some o)), some (.int v1), some (.int v2), some (.int 0), none, none, none, none, none]) hE d_R_listMethods_51 rfl (Nat.le_of_ble_eq_true rfl) ⟨rfl, Nat.le_of_ble_eq_true rfl⟩ (lvp_i rfl) ?_
  exact gw.less (lv' := [some (va_rf (some o)), some (.int v1), some (.int v2), some (.int 0), none, none, none, none, none]) (And.intro rfl (And.intro rfl (And.intro rfl (And.intro rfl trivial)))) (w_R_listMethods_L52 hE (w_R_listMethods_J214 hE hkb) fu d v1 v2 0 h)
def f_R_listMethods_B2 (S : gS) (o : Nat) (kb : gD → Int32 → Option (Unit × gD)) (d : gD) (v1 : Int32) : Option (Unit × gD) :=
  kd S o 10 <|
  lt_ (dI d o 5) fun x2 =>
  if x2 ≤ v1 then (
    some ((), d))
  else (
    itr (f_R_listMethods_B14 S o (f_R_listMethods_J50 S o kb)) (fun _ _ _ _ => none) fu d v1 0 0)
set_option maxRecDepth 100000 in
set_option maxHeartbeats 4000000 in
theorem w_R_listMethods_B2 {X : GX} (hE : gE X b_R_listMethods 9 "StandInMillModel" none "listMethods" 1 22) {S : gS} {o : Nat} {r : Unit} {d' : gD} {kb : gD → Int32 → Option (Unit × gD)} (hkb : ∀ (d : gD) (v1 : Int32), kb d v1 = some (r, d') → gw X 0 0 (gQ X (none) S d' 0 0) S d 2 [some (va_rf (some o)), some (.int v1), none, none, none, none, none, none, none] []) :
    ∀ (d : gD) (v1 : Int32), f_R_listMethods_B2 S o kb d v1 = some (r, d') → gw X 0 0 (gQ X (none) S d' 0 0) S d 2 [some (va_rf (some o)), some (.int v1), none, none, none, none, none, none, none] [] := by
  intro d v1 h
  unfold f_R_listMethods_B2 at h
  refine g_iload_n (i := 1) hE d_R_listMethods_2 rfl rfl ?_
  refine g_aload_n (i := 0) hE d_R_listMethods_3 rfl rfl ?_
  obtain ⟨k1, h⟩ := kd_s h
  refine g_getI 5 hE kc_R k1 (Nat.le_of_ble_eq_true rfl) rfl m_381 d_R_listMethods_4 (fun x2 e => ?_)
  replace h := lt_i e h; clear e
  refine g_icmp_ge hE d_R_listMethods_7 (fun c3 => ?_) (fun c3 => ?_)
  · replace h := if_t c3 h
    cases h
    exact g_vret hE d_R_listMethods_227 rfl rfl
  · replace h := if_f c3 h
    refine g_iconst hE d_R_listMethods_10 ki_0 ?_
    refine g_istore_n (i := 2) (lv' := [some (va_rf (some o)), some (.int v1), some (.int 0), none, none, none, none, none, none]) hE d_R_listMethods_11 rfl (Nat.le_of_ble_eq_true rfl) ⟨rfl, Nat.le_of_ble_eq_true rfl⟩ (lvp_i rfl) ?_
    refine g_iconst hE d_R_listMethods_12 ki_0 ?_
    refine g_istore_n (i := 3) (lv' := [some (va_rf (some o)), some (.int v1), some (.int 0), some (.int 0), none, none, none, none, none]) hE d_R_listMethods_13 rfl (Nat.le_of_ble_eq_true rfl) ⟨rfl, Nat.le_of_ble_eq_true rfl⟩ (lvp_i rfl) ?_
    exact gw.less (lv' := [some (va_rf (some o)), some (.int v1), some (.int 0), some (.int 0), none, none, none, none, none]) (And.intro rfl (And.intro rfl (And.intro rfl (And.intro rfl trivial)))) (w_R_listMethods_L14 hE (w_R_listMethods_J50 hE hkb) fu d v1 0 0 h)
theorem w_R_listMethods_L2 {X : GX} (hE : gE X b_R_listMethods 9 "StandInMillModel" none "listMethods" 1 22) {S : gS} {o : Nat} {r : Unit} {d' : gD} : ∀ (n : Nat) (d : gD) (v1 : Int32), itr (f_R_listMethods_B2 S o) (fun _ _ => none) n d v1 = some (r, d') → gw X 0 0 (gQ X (none) S d' 0 0) S d 2 [some (va_rf (some o)), some (.int v1), none, none, none, none, none, none, none] [] := by
  intro n
  induction n with
  | zero => intro d v1 h; cases h
  | succ n ih => exact w_R_listMethods_B2 hE ih
set_option maxRecDepth 100000 in
def f_R_listMethods (S : gS) (d : gD) (o : Nat) : Option (Unit × gD) :=
  itr (f_R_listMethods_B2 S o) (fun _ _ => none) fu d 0
set_option maxRecDepth 100000 in
set_option maxHeartbeats 4000000 in
theorem c_R_listMethods (l : Launch) (G : gG) {S : gS} {d : gD} {o : Nat} {r : Unit} {d' : gD} (h : f_R_listMethods S d o = some (r, d')) : GM l G y_R_listMethods b_R_listMethods 9 none 1 22 0 0 [.inr (.inr (some o))] S d (none) S d' := by
  refine GM.of (by decide) (Nat.le_of_ble_eq_true rfl) ?_
  intro X hl0 hG0 hR0 hE0
  have hE : gE X b_R_listMethods 9 "StandInMillModel" none "listMethods" 1 22 := hE0
  unfold f_R_listMethods at h
  refine gw.less (lv' := [some (va_rf (some o)), none, none, none, none, none, none, none, none]) (And.intro rfl trivial) ?_
  refine g_iconst hE d_R_listMethods_0 ki_0 ?_
  refine g_istore_n (i := 1) (lv' := [some (va_rf (some o)), some (.int 0), none, none, none, none, none, none, none]) hE d_R_listMethods_1 rfl (Nat.le_of_ble_eq_true rfl) ⟨rfl, Nat.le_of_ble_eq_true rfl⟩ (lvp_r rfl) ?_
  exact gw.less (lv' := [some (va_rf (some o)), some (.int 0), none, none, none, none, none, none, none]) (And.intro rfl (And.intro rfl trivial)) (w_R_listMethods_L2 hE fu d 0 h)
