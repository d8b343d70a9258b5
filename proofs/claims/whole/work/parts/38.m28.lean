theorem d_R_faultOf_0 : dc b_R_faultOf 0 (.iconst 4) 1 1 := ⟨by decide +kernel, rfl⟩
theorem d_R_faultOf_1 : dc b_R_faultOf 1 (.istore_n 3) 1 2 := ⟨by decide +kernel, rfl⟩
theorem d_R_faultOf_2 : dc b_R_faultOf 2 (.iconst 0) 1 3 := ⟨by decide +kernel, rfl⟩
theorem d_R_faultOf_3 : dc b_R_faultOf 3 (.istore 4) 2 5 := ⟨by decide +kernel, rfl⟩
theorem d_R_faultOf_5 : dc b_R_faultOf 5 (.iconst 0) 1 6 := ⟨by decide +kernel, rfl⟩
theorem d_R_faultOf_6 : dc b_R_faultOf 6 (.istore 5) 2 8 := ⟨by decide +kernel, rfl⟩
theorem d_R_faultOf_8 : dc b_R_faultOf 8 (.iconst 0) 1 9 := ⟨by decide +kernel, rfl⟩
theorem d_R_faultOf_9 : dc b_R_faultOf 9 (.istore 6) 2 11 := ⟨by decide +kernel, rfl⟩
theorem d_R_faultOf_11 : dc b_R_faultOf 11 (.iload 6) 2 13 := ⟨by decide +kernel, rfl⟩
theorem d_R_faultOf_13 : dc b_R_faultOf 13 (.bipush 32) 2 15 := ⟨by decide +kernel, rfl⟩
theorem d_R_faultOf_15 : db b_R_faultOf 15 (.if_icmp .ge 117) 117 132 18 := ⟨by decide +kernel, by decide, rfl⟩
theorem d_R_faultOf_18 : dc b_R_faultOf 18 (.iload_n 2) 1 19 := ⟨by decide +kernel, rfl⟩
theorem d_R_faultOf_19 : dc b_R_faultOf 19 (.iload 6) 2 21 := ⟨by decide +kernel, rfl⟩
theorem d_R_faultOf_21 : dc b_R_faultOf 21 (.ishr) 1 22 := ⟨by decide +kernel, rfl⟩
theorem d_R_faultOf_22 : dc b_R_faultOf 22 (.sipush 255) 3 25 := ⟨by decide +kernel, rfl⟩
theorem d_R_faultOf_25 : dc b_R_faultOf 25 (.iand) 1 26 := ⟨by decide +kernel, rfl⟩
theorem d_R_faultOf_26 : db b_R_faultOf 26 (.ifCond .eq 106) 106 132 29 := ⟨by decide +kernel, by decide, rfl⟩
theorem d_R_faultOf_29 : dc b_R_faultOf 29 (.iload_n 2) 1 30 := ⟨by decide +kernel, rfl⟩
theorem d_R_faultOf_30 : dc b_R_faultOf 30 (.iload 6) 2 32 := ⟨by decide +kernel, rfl⟩
theorem d_R_faultOf_32 : dc b_R_faultOf 32 (.ishr) 1 33 := ⟨by decide +kernel, rfl⟩
theorem d_R_faultOf_33 : dc b_R_faultOf 33 (.sipush 255) 3 36 := ⟨by decide +kernel, rfl⟩
theorem d_R_faultOf_36 : dc b_R_faultOf 36 (.iand) 1 37 := ⟨by decide +kernel, rfl⟩
theorem d_R_faultOf_37 : dc b_R_faultOf 37 (.bipush 24) 2 39 := ⟨by decide +kernel, rfl⟩
theorem d_R_faultOf_39 : dc b_R_faultOf 39 (.isub) 1 40 := ⟨by decide +kernel, rfl⟩
theorem d_R_faultOf_40 : dc b_R_faultOf 40 (.istore 7) 2 42 := ⟨by decide +kernel, rfl⟩
theorem d_R_faultOf_42 : dc b_R_faultOf 42 (.aload_n 0) 1 43 := ⟨by decide +kernel, rfl⟩
theorem d_R_faultOf_43 : dc b_R_faultOf 43 (.iload_n 1) 1 44 := ⟨by decide +kernel, rfl⟩
theorem d_R_faultOf_44 : dc b_R_faultOf 44 (.iload 7) 2 46 := ⟨by decide +kernel, rfl⟩
theorem d_R_faultOf_46 : dc b_R_faultOf 46 (.invokevirtual 201) 3 49 := ⟨by decide +kernel, rfl⟩
theorem d_R_faultOf_49 : db b_R_faultOf 49 (.ifCond .ne 5) 5 54 52 := ⟨by decide +kernel, by decide, rfl⟩
theorem d_R_faultOf_52 : dc b_R_faultOf 52 (.iconst 1) 1 53 := ⟨by decide +kernel, rfl⟩
theorem d_R_faultOf_53 : dc b_R_faultOf 53 (.ireturn) 1 54 := ⟨by decide +kernel, rfl⟩
theorem d_R_faultOf_54 : dc b_R_faultOf 54 (.iconst 0) 1 55 := ⟨by decide +kernel, rfl⟩
theorem d_R_faultOf_55 : dc b_R_faultOf 55 (.istore 8) 2 57 := ⟨by decide +kernel, rfl⟩
theorem d_R_faultOf_57 : dc b_R_faultOf 57 (.iload 8) 2 59 := ⟨by decide +kernel, rfl⟩
theorem d_R_faultOf_59 : dc b_R_faultOf 59 (.iload 6) 2 61 := ⟨by decide +kernel, rfl⟩
theorem d_R_faultOf_61 : db b_R_faultOf 61 (.if_icmp .ge 28) 28 89 64 := ⟨by decide +kernel, by decide, rfl⟩
theorem d_R_faultOf_64 : dc b_R_faultOf 64 (.iload_n 2) 1 65 := ⟨by decide +kernel, rfl⟩
theorem d_R_faultOf_65 : dc b_R_faultOf 65 (.iload 8) 2 67 := ⟨by decide +kernel, rfl⟩
theorem d_R_faultOf_67 : dc b_R_faultOf 67 (.ishr) 1 68 := ⟨by decide +kernel, rfl⟩
theorem d_R_faultOf_68 : dc b_R_faultOf 68 (.sipush 255) 3 71 := ⟨by decide +kernel, rfl⟩
theorem d_R_faultOf_71 : dc b_R_faultOf 71 (.iand) 1 72 := ⟨by decide +kernel, rfl⟩
theorem d_R_faultOf_72 : dc b_R_faultOf 72 (.bipush 24) 2 74 := ⟨by decide +kernel, rfl⟩
theorem d_R_faultOf_74 : dc b_R_faultOf 74 (.isub) 1 75 := ⟨by decide +kernel, rfl⟩
theorem d_R_faultOf_75 : dc b_R_faultOf 75 (.iload 7) 2 77 := ⟨by decide +kernel, rfl⟩
theorem d_R_faultOf_77 : db b_R_faultOf 77 (.if_icmp .ne 6) 6 83 80 := ⟨by decide +kernel, by decide, rfl⟩
theorem d_R_faultOf_80 : dc b_R_faultOf 80 (.iconst 1) 1 81 := ⟨by decide +kernel, rfl⟩
theorem d_R_faultOf_81 : dc b_R_faultOf 81 (.istore 5) 2 83 := ⟨by decide +kernel, rfl⟩
theorem d_R_faultOf_83 : dc b_R_faultOf 83 (.iinc 8 8) 3 86 := ⟨by decide +kernel, rfl⟩
theorem d_R_faultOf_86 : db b_R_faultOf 86 (.goto (-29)) (-29) 57 89 := ⟨by decide +kernel, by decide, rfl⟩
theorem d_R_faultOf_89 : dc b_R_faultOf 89 (.aload_n 0) 1 90 := ⟨by decide +kernel, rfl⟩
theorem d_R_faultOf_90 : dc b_R_faultOf 90 (.getfield 38) 3 93 := ⟨by decide +kernel, rfl⟩
theorem d_R_faultOf_93 : dc b_R_faultOf 93 (.iload 7) 2 95 := ⟨by decide +kernel, rfl⟩
theorem d_R_faultOf_95 : dc b_R_faultOf 95 (.baload) 1 96 := ⟨by decide +kernel, rfl⟩
theorem d_R_faultOf_96 : db b_R_faultOf 96 (.ifCond .ne 30) 30 126 99 := ⟨by decide +kernel, by decide, rfl⟩
theorem d_R_faultOf_99 : dc b_R_faultOf 99 (.iload_n 3) 1 100 := ⟨by decide +kernel, rfl⟩
theorem d_R_faultOf_100 : dc b_R_faultOf 100 (.iconst 4) 1 101 := ⟨by decide +kernel, rfl⟩
theorem d_R_faultOf_101 : db b_R_faultOf 101 (.if_icmp .ge 17) 17 118 104 := ⟨by decide +kernel, by decide, rfl⟩
theorem d_R_faultOf_104 : dc b_R_faultOf 104 (.iload_n 3) 1 105 := ⟨by decide +kernel, rfl⟩
theorem d_R_faultOf_105 : dc b_R_faultOf 105 (.aload_n 0) 1 106 := ⟨by decide +kernel, rfl⟩
theorem d_R_faultOf_106 : dc b_R_faultOf 106 (.getfield 35) 3 109 := ⟨by decide +kernel, rfl⟩
theorem d_R_faultOf_109 : dc b_R_faultOf 109 (.iload 7) 2 111 := ⟨by decide +kernel, rfl⟩
theorem d_R_faultOf_111 : dc b_R_faultOf 111 (.iaload) 1 112 := ⟨by decide +kernel, rfl⟩
theorem d_R_faultOf_112 : db b_R_faultOf 112 (.if_icmp .eq 6) 6 118 115 := ⟨by decide +kernel, by decide, rfl⟩
theorem d_R_faultOf_115 : dc b_R_faultOf 115 (.iconst 1) 1 116 := ⟨by decide +kernel, rfl⟩
theorem d_R_faultOf_116 : dc b_R_faultOf 116 (.istore 4) 2 118 := ⟨by decide +kernel, rfl⟩
theorem d_R_faultOf_118 : dc b_R_faultOf 118 (.aload_n 0) 1 119 := ⟨by decide +kernel, rfl⟩
theorem d_R_faultOf_119 : dc b_R_faultOf 119 (.getfield 35) 3 122 := ⟨by decide +kernel, rfl⟩
theorem d_R_faultOf_122 : dc b_R_faultOf 122 (.iload 7) 2 124 := ⟨by decide +kernel, rfl⟩
theorem d_R_faultOf_124 : dc b_R_faultOf 124 (.iaload) 1 125 := ⟨by decide +kernel, rfl⟩
theorem d_R_faultOf_125 : dc b_R_faultOf 125 (.istore_n 3) 1 126 := ⟨by decide +kernel, rfl⟩
theorem d_R_faultOf_126 : dc b_R_faultOf 126 (.iinc 6 8) 3 129 := ⟨by decide +kernel, rfl⟩
theorem d_R_faultOf_129 : db b_R_faultOf 129 (.goto (-118)) (-118) 11 132 := ⟨by decide +kernel, by decide, rfl⟩
theorem d_R_faultOf_132 : dc b_R_faultOf 132 (.iload 5) 2 134 := ⟨by decide +kernel, rfl⟩
theorem d_R_faultOf_134 : db b_R_faultOf 134 (.ifCond .eq 5) 5 139 137 := ⟨by decide +kernel, by decide, rfl⟩
theorem d_R_faultOf_137 : dc b_R_faultOf 137 (.iconst 2) 1 138 := ⟨by decide +kernel, rfl⟩
theorem d_R_faultOf_138 : dc b_R_faultOf 138 (.ireturn) 1 139 := ⟨by decide +kernel, rfl⟩
theorem d_R_faultOf_139 : dc b_R_faultOf 139 (.iload 4) 2 141 := ⟨by decide +kernel, rfl⟩
theorem d_R_faultOf_141 : db b_R_faultOf 141 (.ifCond .eq 5) 5 146 144 := ⟨by decide +kernel, by decide, rfl⟩
theorem d_R_faultOf_144 : dc b_R_faultOf 144 (.iconst 3) 1 145 := ⟨by decide +kernel, rfl⟩
theorem d_R_faultOf_145 : dc b_R_faultOf 145 (.ireturn) 1 146 := ⟨by decide +kernel, rfl⟩
theorem d_R_faultOf_146 : dc b_R_faultOf 146 (.aload_n 0) 1 147 := ⟨by decide +kernel, rfl⟩
theorem d_R_faultOf_147 : dc b_R_faultOf 147 (.iload_n 2) 1 148 := ⟨by decide +kernel, rfl⟩
theorem d_R_faultOf_148 : dc b_R_faultOf 148 (.invokevirtual 204) 3 151 := ⟨by decide +kernel, rfl⟩
theorem d_R_faultOf_151 : dc b_R_faultOf 151 (.iconst 0) 1 152 := ⟨by decide +kernel, rfl⟩
theorem d_R_faultOf_152 : dc b_R_faultOf 152 (.istore 6) 2 154 := ⟨by decide +kernel, rfl⟩
theorem d_R_faultOf_154 : dc b_R_faultOf 154 (.iload 6) 2 156 := ⟨by decide +kernel, rfl⟩
theorem d_R_faultOf_156 : dc b_R_faultOf 156 (.aload_n 0) 1 157 := ⟨by decide +kernel, rfl⟩
theorem d_R_faultOf_157 : dc b_R_faultOf 157 (.getfield 106) 3 160 := ⟨by decide +kernel, rfl⟩
theorem d_R_faultOf_160 : db b_R_faultOf 160 (.if_icmp .ge 20) 20 180 163 := ⟨by decide +kernel, by decide, rfl⟩
theorem d_R_faultOf_163 : dc b_R_faultOf 163 (.aload_n 0) 1 164 := ⟨by decide +kernel, rfl⟩
theorem d_R_faultOf_164 : dc b_R_faultOf 164 (.iload 6) 2 166 := ⟨by decide +kernel, rfl⟩
theorem d_R_faultOf_166 : dc b_R_faultOf 166 (.invokevirtual 207) 3 169 := ⟨by decide +kernel, rfl⟩
theorem d_R_faultOf_169 : db b_R_faultOf 169 (.ifCond .eq 5) 5 174 172 := ⟨by decide +kernel, by decide, rfl⟩
theorem d_R_faultOf_172 : dc b_R_faultOf 172 (.iconst 4) 1 173 := ⟨by decide +kernel, rfl⟩
theorem d_R_faultOf_173 : dc b_R_faultOf 173 (.ireturn) 1 174 := ⟨by decide +kernel, rfl⟩
theorem d_R_faultOf_174 : dc b_R_faultOf 174 (.iinc 6 1) 3 177 := ⟨by decide +kernel, rfl⟩
theorem d_R_faultOf_177 : db b_R_faultOf 177 (.goto (-23)) (-23) 154 180 := ⟨by decide +kernel, by decide, rfl⟩
theorem d_R_faultOf_180 : dc b_R_faultOf 180 (.aload_n 0) 1 181 := ⟨by decide +kernel, rfl⟩
theorem d_R_faultOf_181 : dc b_R_faultOf 181 (.getfield 106) 3 184 := ⟨by decide +kernel, rfl⟩
theorem d_R_faultOf_184 : dc b_R_faultOf 184 (.bipush 40) 2 186 := ⟨by decide +kernel, rfl⟩
theorem d_R_faultOf_186 : db b_R_faultOf 186 (.if_icmp .le 7) 7 193 189 := ⟨by decide +kernel, by decide, rfl⟩
theorem d_R_faultOf_189 : dc b_R_faultOf 189 (.iconst 5) 1 190 := ⟨by decide +kernel, rfl⟩
theorem d_R_faultOf_190 : db b_R_faultOf 190 (.goto 18) 18 208 193 := ⟨by decide +kernel, by decide, rfl⟩
theorem d_R_faultOf_193 : dc b_R_faultOf 193 (.aload_n 0) 1 194 := ⟨by decide +kernel, rfl⟩
theorem d_R_faultOf_194 : dc b_R_faultOf 194 (.getfield 76) 3 197 := ⟨by decide +kernel, rfl⟩
theorem d_R_faultOf_197 : dc b_R_faultOf 197 (.bipush 16) 2 199 := ⟨by decide +kernel, rfl⟩
theorem d_R_faultOf_199 : db b_R_faultOf 199 (.if_icmp .ne 8) 8 207 202 := ⟨by decide +kernel, by decide, rfl⟩
theorem d_R_faultOf_202 : dc b_R_faultOf 202 (.bipush 6) 2 204 := ⟨by decide +kernel, rfl⟩
theorem d_R_faultOf_204 : db b_R_faultOf 204 (.goto 4) 4 208 207 := ⟨by decide +kernel, by decide, rfl⟩
theorem d_R_faultOf_207 : dc b_R_faultOf 207 (.iconst 0) 1 208 := ⟨by decide +kernel, rfl⟩
theorem d_R_faultOf_208 : dc b_R_faultOf 208 (.ireturn) 1 209 := ⟨by decide +kernel, rfl⟩
def f_R_faultOf_J83 (S : gS) (o : Nat) (kx89 : gD → Int32 → Int32 → Int32 → Int32 → Int32 → Int32 → Int32 → Option (Int32 × gD)) (kb : gD → Int32 → Int32 → Int32 → Int32 → Int32 → Int32 → Int32 → Int32 → Option (Int32 × gD)) (d : gD) (v1 : Int32) (v2 : Int32) (v3 : Int32) (v4 : Int32) (v5 : Int32) (v6 : Int32) (v7 : Int32) (v8 : Int32) : Option (Int32 × gD) :=
  kb d v1 v2 v3 v4 v5 v6 v7 (v8 + 8)
set_option maxRecDepth 100000 in
set_option maxHeartbeats 4000000 in
theorem w_R_faultOf_J83 {X : GX} (hE : gE X b_R_faultOf 9 "StandInMillModel" (some (.int)) "faultOf" 6 145) {S : gS} {o : Nat} {r : Int32} {d' : gD} {kb : gD → Int32 → Int32 → Int32 → Int32 → Int32 → Int32 → Int32 → Int32 → Option (Int32 × gD)} {kx89 : gD → Int32 → Int32 → Int32 → Int32 → Int32 → Int32 → Int32 → Option (Int32 × gD)} (hkb : ∀ (d : gD) (v1 : Int32) (v2 : Int32) (v3 : Int32) (v4 : Int32) (v5 : Int32) (v6 : Int32) (v7 : Int32) (v8 : Int32), kb d v1 v2 v3 v4 v5 v6 v7 v8 = some (r, d') → gw X 0 0 (gQ X (some (.int r)) S d' 0 0) S d 57 [some (va_rf (some o)), some (.int v1), some (.int v2), some (.int v3), some (.int v4), some (.int v5), some (.int v6), some (.int v7), some (.int v8)] []) (hkx89 : ∀ (d : gD) (v1 : Int32) (v2 : Int32) (v3 : Int32) (v4 : Int32) (v5 : Int32) (v6 : Int32) (v7 : Int32), kx89 d v1 v2 v3 v4 v5 v6 v7 = some (r, d') → gw X 0 0 (gQ X (some (.int r)) S d' 0 0) S d 89 [some (va_rf (some o)), some (.int v1), some (.int v2), some (.int v3), some (.int v4), some (.int v5), some (.int v6), some (.int v7), none] []) :
    ∀ (d : gD) (v1 : Int32) (v2 : Int32) (v3 : Int32) (v4 : Int32) (v5 : Int32) (v6 : Int32) (v7 : Int32) (v8 : Int32), f_R_faultOf_J83 S o kx89 kb d v1 v2 v3 v4 v5 v6 v7 v8 = some (r, d') → gw X 0 0 (gQ X (some (.int r)) S d' 0 0) S d 83 [some (va_rf (some o)), some (.int v1), some (.int v2), some (.int v3), some (.int v4), some (.int v5), some (.int v6), some (.int v7), some (.int v8)] [] := by
  intro d v1 v2 v3 v4 v5 v6 v7 v8 h
  unfold f_R_faultOf_J83 at h
  refine g_iinc (i := 8) (lv' := [some (va_rf (some o)), some (.int v1), some (.int v2), some (.int v3), some (.int v4), some (.int v5), some (.int v6), some (.int v7), some (.int (v8 + 8))]) hE d_R_faultOf_83 ki_8 rfl (Nat.le_of_ble_eq_true rfl) ⟨rfl, Nat.le_of_ble_eq_true rfl⟩ (lvp_i rfl) ?_
  refine g_goto hE d_R_faultOf_86 ?_
  exact gw.less (lv' := [some (va_rf (some o)), some (.int v1), some (.int v2), some (.int v3), some (.int v4), some (.int v5), some (.int v6), some (.int v7), some (.int (v8 + 8))]) (And.intro rfl (And.intro rfl (And.intro rfl (And.intro rfl (And.intro rfl (And.intro rfl (And.intro rfl (And.intro rfl (And.intro rfl trivial))))))))) (hkb d v1 v2 v3 v4 v5 v6 v7 (v8 + 8) h)
def f_R_faultOf_B57 (S : gS) (o : Nat) (kx89 : gD → Int32 → Int32 → Int32 → Int32 → Int32 → Int32 → Int32 → Option (Int32 × gD)) (kb : gD → Int32 → Int32 → Int32 → Int32 → Int32 → Int32 → Int32 → Int32 → Option (Int32 × gD)) (d : gD) (v1 : Int32) (v2 : Int32) (v3 : Int32) (v4 : Int32) (v5 : Int32) (v6 : Int32) (v7 : Int32) (v8 : Int32) : Option (Int32 × gD) :=
  if v6 ≤ v8 then (
    kx89 d v1 v2 v3 v4 v5 v6 v7)
  else (
    if (((v2 >>> (v8 &&& 31)) &&& 255) - 24) = v7 then (
      f_R_faultOf_J83 S o kx89 kb d v1 v2 v3 v4 1 v6 v7 v8)
    else (
      f_R_faultOf_J83 S o kx89 kb d v1 v2 v3 v4 v5 v6 v7 v8))
set_option maxRecDepth 100000 in
set_option maxHeartbeats 4000000 in
theorem w_R_faultOf_B57 {X : GX} (hE : gE X b_R_faultOf 9 "StandInMillModel" (some (.int)) "faultOf" 6 145) {S : gS} {o : Nat} {r : Int32} {d' : gD} {kb : gD → Int32 → Int32 → Int32 → Int32 → Int32 → Int32 → Int32 → Int32 → Option (Int32 × gD)} {kx89 : gD → Int32 → Int32 → Int32 → Int32 → Int32 → Int32 → Int32 → Option (Int32 × gD)} (hkb : ∀ (d : gD) (v1 : Int32) (v2 : Int32) (v3 : Int32) (v4 : Int32) (v5 : Int32) (v6 : Int32) (v7 : Int32) (v8 : Int32), kb d v1 v2 v3 v4 v5 v6 v7 v8 = some (r, d') → gw X 0 0 (gQ X (some (.int r)) S d' 0 0) S d 57 [some (va_rf (some o)), some (.int v1), some (.int v2), some (.int v3), some (.int v4), some (.int v5), some (.int v6), some (.int v7), some (.int v8)] []) (hkx89 : ∀ (d : gD) (v1 : Int32) (v2 : Int32) (v3 : Int32) (v4 : Int32) (v5 : Int32) (v6 : Int32) (v7 : Int32), kx89 d v1 v2 v3 v4 v5 v6 v7 = some (r, d') → gw X 0 0 (gQ X (some (.int r)) S d' 0 0) S d 89 [some (va_rf (some o)), some (.int v1), some (.int v2), some (.int v3), some (.int v4), some (.int v5), some (.int v6), some (.int v7), none] []) :
    ∀ (d : gD) (v1 : Int32) (v2 : Int32) (v3 : Int32) (v4 : Int32) (v5 : Int32) (v6 : Int32) (v7 : Int32) (v8 : Int32), f_R_faultOf_B57 S o kx89 kb d v1 v2 v3 v4 v5 v6 v7 v8 = some (r, d') → gw X 0 0 (gQ X (some (.int r)) S d' 0 0) S d 57 [some (va_rf (some o)), some (.int v1), some (.int v2), some (.int v3), some (.int v4), some (.int v5), some (.int v6), some (.int v7), some (.int v8)] [] := by
  intro d v1 v2 v3 v4 v5 v6 v7 v8 h
  unfold f_R_faultOf_B57 at h
  refine g_iload (i := 8) hE d_R_faultOf_57 rfl ?_
  refine g_iload (i := 6) hE d_R_faultOf_59 rfl ?_
  refine g_icmp_ge hE d_R_faultOf_61 (fun c2 => ?_) (fun c2 => ?_)
  · replace h := if_t c2 h
    exact gw.less (lv' := [some (va_rf (some o)), some (.int v1), some (.int v2), some (.int v3), some (.int v4), some (.int v5), some (.int v6), some (.int v7), none]) (And.intro rfl (And.intro rfl (And.intro rfl (And.intro rfl (And.intro rfl (And.intro rfl (And.intro rfl (And.intro rfl trivial)))))))) (hkx89 d v1 v2 v3 v4 v5 v6 v7 h)
  · replace h := if_f c2 h
    refine g_iload_n (i := 2) hE d_R_faultOf_64 rfl rfl ?_
    refine g_iload (i := 8) hE d_R_faultOf_65 rfl ?_
    refine g_ishr hE d_R_faultOf_67 ?_
    refine g_sipush hE d_R_faultOf_68 ks_255 ?_
    refine g_iand hE d_R_faultOf_71 ?_
    refine g_bipush hE d_R_faultOf_72 kb_24 ?_
    refine g_isub hE d_R_faultOf_74 ?_
    refine g_iload (i := 7) hE d_R_faultOf_75 rfl ?_
    refine g_icmp_ne hE d_R_faultOf_77 (fun c1 => ?_) (fun c1 => ?_)
    · replace h := if_f c1 h
      exact gw.less (lv' := [some (va_rf (some o)), some (.int v1), some (.int v2), some (.int v3), some (.int v4), some (.int v5), some (.int v6), some (.int v7), some (.int v8)]) (And.intro rfl (And.intro rfl (And.intro rfl (And.intro rfl (And.intro rfl (And.intro rfl (And.intro rfl (And.intro rfl (And.intro rfl trivial))))))))) (w_R_faultOf_J83 hE hkb hkx89 d v1 v2 v3 v4 v5 v6 v7 v8 h)
    · replace h := if_t c1 h
      refine g_iconst hE d_R_faultOf_80 ki_1 ?_
      refine g_istore (i := 5) (lv' := [some (va_rf (some o)), some (.int v1), some (.int v2), some (.int v3), some (.int v4), some (.int 1), some (.int v6), some (.int v7), some (.int v8)]) hE d_R_faultOf_81 (Nat.le_of_ble_eq_true rfl) ⟨rfl, Nat.le_of_ble_eq_true rfl⟩ (lvp_i rfl) ?_
      exact gw.less (lv' := [some (va_rf (some o)), some (.int v1), some (.int v2), some (.int v3), some (.int v4), some (.int 1), some (.int v6), some (.int v7), some (.int v8)]) (And.intro rfl (And.intro rfl (And.intro rfl (And.intro rfl (And.intro rfl (And.intro rfl (And.intro rfl (And.intro rfl (And.intro rfl trivial))))))))) (w_R_faultOf_J83 hE hkb hkx89 d v1 v2 v3 v4 1 v6 v7 v8 h)
theorem w_R_faultOf_L57 {X : GX} (hE : gE X b_R_faultOf 9 "StandInMillModel" (some (.int)) "faultOf" 6 145) {S : gS} {o : Nat} {r : Int32} {d' : gD} {kx89 : gD → Int32 → Int32 → Int32 → Int32 → Int32 → Int32 → Int32 → Option (Int32 × gD)} (hkx89 : ∀ (d : gD) (v1 : Int32) (v2 : Int32) (v3 : Int32) (v4 : Int32) (v5 : Int32) (v6 : Int32) (v7 : Int32), kx89 d v1 v2 v3 v4 v5 v6 v7 = some (r, d') → gw X 0 0 (gQ X (some (.int r)) S d' 0 0) S d 89 [some (va_rf (some o)), some (.int v1), some (.int v2), some (.int v3), some (.int v4), some (.int v5), some (.int v6), some (.int v7), none] []) : ∀ (n : Nat) (d : gD) (v1 : Int32) (v2 : Int32) (v3 : Int32) (v4 : Int32) (v5 : Int32) (v6 : Int32) (v7 : Int32) (v8 : Int32), itr (f_R_faultOf_B57 S o kx89) (fun _ _ _ _ _ _ _ _ _ => none) n d v1 v2 v3 v4 v5 v6 v7 v8 = some (r, d') → gw X 0 0 (gQ X (some (.int r)) S d' 0 0) S d 57 [some (va_rf (some o)), some (.int v1), some (.int v2), some (.int v3), some (.int v4), some (.int v5), some (.int v6), some (.int v7), some (.int v8)] [] := by
  intro n
  induction n with
  | zero => intro d v1 v2 v3 v4 v5 v6 v7 v8 h; cases h
  | succ n ih => exact w_R_faultOf_B57 hE ih hkx89
def f_R_faultOf_J126 (S : gS) (o : Nat) (kx132 : gD → Int32 → Int32 → Int32 → Option (Int32 × gD)) (kb : gD → Int32 → Int32 → Int32 → Int32 → Int32 → Int32 → Option (Int32 × gD)) (d : gD) (v1 : Int32) (v2 : Int32) (v3 : Int32) (v4 : Int32) (v5 : Int32) (v6 : Int32) : Option (Int32 × gD) :=
  kb d v1 v2 v3 v4 v5 (v6 + 8)
set_option maxRecDepth 100000 in
set_option maxHeartbeats 4000000 in
theorem w_R_faultOf_J126 {X : GX} (hE : gE X b_R_faultOf 9 "StandInMillModel" (some (.int)) "faultOf" 6 145) {S : gS} {o : Nat} {r : Int32} {d' : gD} {kb : gD → Int32 → Int32 → Int32 → Int32 → Int32 → Int32 → Option (Int32 × gD)} {kx132 : gD → Int32 → Int32 → Int32 → Option (Int32 × gD)} (hkb : ∀ (d : gD) (v1 : Int32) (v2 : Int32) (v3 : Int32) (v4 : Int32) (v5 : Int32) (v6 : Int32), kb d v1 v2 v3 v4 v5 v6 = some (r, d') → gw X 0 0 (gQ X (some (.int r)) S d' 0 0) S d 11 [some (va_rf (some o)), some (.int v1), some (.int v2), some (.int v3), some (.int v4), some (.int v5), some (.int v6), none, none] []) (hkx132 : ∀ (d : gD) (v2 : Int32) (v4 : Int32) (v5 : Int32), kx132 d v2 v4 v5 = some (r, d') → gw X 0 0 (gQ X (some (.int r)) S d' 0 0) S d 132 [some (va_rf (some o)), none, some (.int v2), none, some (.int v4), some (.int v5), none, none, none] []) :
    ∀ (d : gD) (v1 : Int32) (v2 : Int32) (v3 : Int32) (v4 : Int32) (v5 : Int32) (v6 : Int32), f_R_faultOf_J126 S o kx132 kb d v1 v2 v3 v4 v5 v6 = some (r, d') → gw X 0 0 (gQ X (some (.int r)) S d' 0 0) S d 126 [some (va_rf (some o)), some (.int v1), some (.int v2), some (.int v3), some (.int v4), some (.int v5), some (.int v6), none, none] [] := by
  intro d v1 v2 v3 v4 v5 v6 h
  unfold f_R_faultOf_J126 at h
  refine g_iinc (i := 6) (lv' := [some (va_rf (some o)), some (.int v1), some (.int v2), some (.int v3), some (.int v4), some (.int v5), some (.int (v6 + 8)), none, none]) hE d_R_faultOf_126 ki_8 rfl (Nat.le_of_ble_eq_true rfl) ⟨rfl, Nat.le_of_ble_eq_true rfl⟩ (lvp_i rfl) ?_
  refine g_goto hE d_R_faultOf_129 ?_
  exact gw.less (lv' := [some (va_rf (some o)), some (.int v1), some (.int v2), some (.int v3), some (.int v4), some (.int v5), some (.int (v6 + 8)), none, none]) (And.intro rfl (And.intro rfl (And.intro rfl (And.intro rfl (And.intro rfl (And.intro rfl (And.intro rfl trivial))))))) (hkb d v1 v2 v3 v4 v5 (v6 + 8) h)
def f_R_faultOf_J118 (S : gS) (o : Nat) (kx132 : gD → Int32 → Int32 → Int32 → Option (Int32 × gD)) (kb : gD → Int32 → Int32 → Int32 → Int32 → Int32 → Int32 → Option (Int32 × gD)) (d : gD) (v1 : Int32) (v2 : Int32) (v4 : Int32) (v5 : Int32) (v6 : Int32) (v7 : Int32) : Option (Int32 × gD) :=
  kd S o 10 <|
  lt_ (sP S o 8) fun x2 =>
  nn x2 fun a3 =>
  kd S a3 50 <|
  gi v7 (sN S a3) <|
  lt_ (dI d a3 v7.toNatClampNeg) fun x6 =>
  f_R_faultOf_J126 S o kx132 kb d v1 v2 x6 v4 v5 v6
set_option maxRecDepth 100000 in
set_option maxHeartbeats 4000000 in
theorem w_R_faultOf_J118 {X : GX} (hE : gE X b_R_faultOf 9 "StandInMillModel" (some (.int)) "faultOf" 6 145) {S : gS} {o : Nat} {r : Int32} {d' : gD} {kb : gD → Int32 → Int32 → Int32 → Int32 → Int32 → Int32 → Option (Int32 × gD)} {kx132 : gD → Int32 → Int32 → Int32 → Option (Int32 × gD)} (hkb : ∀ (d : gD) (v1 : Int32) (v2 : Int32) (v3 : Int32) (v4 : Int32) (v5 : Int32) (v6 : Int32), kb d v1 v2 v3 v4 v5 v6 = some (r, d') → gw X 0 0 (gQ X (some (.int r)) S d' 0 0) S d 11 [some (va_rf (some o)), some (.int v1), some (.int v2), some (.int v3), some (.int v4), some (.int v5), some (.int v6), none, none] []) (hkx132 : ∀ (d : gD) (v2 : Int32) (v4 : Int32) (v5 : Int32), kx132 d v2 v4 v5 = some (r, d') → gw X 0 0 (gQ X (some (.int r)) S d' 0 0) S d 132 [some (va_rf (some o)), none, some (.int v2), none, some (.int v4), some (.int v5), none, none, none] []) :
    ∀ (d : gD) (v1 : Int32) (v2 : Int32) (v4 : Int32) (v5 : Int32) (v6 : Int32) (v7 : Int32), f_R_faultOf_J118 S o kx132 kb d v1 v2 v4 v5 v6 v7 = some (r, d') → gw X 0 0 (gQ X (some (.int r)) S d' 0 0) S d 118 [some (va_rf (some o)), some (.int v1), some (.int v2), none, some (.int v4), some (.int v5), some (.int v6), some (.int v7), none] [] := by
  intro d v1 v2 v4 v5 v6 v7 h
  unfold f_R_faultOf_J118 at h
  refine g_aload_n (i := 0) hE d_R_faultOf_118 rfl rfl ?_
  obtain ⟨k1, h⟩ := kd_s h
  refine g_getR 8 hE kc_R k1 (Nat.le_of_ble_eq_true rfl) rfl m_384 d_R_faultOf_119 (fun x2 e => ?_)
  replace h := lt_i e h; clear e
  refine g_iload (i := 7) hE d_R_faultOf_122 rfl ?_
  obtain ⟨a3, rfl, h⟩ := nn_s h
  obtain ⟨k4, h⟩ := kd_s h
  obtain ⟨g5, h⟩ := gi_s h
  refine g_iald hE k4 g5 d_R_faultOf_124 (fun x6 e => ?_)
  replace h := lt_i e h; clear e
  refine g_istore_n (i := 3) (lv' := [some (va_rf (some o)), some (.int v1), some (.int v2), some (.int x6), some (.int v4), some (.int v5), some (.int v6), some (.int v7), none]) hE d_R_faultOf_125 rfl (Nat.le_of_ble_eq_true rfl) ⟨rfl, Nat.le_of_ble_eq_true rfl⟩ (lvp_i rfl) ?_
  exact gw.less (lv' := [some (va_rf (some o)), some (.int v1), some (.int v2), some (.int x6), some (.int v4), some (.int v5), some (.int v6), none, none]) (And.intro rfl (And.intro rfl (And.intro rfl (And.intro rfl (And.intro rfl (And.intro rfl (And.intro rfl trivial))))))) (w_R_faultOf_J126 hE hkb hkx132 d v1 v2 x6 v4 v5 v6 h)
def f_R_faultOf_J89 (S : gS) (o : Nat) (kx132 : gD → Int32 → Int32 → Int32 → Option (Int32 × gD)) (kb : gD → Int32 → Int32 → Int32 → Int32 → Int32 → Int32 → Option (Int32 × gD)) (d : gD) (v1 : Int32) (v2 : Int32) (v3 : Int32) (v4 : Int32) (v5 : Int32) (v6 : Int32) (v7 : Int32) : Option (Int32 × gD) :=
  kd S o 10 <|
  lt_ (sP S o 9) fun x2 =>
  nn x2 fun a3 =>
  kd S a3 53 <|
  gi v7 (sN S a3) <|
  lt_ (dI d a3 v7.toNatClampNeg) fun x6 =>
  if x6 = 0 then (
    if 4 ≤ v3 then (
      f_R_faultOf_J118 S o kx132 kb d v1 v2 v4 v5 v6 v7)
    else (
      lt_ (sP S o 8) fun x7 =>
      nn x7 fun a8 =>
      kd S a8 50 <|
      gi v7 (sN S a8) <|
      lt_ (dI d a8 v7.toNatClampNeg) fun x11 =>
      if v3 = x11 then (
        f_R_faultOf_J118 S o kx132 kb d v1 v2 v4 v5 v6 v7)
      else (
        f_R_faultOf_J118 S o kx132 kb d v1 v2 1 v5 v6 v7)))
  else (
    f_R_faultOf_J126 S o kx132 kb d v1 v2 v3 v4 v5 v6)
set_option maxRecDepth 100000 in
set_option maxHeartbeats 4000000 in
theorem w_R_faultOf_J89 {X : GX} (hE : gE X b_R_faultOf 9 "StandInMillModel" (some (.int)) "faultOf" 6 145) {S : gS} {o : Nat} {r : Int32} {d' : gD} {kb : gD → Int32 → Int32 → Int32 → Int32 → Int32 → Int32 → Option (Int32 × gD)} {kx132 : gD → Int32 → Int32 → Int32 → Option (Int32 × gD)} (hkb : ∀ (d : gD) (v1 : Int32) (v2 : Int32) (v3 : Int32) (v4 : Int32) (v5 : Int32) (v6 : Int32), kb d v1 v2 v3 v4 v5 v6 = some (r, d') → gw X 0 0 (gQ X (some (.int r)) S d' 0 0) S d 11 [some (va_rf (some o)), some (.int v1), some (.int v2), some (.int v3), some (.int v4), some (.int v5), some (.int v6), none, none] []) (hkx132 : ∀ (d : gD) (v2 : Int32) (v4 : Int32) (v5 : Int32), kx132 d v2 v4 v5 = some (r, d') → gw X 0 0 (gQ X (some (.int r)) S d' 0 0) S d 132 [some (va_rf (some o)), none, some (.int v2), none, some (.int v4), some (.int v5), none, none, none] []) :
    ∀ (d : gD) (v1 : Int32) (v2 : Int32) (v3 : Int32) (v4 : Int32) (v5 : Int32) (v6 : Int32) (v7 : Int32), f_R_faultOf_J89 S o kx132 kb d v1 v2 v3 v4 v5 v6 v7 = some (r, d') → gw X 0 0 (gQ X (some (.int r)) S d' 0 0) S d 89 [some (va_rf (some o)), some (.int v1), some (.int v2), some (.int v3), some (.int v4), some (.int v5), some (.int v6), some (.int v7), none] [] := by
  intro d v1 v2 v3 v4 v5 v6 v7 h
  unfold f_R_faultOf_J89 at h
  refine g_aload_n (i := 0) hE d_R_faultOf_89 rfl rfl ?_
  obtain ⟨k1, h⟩ := kd_s h
  refine g_getR 9 hE kc_R k1 (Nat.le_of_ble_eq_true rfl) rfl m_386 d_R_faultOf_90 (fun x2 e => ?_)
  replace h := lt_i e h; clear e
  refine g_iload (i := 7) hE d_R_faultOf_93 rfl ?_
  obtain ⟨a3, rfl, h⟩ := nn_s h
  obtain ⟨k4, h⟩ := kd_s h
  obtain ⟨g5, h⟩ := gi_s h
  refine g_zald hE k4 g5 d_R_faultOf_95 (fun x6 e => ?_)
  replace h := lt_i e h; clear e
  refine g_if_ne hE d_R_faultOf_96 (fun c14 => ?_) (fun c14 => ?_)
  · replace h := if_f c14 h
    exact gw.less (lv' := [some (va_rf (some o)), some (.int v1), some (.int v2), some (.int v3), some (.int v4), some (.int v5), some (.int v6), none, none]) (And.intro rfl (And.intro rfl (And.intro rfl (And.intro rfl (And.intro rfl (And.intro rfl (And.intro rfl trivial))))))) (w_R_faultOf_J126 hE hkb hkx132 d v1 v2 v3 v4 v5 v6 h)
  · replace h := if_t c14 h
    refine g_iload_n (i := 3) hE d_R_faultOf_99 rfl rfl ?_
    refine g_iconst hE d_R_faultOf_100 ki_4 ?_
    refine g_icmp_ge hE d_R_faultOf_101 (fun c13 => ?_) (fun c13 => ?_)
    · replace h := if_t c13 h
      exact gw.less (lv' := [some (va_rf (some o)), some (.int v1), some (.int v2), none, some (.int v4), some (.int v5), some (.int v6), some (.int v7), none]) (And.intro rfl (And.intro rfl (And.intro rfl (And.intro rfl (And.intro rfl (And.intro rfl (And.intro rfl trivial))))))) (w_R_faultOf_J118 hE hkb hkx132 d v1 v2 v4 v5 v6 v7 h)
    · replace h := if_f c13 h
      refine g_iload_n (i := 3) hE d_R_faultOf_104 rfl rfl ?_
      refine g_aload_n (i := 0) hE d_R_faultOf_105 rfl rfl ?_
      refine g_getR 8 hE kc_R k1 (Nat.le_of_ble_eq_true rfl) rfl m_384 d_R_faultOf_106 (fun x7 e => ?_)
      replace h := lt_i e h; clear e
      refine g_iload (i := 7) hE d_R_faultOf_109 rfl ?_
      obtain ⟨a8, rfl, h⟩ := nn_s h
      obtain ⟨k9, h⟩ := kd_s h
      obtain ⟨g10, h⟩ := gi_s h
      refine g_iald hE k9 g10 d_R_faultOf_111 (fun x11 e => ?_)
      replace h := lt_i e h; clear e
      refine g_icmp_eq hE d_R_faultOf_112 (fun c12 => ?_) (fun c12 => ?_)
      · replace h := if_t c12 h
        exact gw.less (lv' := [some (va_rf (some o)), some (.int v1), some (.int v2), none, some (.int v4), some (.int v5), some (.int v6), some (.int v7), none]) (And.intro rfl (And.intro rfl (And.intro rfl (And.intro rfl (And.intro rfl (And.intro rfl (And.intro rfl trivial))))))) (w_R_faultOf_J118 hE hkb hkx132 d v1 v2 v4 v5 v6 v7 h)
      · replace h := if_f c12 h
        refine g_iconst hE d_R_faultOf_115 ki_1 ?_
        refine g_istore (i := 4) (lv' := [some (va_rf (some o)), some (.int v1), some (.int v2), some (.int v3), some (.int 1), some (.int v5), some (.int v6), some (.int v7), none]) hE d_R_faultOf_116 (Nat.le_of_ble_eq_true rfl) ⟨rfl, Nat.le_of_ble_eq_true rfl⟩ (lvp_i rfl) ?_
        exact gw.less (lv' := [some (va_rf (some o)), some (.int v1), some (.int v2), none, some (.int 1), some (.int v5), some (.int v6), some (.int v7), none]) (And.intro rfl (And.intro rfl (And.intro rfl (And.intro rfl (And.intro rfl (And.intro rfl (And.intro rfl trivial))))))) (w_R_faultOf_J118 hE hkb hkx132 d v1 v2 1 v5 v6 v7 h)
def f_R_faultOf_B11 (S : gS) (o : Nat) (kx132 : gD → Int32 → Int32 → Int32 → Option (Int32 × gD)) (kb : gD → Int32 → Int32 → Int32 → Int32 → Int32 → Int32 → Option (Int32 × gD)) (d : gD) (v1 : Int32) (v2 : Int32) (v3 : Int32) (v4 : Int32) (v5 : Int32) (v6 : Int32) : Option (Int32 × gD) :=
  if 32 ≤ v6 then (
    kx132 d v2 v4 v5)
  else (
    if ((v2 >>> (v6 &&& 31)) &&& 255) = 0 then (
      kx132 d v2 v4 v5)
    else (
      kd S o 10 <|
      bd (f_R_visible S d o v1 (((v2 >>> (v6 &&& 31)) &&& 255) - 24)) fun x2 =>
      if x2 = 0 then (
        some (1, d))
      else (
        itr (f_R_faultOf_B57 S o (f_R_faultOf_J89 S o kx132 kb)) (fun _ _ _ _ _ _ _ _ _ => none) fu d v1 v2 v3 v4 v5 v6 (((v2 >>> (v6 &&& 31)) &&& 255) - 24) 0)))
set_option maxRecDepth 100000 in
set_option maxHeartbeats 4000000 in
theorem w_R_faultOf_B11 {X : GX} (hE : gE X b_R_faultOf 9 "StandInMillModel" (some (.int)) "faultOf" 6 145) {S : gS} {o : Nat} {r : Int32} {d' : gD} {kb : gD → Int32 → Int32 → Int32 → Int32 → Int32 → Int32 → Option (Int32 × gD)} {kx132 : gD → Int32 → Int32 → Int32 → Option (Int32 × gD)} (hkb : ∀ (d : gD) (v1 : Int32) (v2 : Int32) (v3 : Int32) (v4 : Int32) (v5 : Int32) (v6 : Int32), kb d v1 v2 v3 v4 v5 v6 = some (r, d') → gw X 0 0 (gQ X (some (.int r)) S d' 0 0) S d 11 [some (va_rf (some o)), some (.int v1), some (.int v2), some (.int v3), some (.int v4), some (.int v5), some (.int v6), none, none] []) (hkx132 : ∀ (d : gD) (v2 : Int32) (v4 : Int32) (v5 : Int32), kx132 d v2 v4 v5 = some (r, d') → gw X 0 0 (gQ X (some (.int r)) S d' 0 0) S d 132 [some (va_rf (some o)), none, some (.int v2), none, some (.int v4), some (.int v5), none, none, none] []) :
    ∀ (d : gD) (v1 : Int32) (v2 : Int32) (v3 : Int32) (v4 : Int32) (v5 : Int32) (v6 : Int32), f_R_faultOf_B11 S o kx132 kb d v1 v2 v3 v4 v5 v6 = some (r, d') → gw X 0 0 (gQ X (some (.int r)) S d' 0 0) S d 11 [some (va_rf (some o)), some (.int v1), some (.int v2), some (.int v3), some (.int v4), some (.int v5), some (.int v6), none, none] [] := by
  intro d v1 v2 v3 v4 v5 v6 h
  unfold f_R_faultOf_B11 at h
  refine g_iload (i := 6) hE d_R_faultOf_11 rfl ?_
  refine g_bipush hE d_R_faultOf_13 kb_32 ?_
  refine g_icmp_ge hE d_R_faultOf_15 (fun c6 => ?_) (fun c6 => ?_)
  · replace h := if_t c6 h
    exact gw.less (lv' := [some (va_rf (some o)), none, some (.int v2), none, some (.int v4), some (.int v5), none, none, none]) (And.intro rfl (And.intro rfl (And.intro rfl (And.intro rfl trivial)))) (hkx132 d v2 v4 v5 h)
  · replace h := if_f c6 h
    refine g_iload_n (i := 2) hE d_R_faultOf_18 rfl rfl ?_
    refine g_iload (i := 6) hE d_R_faultOf_19 rfl ?_
    refine g_ishr hE d_R_faultOf_21 ?_
    refine g_sipush hE d_R_faultOf_22 ks_255 ?_
    refine g_iand hE d_R_faultOf_25 ?_
    refine g_if_eq hE d_R_faultOf_26 (fun c5 => ?_) (fun c5 => ?_)
    · replace h := if_t c5 h
      exact gw.less (lv' := [some (va_rf (some o)), none, some (.int v2), none, some (.int v4), some (.int v5), none, none, none]) (And.intro rfl (And.intro rfl (And.intro rfl (And.intro rfl trivial)))) (hkx132 d v2 v4 v5 h)
    · replace h := if_f c5 h
      refine g_iload_n (i := 2) hE d_R_faultOf_29 rfl rfl ?_
      refine g_iload (i := 6) hE d_R_faultOf_30 rfl ?_
      refine g_ishr hE d_R_faultOf_32 ?_
      refine g_sipush hE d_R_faultOf_33 ks_255 ?_
      refine g_iand hE d_R_faultOf_36 ?_
      refine g_bipush hE d_R_faultOf_37 kb_24 ?_
      refine g_isub hE d_R_faultOf_39 ?_
      refine g_istore (i := 7) (lv' := [some (va_rf (some o)), some (.int v1), some (.int v2), some (.int v3), some (.int v4), some (.int v5), some (.int v6), some (.int (((v2 >>> (v6 &&& 31)) &&& 255) - 24)), none]) hE d_R_faultOf_40 (Nat.le_of_ble_eq_true rfl) ⟨rfl, Nat.le_of_ble_eq_true rfl⟩ (lvp_i rfl) ?_
      refine g_aload_n (i := 0) hE d_R_faultOf_42 rfl rfl ?_
      refine g_iload_n (i := 1) hE d_R_faultOf_43 rfl rfl ?_
      refine g_iload (i := 7) hE d_R_faultOf_44 rfl ?_
      obtain ⟨k1, h⟩ := kd_s h
      obtain ⟨x2, e3, h⟩ := bd_s h
      refine g_callV (av := [.inr (.inr (some o)), .inl v1, .inl (((v2 >>> (v6 &&& 31)) &&& 255) - 24)]) (as := [.inl v1, .inl (((v2 >>> (v6 &&& 31)) &&& 255) - 24)]) (stk := [.int x2]) [] hE (c_R_visible (xl X) (xG X) e3) ky_R_visible ⟨Nat.le_of_ble_eq_true rfl, Nat.le_of_ble_eq_true rfl⟩ rfl kc_R k1 m_462 m_463 m_464 rfl d_R_faultOf_46 rfl rfl ct_0 (Nat.zero_le _) (Nat.zero_le _) ?_
      refine gw.cs (c2 := 0) (s2 := 0) rfl rfl ?_
      refine g_if_ne hE d_R_faultOf_49 (fun c4 => ?_) (fun c4 => ?_)
      · replace h := if_f c4 h
        refine g_iconst hE d_R_faultOf_54 ki_0 ?_
        refine g_istore (i := 8) (lv' := [some (va_rf (some o)), some (.int v1), some (.int v2), some (.int v3), some (.int v4), some (.int v5), some (.int v6), some (.int (((v2 >>> (v6 &&& 31)) &&& 255) - 24)), some (.int 0)]) hE d_R_faultOf_55 (Nat.le_of_ble_eq_true rfl) ⟨rfl, Nat.le_of_ble_eq_true rfl⟩ (lvp_i rfl) ?_
        exact gw.less (lv' := [some (va_rf (some o)), some (.int v1), some (.int v2), some (.int v3), some (.int v4), some (.int v5), some (.int v6), some (.int (((v2 >>> (v6 &&& 31)) &&& 255) - 24)), some (.int 0)]) (And.intro rfl (And.intro rfl (And.intro rfl (And.intro rfl (And.intro rfl (And.intro rfl (And.intro rfl (And.intro rfl (And.intro rfl trivial))))))))) (w_R_faultOf_L57 hE (w_R_faultOf_J89 hE hkb hkx132) fu d v1 v2 v3 v4 v5 v6 (((v2 >>> (v6 &&& 31)) &&& 255) - 24) 0 h)
      · replace h := if_t c4 h
        refine g_iconst hE d_R_faultOf_52 ki_1 ?_
        cases h
        exact g_iret hE d_R_faultOf_53 rfl rfl
theorem w_R_faultOf_L11 {X : GX} (hE : gE X b_R_faultOf 9 "StandInMillModel" (some (.int)) "faultOf" 6 145) {S : gS} {o : Nat} {r : Int32} {d' : gD} {kx132 : gD → Int32 → Int32 → Int32 → Option (Int32 × gD)} (hkx132 : ∀ (d : gD) (v2 : Int32) (v4 : Int32) (v5 : Int32), kx132 d v2 v4 v5 = some (r, d') → gw X 0 0 (gQ X (some (.int r)) S d' 0 0) S d 132 [some (va_rf (some o)), none, some (.int v2), none, some (.int v4), some (.int v5), none, none, none] []) : ∀ (n : Nat) (d : gD) (v1 : Int32) (v2 : Int32) (v3 : Int32) (v4 : Int32) (v5 : Int32) (v6 : Int32), itr (f_R_faultOf_B11 S o kx132) (fun _ _ _ _ _ _ _ => none) n d v1 v2 v3 v4 v5 v6 = some (r, d') → gw X 0 0 (gQ X (some (.int r)) S d' 0 0) S d 11 [some (va_rf (some o)), some (.int v1), some (.int v2), some (.int v3), some (.int v4), some (.int v5), some (.int v6), none, none] [] := by
  intro n
  induction n with
  | zero => intro d v1 v2 v3 v4 v5 v6 h; cases h
  | succ n ih => exact w_R_faultOf_B11 hE ih hkx132
def f_R_faultOf_B154 (S : gS) (o : Nat) (kx180 : gD → Option (Int32 × gD)) (kb : gD → Int32 → Option (Int32 × gD)) (d : gD) (v6 : Int32) : Option (Int32 × gD) :=
  kd S o 10 <|
  lt_ (dI d o 31) fun x2 =>
  if x2 ≤ v6 then (
    kx180 d)
  else (
    bd (f_R_wrongResults S d o v6) fun x3 =>
    if x3 = 0 then (
      kb d (v6 + 1))
    else (
      some (4, d)))
set_option maxRecDepth 100000 in
set_option maxHeartbeats 4000000 in
theorem w_R_faultOf_B154 {X : GX} (hE : gE X b_R_faultOf 9 "StandInMillModel" (some (.int)) "faultOf" 6 145) {S : gS} {o : Nat} {r : Int32} {d' : gD} {kb : gD → Int32 → Option (Int32 × gD)} {kx180 : gD → Option (Int32 × gD)} (hkb : ∀ (d : gD) (v6 : Int32), kb d v6 = some (r, d') → gw X 0 0 (gQ X (some (.int r)) S d' 0 0) S d 154 [some (va_rf (some o)), none, none, none, none, none, some (.int v6), none, none] []) (hkx180 : ∀ (d : gD), kx180 d = some (r, d') → gw X 0 0 (gQ X (some (.int r)) S d' 0 0) S d 180 [some (va_rf (some o)), none, none, none, none, none, none, none, none] []) :
    ∀ (d : gD) (v6 : Int32), f_R_faultOf_B154 S o kx180 kb d v6 = some (r, d') → gw X 0 0 (gQ X (some (.int r)) S d' 0 0) S d 154 [some (va_rf (some o)), none, none, none, none, none, some (.int v6), none, none] [] := by
  intro d v6 h
  unfold f_R_faultOf_B154 at h
  refine g_iload (i := 6) hE d_R_faultOf_154 rfl ?_
  refine g_aload_n (i := 0) hE d_R_faultOf_156 rfl rfl ?_
  obtain ⟨k1, h⟩ := kd_s h
  refine g_getI 31 hE kc_R k1 (Nat.le_of_ble_eq_true rfl) rfl m_408 d_R_faultOf_157 (fun x2 e => ?_)
  replace h := lt_i e h; clear e
  refine g_icmp_ge hE d_R_faultOf_160 (fun c6 => ?_) (fun c6 => ?_)
  · replace h := if_t c6 h
    exact gw.less (lv' := [some (va_rf (some o)), none, none, none, none, none, none, none, none]) (And.intro rfl trivial) (hkx180 d h)
  · replace h := if_f c6 h
    refine g_aload_n (i := 0) hE d_R_faultOf_163 rfl rfl ?_
    refine g_iload (i := 6) hE d_R_faultOf_164 rfl ?_
    obtain ⟨x3, e4, h⟩ := bd_s h
    refine g_callV (av := [.inr (.inr (some o)), .inl v6]) (as := [.inl v6]) (stk := [.int x3]) [] hE (c_R_wrongResults (xl X) (xG X) e4) ky_R_wrongResults ⟨Nat.le_of_ble_eq_true rfl, Nat.le_of_ble_eq_true rfl⟩ rfl kc_R k1 m_468 m_469 m_470 rfl d_R_faultOf_166 rfl rfl ct_0 (Nat.zero_le _) (Nat.zero_le _) ?_
    refine gw.cs (c2 := 0) (s2 := 0) rfl rfl ?_
    refine g_if_eq hE d_R_faultOf_169 (fun c5 => ?_) (fun c5 => ?_)
    · replace h := if_t c5 h
      refine g_iinc (i := 6) (lv' := [some (va_rf (some o)), none, none, none, none, none, some (.int (v6 + 1)), none, none]) hE d_R_faultOf_174 ki_1 rfl (Nat.le_of_ble_eq_true rfl) ⟨rfl, Nat.le_of_ble_eq_true rfl⟩ (lvp_n rfl) ?_
      refine g_goto hE d_R_faultOf_177 ?_
      exact gw.less (lv' := [some (va_rf (some o)), none, none, none, none, none, some (.int (v6 + 1)), none, none]) (And.intro rfl (And.intro rfl trivial)) (hkb d (v6 + 1) h)
    · replace h := if_f c5 h
      refine g_iconst hE d_R_faultOf_172 ki_4 ?_
      cases h
      exact g_iret hE d_R_faultOf_173 rfl rfl
theorem w_R_faultOf_L154 {X : GX} (hE : gE X b_R_faultOf 9 "StandInMillModel" (some (.int)) "faultOf" 6 145) {S : gS} {o : Nat} {r : Int32} {d' : gD} {kx180 : gD → Option (Int32 × gD)} (hkx180 : ∀ (d : gD), kx180 d = some (r, d') → gw X 0 0 (gQ X (some (.int r)) S d' 0 0) S d 180 [some (va_rf (some o)), none, none, none, none, none, none, none, none] []) : ∀ (n : Nat) (d : gD) (v6 : Int32), itr (f_R_faultOf_B154 S o kx180) (fun _ _ => none) n d v6 = some (r, d') → gw X 0 0 (gQ X (some (.int r)) S d' 0 0) S d 154 [some (va_rf (some o)), none, none, none, none, none, some (.int v6), none, none] [] := by
  intro n
  induction n with
  | zero => intro d v6 h; cases h
  | succ n ih => exact w_R_faultOf_B154 hE ih hkx180
def f_R_faultOf_J180 (S : gS) (o : Nat) (d : gD) : Option (Int32 × gD) :=
  kd S o 10 <|
  lt_ (dI d o 31) fun x2 =>
  if x2 ≤ 40 then (
    lt_ (dI d o 21) fun x3 =>
    if x3 = 16 then (
      some (6, d))
    else (
      some (0, d)))
  else (
    some (5, d))
set_option maxRecDepth 100000 in
set_option maxHeartbeats 4000000 in
theorem w_R_faultOf_J180 {X : GX} (hE : gE X b_R_faultOf 9 "StandInMillModel" (some (.int)) "faultOf" 6 145) {S : gS} {o : Nat} {r : Int32} {d' : gD} :
    ∀ (d : gD), f_R_faultOf_J180 S o d = some (r, d') → gw X 0 0 (gQ X (some (.int r)) S d' 0 0) S d 180 [some (va_rf (some o)), none, none, none, none, none, none, none, none] [] := by
  intro d h
  unfold f_R_faultOf_J180 at h
  refine g_aload_n (i := 0) hE d_R_faultOf_180 rfl rfl ?_
  obtain ⟨k1, h⟩ := kd_s h
  refine g_getI 31 hE kc_R k1 (Nat.le_of_ble_eq_true rfl) rfl m_408 d_R_faultOf_181 (fun x2 e => ?_)
  replace h := lt_i e h; clear e
  refine g_bipush hE d_R_faultOf_184 kb_40 ?_
  refine g_icmp_le hE d_R_faultOf_186 (fun c5 => ?_) (fun c5 => ?_)
  · replace h := if_t c5 h
    refine g_aload_n (i := 0) hE d_R_faultOf_193 rfl rfl ?_
    refine g_getI 21 hE kc_R k1 (Nat.le_of_ble_eq_true rfl) rfl m_398 d_R_faultOf_194 (fun x3 e => ?_)
    replace h := lt_i e h; clear e
    refine g_bipush hE d_R_faultOf_197 kb_16 ?_
    refine g_icmp_ne hE d_R_faultOf_199 (fun c4 => ?_) (fun c4 => ?_)
    · replace h := if_f c4 h
      refine g_iconst hE d_R_faultOf_207 ki_0 ?_
      cases h
      exact g_iret hE d_R_faultOf_208 rfl rfl
    · replace h := if_t c4 h
      refine g_bipush hE d_R_faultOf_202 kb_6 ?_
      refine g_goto hE d_R_faultOf_204 ?_
      cases h
      exact g_iret hE d_R_faultOf_208 rfl rfl
  · replace h := if_f c5 h
    refine g_iconst hE d_R_faultOf_189 ki_5 ?_
    refine g_goto hE d_R_faultOf_190 ?_
    cases h
    exact g_iret hE d_R_faultOf_208 rfl rfl
def f_R_faultOf_J132 (S : gS) (o : Nat) (d : gD) (v2 : Int32) (v4 : Int32) (v5 : Int32) : Option (Int32 × gD) :=
  if v5 = 0 then (
    if v4 = 0 then (
      kd S o 10 <|
      bdD (f_R_describe S d o v2) fun _ d4 =>
      itr (f_R_faultOf_B154 S o (f_R_faultOf_J180 S o)) (fun _ _ => none) fu d4 0)
    else (
      some (3, d)))
  else (
    some (2, d))
set_option maxRecDepth 100000 in
set_option maxHeartbeats 4000000 in
theorem w_R_faultOf_J132 {X : GX} (hE : gE X b_R_faultOf 9 "StandInMillModel" (some (.int)) "faultOf" 6 145) {S : gS} {o : Nat} {r : Int32} {d' : gD} :
    ∀ (d : gD) (v2 : Int32) (v4 : Int32) (v5 : Int32), f_R_faultOf_J132 S o d v2 v4 v5 = some (r, d') → gw X 0 0 (gQ X (some (.int r)) S d' 0 0) S d 132 [some (va_rf (some o)), none, some (.int v2), none, some (.int v4), some (.int v5), none, none, none] [] := by
  intro d v2 v4 v5 h
  unfold f_R_faultOf_J132 at h
  refine g_iload (i := 5) hE d_R_faultOf_132 rfl ?_
  refine g_if_eq hE d_R_faultOf_134 (fun c6 => ?_) (fun c6 => ?_)
  · replace h := if_t c6 h
    refine g_iload (i := 4) hE d_R_faultOf_139 rfl ?_
    refine g_if_eq hE d_R_faultOf_141 (fun c5 => ?_) (fun c5 => ?_)
    · replace h := if_t c5 h
      refine g_aload_n (i := 0) hE d_R_faultOf_146 rfl rfl ?_
      refine g_iload_n (i := 2) hE d_R_faultOf_147 rfl rfl ?_
      obtain ⟨k1, h⟩ := kd_s h
      obtain ⟨x2, d4, e3, h⟩ := bdD_s h
      refine g_callV (av := [.inr (.inr (some o)), .inl v2]) (as := [.inl v2]) (stk := []) [] hE (c_R_describe (xl X) (xG X) e3) ky_R_describe ⟨Nat.le_of_ble_eq_true rfl, Nat.le_of_ble_eq_true rfl⟩ rfl kc_R k1 m_465 m_466 m_467 rfl d_R_faultOf_148 rfl rfl ct_0 (Nat.zero_le _) (Nat.zero_le _) ?_
      refine gw.cs (c2 := 0) (s2 := 0) rfl rfl ?_
      refine g_iconst hE d_R_faultOf_151 ki_0 ?_
      refine g_istore (i := 6) (lv' := [some (va_rf (some o)), none, some (.int v2), none, some (.int v4), some (.int v5), some (.int 0), none, none]) hE d_R_faultOf_152 (Nat.le_of_ble_eq_true rfl) ⟨rfl, Nat.le_of_ble_eq_true rfl⟩ (lvp_i rfl) ?_
      exact gw.less (lv' := [some (va_rf (some o)), none, none, none, none, none, some (.int 0), none, none]) (And.intro rfl (And.intro rfl trivial)) (w_R_faultOf_L154 hE (w_R_faultOf_J180 hE) fu d4 0 h)
    · replace h := if_f c5 h
      refine g_iconst hE d_R_faultOf_144 ki_3 ?_
      cases h
      exact g_iret hE d_R_faultOf_145 rfl rfl
  · replace h := if_f c6 h
    refine g_iconst hE d_R_faultOf_137 ki_2 ?_
    cases h
    exact g_iret hE d_R_faultOf_138 rfl rfl
set_option maxRecDepth 100000 in
def f_R_faultOf (S : gS) (d : gD) (o : Nat) (v1 : Int32) (v2 : Int32) : Option (Int32 × gD) :=
  itr (f_R_faultOf_B11 S o (f_R_faultOf_J132 S o)) (fun _ _ _ _ _ _ _ => none) fu d v1 v2 4 0 0 0
set_option maxRecDepth 100000 in
set_option maxHeartbeats 4000000 in
theorem c_R_faultOf (l : Launch) (G : gG) {S : gS} {d : gD} {o : Nat} {v1 : Int32} {v2 : Int32} {r : Int32} {d' : gD} (h : f_R_faultOf S d o v1 v2 = some (r, d')) : GM l G y_R_faultOf b_R_faultOf 9 (some (.int)) 6 145 0 0 [.inr (.inr (some o)), .inl v1, .inl v2] S d (some (.int r)) S d' := by
  refine GM.of (by decide) (Nat.le_of_ble_eq_true rfl) ?_
  intro X hl0 hG0 hR0 hE0
  have hE : gE X b_R_faultOf 9 "StandInMillModel" (some (.int)) "faultOf" 6 145 := hE0
  unfold f_R_faultOf at h
  refine gw.less (lv' := [some (va_rf (some o)), some (.int v1), some (.int v2), none, none, none, none, none, none]) (And.intro rfl (And.intro rfl (And.intro rfl trivial))) ?_
  refine g_iconst hE d_R_faultOf_0 ki_4 ?_
  refine g_istore_n (i := 3) (lv' := [some (va_rf (some o)), some (.int v1), some (.int v2), some (.int 4), none, none, none, none, none]) hE d_R_faultOf_1 rfl (Nat.le_of_ble_eq_true rfl) ⟨rfl, Nat.le_of_ble_eq_true rfl⟩ (lvp_i rfl) ?_
  refine g_iconst hE d_R_faultOf_2 ki_0 ?_
  refine g_istore (i := 4) (lv' := [some (va_rf (some o)), some (.int v1), some (.int v2), some (.int 4), some (.int 0), none, none, none, none]) hE d_R_faultOf_3 (Nat.le_of_ble_eq_true rfl) ⟨rfl, Nat.le_of_ble_eq_true rfl⟩ (lvp_i rfl) ?_
  refine g_iconst hE d_R_faultOf_5 ki_0 ?_
  refine g_istore (i := 5) (lv' := [some (va_rf (some o)), some (.int v1), some (.int v2), some (.int 4), some (.int 0), some (.int 0), none, none, none]) hE d_R_faultOf_6 (Nat.le_of_ble_eq_true rfl) ⟨rfl, Nat.le_of_ble_eq_true rfl⟩ (lvp_i rfl) ?_
  refine g_iconst hE d_R_faultOf_8 ki_0 ?_
  refine g_istore (i := 6) (lv' := [some (va_rf (some o)), some (.int v1), some (.int v2), some (.int 4), some (.int 0), some (.int 0), some (.int 0), none, none]) hE d_R_faultOf_9 (Nat.le_of_ble_eq_true rfl) ⟨rfl, Nat.le_of_ble_eq_true rfl⟩ (lvp_i rfl) ?_
  exact gw.less (lv' := [some (va_rf (some o)), some (.int v1), some (.int v2), some (.int 4), some (.int 0), some (.int 0), some (.int 0), none, none]) (And.intro rfl (And.intro rfl (And.intro rfl (And.intro rfl (And.intro rfl (And.intro rfl (And.intro rfl trivial))))))) (w_R_faultOf_L11 hE (w_R_faultOf_J132 hE) fu d v1 v2 4 0 0 0 h)
